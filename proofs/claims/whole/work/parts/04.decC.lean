theorem dX0_init_0 : decode cX0_init 0 = .ok (.aload_n 0, 1) := by decide +kernel
theorem dX0_init_1 : decode cX0_init 1 = .ok (.invokespecial 3, 3) := by decide +kernel
theorem dX0_init_4 : decode cX0_init 4 = .ok (.aload_n 0, 1) := by decide +kernel
theorem dX0_init_5 : decode cX0_init 5 = .ok (.sipush 256, 3) := by decide +kernel
theorem dX0_init_8 : decode cX0_init 8 = .ok (.anewarray 9, 3) := by decide +kernel
theorem dX0_init_11 : decode cX0_init 11 = .ok (.putfield 11, 3) := by decide +kernel
theorem dX0_init_14 : decode cX0_init 14 = .ok (.aload_n 0, 1) := by decide +kernel
theorem dX0_init_15 : decode cX0_init 15 = .ok (.sipush 256, 3) := by decide +kernel
theorem dX0_init_18 : decode cX0_init 18 = .ok (.anewarray 9, 3) := by decide +kernel
theorem dX0_init_21 : decode cX0_init 21 = .ok (.putfield 17, 3) := by decide +kernel
theorem dX0_init_24 : decode cX0_init 24 = .ok (.aload_n 0, 1) := by decide +kernel
theorem dX0_init_25 : decode cX0_init 25 = .ok (.sipush 768, 3) := by decide +kernel
theorem dX0_init_28 : decode cX0_init 28 = .ok (.newarray .int, 2) := by decide +kernel
theorem dX0_init_30 : decode cX0_init 30 = .ok (.putfield 20, 3) := by decide +kernel
theorem dX0_init_33 : decode cX0_init 33 = .ok (.return_, 1) := by decide +kernel
theorem dX0_isFull_0 : decode cX0_isFull 0 = .ok (.aload_n 0, 1) := by decide +kernel
theorem dX0_isFull_1 : decode cX0_isFull 1 = .ok (.getfield 24, 3) := by decide +kernel
theorem dX0_isFull_4 : decode cX0_isFull 4 = .ok (.sipush 256, 3) := by decide +kernel
theorem dX0_isFull_7 : decode cX0_isFull 7 = .ok (.if_icmp .lt 7, 3) := by decide +kernel
theorem dX0_isFull_10 : decode cX0_isFull 10 = .ok (.iconst 1, 1) := by decide +kernel
theorem dX0_isFull_11 : decode cX0_isFull 11 = .ok (.goto 4, 3) := by decide +kernel
theorem dX0_isFull_14 : decode cX0_isFull 14 = .ok (.iconst 0, 1) := by decide +kernel
theorem dX0_isFull_15 : decode cX0_isFull 15 = .ok (.ireturn, 1) := by decide +kernel
theorem dX0_find_0 : decode cX0_find 0 = .ok (.iload_n 1, 1) := by decide +kernel
theorem dX0_find_1 : decode cX0_find 1 = .ok (.ifCond .lt 20, 3) := by decide +kernel
theorem dX0_find_4 : decode cX0_find 4 = .ok (.iload_n 1, 1) := by decide +kernel
theorem dX0_find_5 : decode cX0_find 5 = .ok (.aload_n 0, 1) := by decide +kernel
theorem dX0_find_6 : decode cX0_find 6 = .ok (.getfield 24, 3) := by decide +kernel
theorem dX0_find_9 : decode cX0_find 9 = .ok (.if_icmp .ge 12, 3) := by decide +kernel
theorem dX0_find_12 : decode cX0_find 12 = .ok (.aload_n 0, 1) := by decide +kernel
theorem dX0_find_13 : decode cX0_find 13 = .ok (.getfield 11, 3) := by decide +kernel
theorem dX0_find_16 : decode cX0_find 16 = .ok (.iload_n 1, 1) := by decide +kernel
theorem dX0_find_17 : decode cX0_find 17 = .ok (.aaload, 1) := by decide +kernel
theorem dX0_find_18 : decode cX0_find 18 = .ok (.goto 4, 3) := by decide +kernel
theorem dX0_find_21 : decode cX0_find 21 = .ok (.aconst_null, 1) := by decide +kernel
theorem dX0_find_22 : decode cX0_find 22 = .ok (.areturn, 1) := by decide +kernel
theorem dX0_add_0 : decode cX0_add 0 = .ok (.aload_n 0, 1) := by decide +kernel
theorem dX0_add_1 : decode cX0_add 1 = .ok (.invokevirtual 28, 3) := by decide +kernel
theorem dX0_add_4 : decode cX0_add 4 = .ok (.ifCond .eq 4, 3) := by decide +kernel
theorem dX0_add_7 : decode cX0_add 7 = .ok (.return_, 1) := by decide +kernel
theorem dX0_add_8 : decode cX0_add 8 = .ok (.aload_n 0, 1) := by decide +kernel
theorem dX0_add_9 : decode cX0_add 9 = .ok (.getfield 11, 3) := by decide +kernel
theorem dX0_add_12 : decode cX0_add 12 = .ok (.aload_n 0, 1) := by decide +kernel
theorem dX0_add_13 : decode cX0_add 13 = .ok (.getfield 24, 3) := by decide +kernel
theorem dX0_add_16 : decode cX0_add 16 = .ok (.aload_n 1, 1) := by decide +kernel
theorem dX0_add_17 : decode cX0_add 17 = .ok (.aastore, 1) := by decide +kernel
theorem dX0_add_18 : decode cX0_add 18 = .ok (.aload_n 0, 1) := by decide +kernel
theorem dX0_add_19 : decode cX0_add 19 = .ok (.aload_n 1, 1) := by decide +kernel
theorem dX0_add_20 : decode cX0_add 20 = .ok (.invokevirtual 32, 3) := by decide +kernel
theorem dX0_add_23 : decode cX0_add 23 = .ok (.aload_n 0, 1) := by decide +kernel
theorem dX0_add_24 : decode cX0_add 24 = .ok (.dup, 1) := by decide +kernel
theorem dX0_add_25 : decode cX0_add 25 = .ok (.getfield 24, 3) := by decide +kernel
theorem dX0_add_28 : decode cX0_add 28 = .ok (.iconst 1, 1) := by decide +kernel
theorem dX0_add_29 : decode cX0_add 29 = .ok (.iadd, 1) := by decide +kernel
theorem dX0_add_30 : decode cX0_add 30 = .ok (.putfield 24, 3) := by decide +kernel
theorem dX0_add_33 : decode cX0_add 33 = .ok (.aload_n 1, 1) := by decide +kernel
theorem dX0_add_34 : decode cX0_add 34 = .ok (.instanceof 36, 3) := by decide +kernel
theorem dX0_add_37 : decode cX0_add 37 = .ok (.ifCond .eq 13, 3) := by decide +kernel
theorem dX0_add_40 : decode cX0_add 40 = .ok (.aload_n 1, 1) := by decide +kernel
theorem dX0_add_41 : decode cX0_add 41 = .ok (.checkcast 36, 3) := by decide +kernel
theorem dX0_add_44 : decode cX0_add 44 = .ok (.astore_n 2, 1) := by decide +kernel
theorem dX0_add_45 : decode cX0_add 45 = .ok (.aload_n 0, 1) := by decide +kernel
theorem dX0_add_46 : decode cX0_add 46 = .ok (.aload_n 2, 1) := by decide +kernel
theorem dX0_add_47 : decode cX0_add 47 = .ok (.invokevirtual 38, 3) := by decide +kernel
theorem dX0_add_50 : decode cX0_add 50 = .ok (.return_, 1) := by decide +kernel
theorem dX0_codeOf_0 : decode cX0_codeOf 0 = .ok (.aload_n 0, 1) := by decide +kernel
theorem dX0_codeOf_1 : decode cX0_codeOf 1 = .ok (.iload_n 1, 1) := by decide +kernel
theorem dX0_codeOf_2 : decode cX0_codeOf 2 = .ok (.invokestatic 42, 3) := by decide +kernel
theorem dX0_codeOf_5 : decode cX0_codeOf 5 = .ok (.invokevirtual 46, 3) := by decide +kernel
theorem dX0_codeOf_8 : decode cX0_codeOf 8 = .ok (.astore_n 3, 1) := by decide +kernel
theorem dX0_codeOf_9 : decode cX0_codeOf 9 = .ok (.aload_n 3, 1) := by decide +kernel
theorem dX0_codeOf_10 : decode cX0_codeOf 10 = .ok (.instanceof 36, 3) := by decide +kernel
theorem dX0_codeOf_13 : decode cX0_codeOf 13 = .ok (.ifCond .eq 32, 3) := by decide +kernel
theorem dX0_codeOf_16 : decode cX0_codeOf 16 = .ok (.aload_n 3, 1) := by decide +kernel
theorem dX0_codeOf_17 : decode cX0_codeOf 17 = .ok (.checkcast 36, 3) := by decide +kernel
theorem dX0_codeOf_20 : decode cX0_codeOf 20 = .ok (.astore_n 2, 1) := by decide +kernel
theorem dX0_codeOf_21 : decode cX0_codeOf 21 = .ok (.iload_n 1, 1) := by decide +kernel
theorem dX0_codeOf_22 : decode cX0_codeOf 22 = .ok (.iconst 4, 1) := by decide +kernel
theorem dX0_codeOf_23 : decode cX0_codeOf 23 = .ok (.irem, 1) := by decide +kernel
theorem dX0_codeOf_24 : decode cX0_codeOf 24 = .ok (.istore_n 3, 1) := by decide +kernel
theorem dX0_codeOf_25 : decode cX0_codeOf 25 = .ok (.iload_n 3, 1) := by decide +kernel
theorem dX0_codeOf_26 : decode cX0_codeOf 26 = .ok (.aload_n 2, 1) := by decide +kernel
theorem dX0_codeOf_27 : decode cX0_codeOf 27 = .ok (.getfield 50, 3) := by decide +kernel
theorem dX0_codeOf_30 : decode cX0_codeOf 30 = .ok (.arraylength, 1) := by decide +kernel
theorem dX0_codeOf_31 : decode cX0_codeOf 31 = .ok (.if_icmp .ge 12, 3) := by decide +kernel
theorem dX0_codeOf_34 : decode cX0_codeOf 34 = .ok (.aload_n 2, 1) := by decide +kernel
theorem dX0_codeOf_35 : decode cX0_codeOf 35 = .ok (.getfield 50, 3) := by decide +kernel
theorem dX0_codeOf_38 : decode cX0_codeOf 38 = .ok (.iload_n 3, 1) := by decide +kernel
theorem dX0_codeOf_39 : decode cX0_codeOf 39 = .ok (.iaload, 1) := by decide +kernel
theorem dX0_codeOf_40 : decode cX0_codeOf 40 = .ok (.goto 4, 3) := by decide +kernel
theorem dX0_codeOf_43 : decode cX0_codeOf 43 = .ok (.iconst (-1), 1) := by decide +kernel
theorem dX0_codeOf_44 : decode cX0_codeOf 44 = .ok (.ireturn, 1) := by decide +kernel
theorem dX0_codeOf_45 : decode cX0_codeOf 45 = .ok (.iconst (-1), 1) := by decide +kernel
theorem dX0_codeOf_46 : decode cX0_codeOf 46 = .ok (.ireturn, 1) := by decide +kernel
theorem dX0_penOf_0 : decode cX0_penOf 0 = .ok (.aload_n 0, 1) := by decide +kernel
theorem dX0_penOf_1 : decode cX0_penOf 1 = .ok (.iload_n 1, 1) := by decide +kernel
theorem dX0_penOf_2 : decode cX0_penOf 2 = .ok (.invokestatic 42, 3) := by decide +kernel
theorem dX0_penOf_5 : decode cX0_penOf 5 = .ok (.invokevirtual 46, 3) := by decide +kernel
theorem dX0_penOf_8 : decode cX0_penOf 8 = .ok (.astore_n 2, 1) := by decide +kernel
theorem dX0_penOf_9 : decode cX0_penOf 9 = .ok (.aload_n 2, 1) := by decide +kernel
theorem dX0_penOf_10 : decode cX0_penOf 10 = .ok (.ifnonnull 7, 3) := by decide +kernel
theorem dX0_penOf_13 : decode cX0_penOf 13 = .ok (.iconst (-1), 1) := by decide +kernel
theorem dX0_penOf_14 : decode cX0_penOf 14 = .ok (.goto 7, 3) := by decide +kernel
theorem dX0_penOf_17 : decode cX0_penOf 17 = .ok (.aload_n 2, 1) := by decide +kernel
theorem dX0_penOf_18 : decode cX0_penOf 18 = .ok (.getfield 53, 3) := by decide +kernel
theorem dX0_penOf_21 : decode cX0_penOf 21 = .ok (.ireturn, 1) := by decide +kernel
theorem dX0_insertByAge_0 : decode cX0_insertByAge 0 = .ok (.aload_n 0, 1) := by decide +kernel
theorem dX0_insertByAge_1 : decode cX0_insertByAge 1 = .ok (.getfield 24, 3) := by decide +kernel
theorem dX0_insertByAge_4 : decode cX0_insertByAge 4 = .ok (.istore_n 2, 1) := by decide +kernel
theorem dX0_insertByAge_5 : decode cX0_insertByAge 5 = .ok (.iload_n 2, 1) := by decide +kernel
theorem dX0_insertByAge_6 : decode cX0_insertByAge 6 = .ok (.ifCond .le 38, 3) := by decide +kernel
theorem dX0_insertByAge_9 : decode cX0_insertByAge 9 = .ok (.aload_n 0, 1) := by decide +kernel
theorem dX0_insertByAge_10 : decode cX0_insertByAge 10 = .ok (.getfield 17, 3) := by decide +kernel
theorem dX0_insertByAge_13 : decode cX0_insertByAge 13 = .ok (.iload_n 2, 1) := by decide +kernel
theorem dX0_insertByAge_14 : decode cX0_insertByAge 14 = .ok (.iconst 1, 1) := by decide +kernel
theorem dX0_insertByAge_15 : decode cX0_insertByAge 15 = .ok (.isub, 1) := by decide +kernel
theorem dX0_insertByAge_16 : decode cX0_insertByAge 16 = .ok (.aaload, 1) := by decide +kernel
theorem dX0_insertByAge_17 : decode cX0_insertByAge 17 = .ok (.aload_n 1, 1) := by decide +kernel
theorem dX0_insertByAge_18 : decode cX0_insertByAge 18 = .ok (.invokevirtual 56, 3) := by decide +kernel
theorem dX0_insertByAge_21 : decode cX0_insertByAge 21 = .ok (.ifCond .eq 23, 3) := by decide +kernel
theorem dX0_insertByAge_24 : decode cX0_insertByAge 24 = .ok (.aload_n 0, 1) := by decide +kernel
theorem dX0_insertByAge_25 : decode cX0_insertByAge 25 = .ok (.getfield 17, 3) := by decide +kernel
theorem dX0_insertByAge_28 : decode cX0_insertByAge 28 = .ok (.iload_n 2, 1) := by decide +kernel
theorem dX0_insertByAge_29 : decode cX0_insertByAge 29 = .ok (.aload_n 0, 1) := by decide +kernel
theorem dX0_insertByAge_30 : decode cX0_insertByAge 30 = .ok (.getfield 17, 3) := by decide +kernel
theorem dX0_insertByAge_33 : decode cX0_insertByAge 33 = .ok (.iload_n 2, 1) := by decide +kernel
theorem dX0_insertByAge_34 : decode cX0_insertByAge 34 = .ok (.iconst 1, 1) := by decide +kernel
theorem dX0_insertByAge_35 : decode cX0_insertByAge 35 = .ok (.isub, 1) := by decide +kernel
theorem dX0_insertByAge_36 : decode cX0_insertByAge 36 = .ok (.aaload, 1) := by decide +kernel
theorem dX0_insertByAge_37 : decode cX0_insertByAge 37 = .ok (.aastore, 1) := by decide +kernel
theorem dX0_insertByAge_38 : decode cX0_insertByAge 38 = .ok (.iinc 2 (-1), 3) := by decide +kernel
theorem dX0_insertByAge_41 : decode cX0_insertByAge 41 = .ok (.goto (-36), 3) := by decide +kernel
theorem dX0_insertByAge_44 : decode cX0_insertByAge 44 = .ok (.aload_n 0, 1) := by decide +kernel
theorem dX0_insertByAge_45 : decode cX0_insertByAge 45 = .ok (.getfield 17, 3) := by decide +kernel
theorem dX0_insertByAge_48 : decode cX0_insertByAge 48 = .ok (.iload_n 2, 1) := by decide +kernel
theorem dX0_insertByAge_49 : decode cX0_insertByAge 49 = .ok (.aload_n 1, 1) := by decide +kernel
theorem dX0_insertByAge_50 : decode cX0_insertByAge 50 = .ok (.aastore, 1) := by decide +kernel
theorem dX0_insertByAge_51 : decode cX0_insertByAge 51 = .ok (.return_, 1) := by decide +kernel
theorem dX0_insertSigns_0 : decode cX0_insertSigns 0 = .ok (.aload_n 1, 1) := by decide +kernel
theorem dX0_insertSigns_1 : decode cX0_insertSigns 1 = .ok (.getfield 50, 3) := by decide +kernel
theorem dX0_insertSigns_4 : decode cX0_insertSigns 4 = .ok (.arraylength, 1) := by decide +kernel
theorem dX0_insertSigns_5 : decode cX0_insertSigns 5 = .ok (.istore_n 2, 1) := by decide +kernel
theorem dX0_insertSigns_6 : decode cX0_insertSigns 6 = .ok (.aload_n 0, 1) := by decide +kernel
theorem dX0_insertSigns_7 : decode cX0_insertSigns 7 = .ok (.aload_n 1, 1) := by decide +kernel
theorem dX0_insertSigns_8 : decode cX0_insertSigns 8 = .ok (.invokevirtual 60, 3) := by decide +kernel
theorem dX0_insertSigns_11 : decode cX0_insertSigns 11 = .ok (.istore_n 3, 1) := by decide +kernel
theorem dX0_insertSigns_12 : decode cX0_insertSigns 12 = .ok (.aload_n 0, 1) := by decide +kernel
theorem dX0_insertSigns_13 : decode cX0_insertSigns 13 = .ok (.getfield 64, 3) := by decide +kernel
theorem dX0_insertSigns_16 : decode cX0_insertSigns 16 = .ok (.iconst 1, 1) := by decide +kernel
theorem dX0_insertSigns_17 : decode cX0_insertSigns 17 = .ok (.isub, 1) := by decide +kernel
theorem dX0_insertSigns_18 : decode cX0_insertSigns 18 = .ok (.istore 4, 2) := by decide +kernel
theorem dX0_insertSigns_20 : decode cX0_insertSigns 20 = .ok (.iload 4, 2) := by decide +kernel
theorem dX0_insertSigns_22 : decode cX0_insertSigns 22 = .ok (.iload_n 3, 1) := by decide +kernel
theorem dX0_insertSigns_23 : decode cX0_insertSigns 23 = .ok (.if_icmp .lt 25, 3) := by decide +kernel
theorem dX0_insertSigns_26 : decode cX0_insertSigns 26 = .ok (.aload_n 0, 1) := by decide +kernel
theorem dX0_insertSigns_27 : decode cX0_insertSigns 27 = .ok (.getfield 20, 3) := by decide +kernel
theorem dX0_insertSigns_30 : decode cX0_insertSigns 30 = .ok (.iload 4, 2) := by decide +kernel
theorem dX0_insertSigns_32 : decode cX0_insertSigns 32 = .ok (.iload_n 2, 1) := by decide +kernel
theorem dX0_insertSigns_33 : decode cX0_insertSigns 33 = .ok (.iadd, 1) := by decide +kernel
theorem dX0_insertSigns_34 : decode cX0_insertSigns 34 = .ok (.aload_n 0, 1) := by decide +kernel
theorem dX0_insertSigns_35 : decode cX0_insertSigns 35 = .ok (.getfield 20, 3) := by decide +kernel
theorem dX0_insertSigns_38 : decode cX0_insertSigns 38 = .ok (.iload 4, 2) := by decide +kernel
theorem dX0_insertSigns_40 : decode cX0_insertSigns 40 = .ok (.iaload, 1) := by decide +kernel
theorem dX0_insertSigns_41 : decode cX0_insertSigns 41 = .ok (.iastore, 1) := by decide +kernel
theorem dX0_insertSigns_42 : decode cX0_insertSigns 42 = .ok (.iinc 4 (-1), 3) := by decide +kernel
theorem dX0_insertSigns_45 : decode cX0_insertSigns 45 = .ok (.goto (-25), 3) := by decide +kernel
theorem dX0_insertSigns_48 : decode cX0_insertSigns 48 = .ok (.iconst 0, 1) := by decide +kernel
theorem dX0_insertSigns_49 : decode cX0_insertSigns 49 = .ok (.istore 4, 2) := by decide +kernel
theorem dX0_insertSigns_51 : decode cX0_insertSigns 51 = .ok (.iload 4, 2) := by decide +kernel
theorem dX0_insertSigns_53 : decode cX0_insertSigns 53 = .ok (.iload_n 2, 1) := by decide +kernel
theorem dX0_insertSigns_54 : decode cX0_insertSigns 54 = .ok (.if_icmp .ge 24, 3) := by decide +kernel
theorem dX0_insertSigns_57 : decode cX0_insertSigns 57 = .ok (.aload_n 0, 1) := by decide +kernel
theorem dX0_insertSigns_58 : decode cX0_insertSigns 58 = .ok (.getfield 20, 3) := by decide +kernel
theorem dX0_insertSigns_61 : decode cX0_insertSigns 61 = .ok (.iload_n 3, 1) := by decide +kernel
theorem dX0_insertSigns_62 : decode cX0_insertSigns 62 = .ok (.iload 4, 2) := by decide +kernel
theorem dX0_insertSigns_64 : decode cX0_insertSigns 64 = .ok (.iadd, 1) := by decide +kernel
theorem dX0_insertSigns_65 : decode cX0_insertSigns 65 = .ok (.aload_n 1, 1) := by decide +kernel
theorem dX0_insertSigns_66 : decode cX0_insertSigns 66 = .ok (.iload 4, 2) := by decide +kernel
theorem dX0_insertSigns_68 : decode cX0_insertSigns 68 = .ok (.invokevirtual 67, 3) := by decide +kernel
theorem dX0_insertSigns_71 : decode cX0_insertSigns 71 = .ok (.iastore, 1) := by decide +kernel
theorem dX0_insertSigns_72 : decode cX0_insertSigns 72 = .ok (.iinc 4 1, 3) := by decide +kernel
theorem dX0_insertSigns_75 : decode cX0_insertSigns 75 = .ok (.goto (-24), 3) := by decide +kernel
theorem dX0_insertSigns_78 : decode cX0_insertSigns 78 = .ok (.aload_n 0, 1) := by decide +kernel
theorem dX0_insertSigns_79 : decode cX0_insertSigns 79 = .ok (.dup, 1) := by decide +kernel
theorem dX0_insertSigns_80 : decode cX0_insertSigns 80 = .ok (.getfield 64, 3) := by decide +kernel
theorem dX0_insertSigns_83 : decode cX0_insertSigns 83 = .ok (.iload_n 2, 1) := by decide +kernel
theorem dX0_insertSigns_84 : decode cX0_insertSigns 84 = .ok (.iadd, 1) := by decide +kernel
theorem dX0_insertSigns_85 : decode cX0_insertSigns 85 = .ok (.putfield 64, 3) := by decide +kernel
theorem dX0_insertSigns_88 : decode cX0_insertSigns 88 = .ok (.return_, 1) := by decide +kernel
theorem dX0_spotFor_0 : decode cX0_spotFor 0 = .ok (.iconst 0, 1) := by decide +kernel
theorem dX0_spotFor_1 : decode cX0_spotFor 1 = .ok (.istore_n 2, 1) := by decide +kernel
theorem dX0_spotFor_2 : decode cX0_spotFor 2 = .ok (.aload_n 1, 1) := by decide +kernel
theorem dX0_spotFor_3 : decode cX0_spotFor 3 = .ok (.getfield 70, 3) := by decide +kernel
theorem dX0_spotFor_6 : decode cX0_spotFor 6 = .ok (.bipush (-2), 2) := by decide +kernel
theorem dX0_spotFor_8 : decode cX0_spotFor 8 = .ok (.if_icmp .eq 41, 3) := by decide +kernel
theorem dX0_spotFor_11 : decode cX0_spotFor 11 = .ok (.iload_n 2, 1) := by decide +kernel
theorem dX0_spotFor_12 : decode cX0_spotFor 12 = .ok (.aload_n 0, 1) := by decide +kernel
theorem dX0_spotFor_13 : decode cX0_spotFor 13 = .ok (.getfield 64, 3) := by decide +kernel
theorem dX0_spotFor_16 : decode cX0_spotFor 16 = .ok (.if_icmp .ge 22, 3) := by decide +kernel
theorem dX0_spotFor_19 : decode cX0_spotFor 19 = .ok (.aload_n 0, 1) := by decide +kernel
theorem dX0_spotFor_20 : decode cX0_spotFor 20 = .ok (.getfield 20, 3) := by decide +kernel
theorem dX0_spotFor_23 : decode cX0_spotFor 23 = .ok (.iload_n 2, 1) := by decide +kernel
theorem dX0_spotFor_24 : decode cX0_spotFor 24 = .ok (.iaload, 1) := by decide +kernel
theorem dX0_spotFor_25 : decode cX0_spotFor 25 = .ok (.aload_n 1, 1) := by decide +kernel
theorem dX0_spotFor_26 : decode cX0_spotFor 26 = .ok (.getfield 70, 3) := by decide +kernel
theorem dX0_spotFor_29 : decode cX0_spotFor 29 = .ok (.if_icmp .eq 9, 3) := by decide +kernel
theorem dX0_spotFor_32 : decode cX0_spotFor 32 = .ok (.iinc 2 1, 3) := by decide +kernel
theorem dX0_spotFor_35 : decode cX0_spotFor 35 = .ok (.goto (-24), 3) := by decide +kernel
theorem dX0_spotFor_38 : decode cX0_spotFor 38 = .ok (.iload_n 2, 1) := by decide +kernel
theorem dX0_spotFor_39 : decode cX0_spotFor 39 = .ok (.iconst 1, 1) := by decide +kernel
theorem dX0_spotFor_40 : decode cX0_spotFor 40 = .ok (.iadd, 1) := by decide +kernel
theorem dX0_spotFor_41 : decode cX0_spotFor 41 = .ok (.aload_n 0, 1) := by decide +kernel
theorem dX0_spotFor_42 : decode cX0_spotFor 42 = .ok (.getfield 64, 3) := by decide +kernel
theorem dX0_spotFor_45 : decode cX0_spotFor 45 = .ok (.invokestatic 73, 3) := by decide +kernel
theorem dX0_spotFor_48 : decode cX0_spotFor 48 = .ok (.istore_n 2, 1) := by decide +kernel
theorem dX0_spotFor_49 : decode cX0_spotFor 49 = .ok (.iload_n 2, 1) := by decide +kernel
theorem dX0_spotFor_50 : decode cX0_spotFor 50 = .ok (.aload_n 0, 1) := by decide +kernel
theorem dX0_spotFor_51 : decode cX0_spotFor 51 = .ok (.getfield 64, 3) := by decide +kernel
theorem dX0_spotFor_54 : decode cX0_spotFor 54 = .ok (.if_icmp .ge 30, 3) := by decide +kernel
theorem dX0_spotFor_57 : decode cX0_spotFor 57 = .ok (.aload_n 0, 1) := by decide +kernel
theorem dX0_spotFor_58 : decode cX0_spotFor 58 = .ok (.getfield 11, 3) := by decide +kernel
theorem dX0_spotFor_61 : decode cX0_spotFor 61 = .ok (.aload_n 0, 1) := by decide +kernel
theorem dX0_spotFor_62 : decode cX0_spotFor 62 = .ok (.getfield 20, 3) := by decide +kernel
theorem dX0_spotFor_65 : decode cX0_spotFor 65 = .ok (.iload_n 2, 1) := by decide +kernel
theorem dX0_spotFor_66 : decode cX0_spotFor 66 = .ok (.iaload, 1) := by decide +kernel
theorem dX0_spotFor_67 : decode cX0_spotFor 67 = .ok (.invokestatic 42, 3) := by decide +kernel
theorem dX0_spotFor_70 : decode cX0_spotFor 70 = .ok (.aaload, 1) := by decide +kernel
theorem dX0_spotFor_71 : decode cX0_spotFor 71 = .ok (.aload_n 1, 1) := by decide +kernel
theorem dX0_spotFor_72 : decode cX0_spotFor 72 = .ok (.invokevirtual 56, 3) := by decide +kernel
theorem dX0_spotFor_75 : decode cX0_spotFor 75 = .ok (.ifCond .eq 9, 3) := by decide +kernel
theorem dX0_spotFor_78 : decode cX0_spotFor 78 = .ok (.iinc 2 1, 3) := by decide +kernel
theorem dX0_spotFor_81 : decode cX0_spotFor 81 = .ok (.goto (-32), 3) := by decide +kernel
theorem dX0_spotFor_84 : decode cX0_spotFor 84 = .ok (.iload_n 2, 1) := by decide +kernel
theorem dX0_spotFor_85 : decode cX0_spotFor 85 = .ok (.ireturn, 1) := by decide +kernel
theorem dX1_init_0 : decode cX1_init 0 = .ok (.aload_n 0, 1) := by decide +kernel
theorem dX1_init_1 : decode cX1_init 1 = .ok (.iload_n 1, 1) := by decide +kernel
theorem dX1_init_2 : decode cX1_init 2 = .ok (.aload_n 2, 1) := by decide +kernel
theorem dX1_init_3 : decode cX1_init 3 = .ok (.invokespecial 3, 3) := by decide +kernel
theorem dX1_init_6 : decode cX1_init 6 = .ok (.aload_n 0, 1) := by decide +kernel
theorem dX1_init_7 : decode cX1_init 7 = .ok (.iload_n 3, 1) := by decide +kernel
theorem dX1_init_8 : decode cX1_init 8 = .ok (.putfield 9, 3) := by decide +kernel
theorem dX1_init_11 : decode cX1_init 11 = .ok (.aload_n 0, 1) := by decide +kernel
theorem dX1_init_12 : decode cX1_init 12 = .ok (.iload 4, 2) := by decide +kernel
theorem dX1_init_14 : decode cX1_init 14 = .ok (.putfield 15, 3) := by decide +kernel
theorem dX1_init_17 : decode cX1_init 17 = .ok (.aload_n 0, 1) := by decide +kernel
theorem dX1_init_18 : decode cX1_init 18 = .ok (.iload 5, 2) := by decide +kernel
theorem dX1_init_20 : decode cX1_init 20 = .ok (.putfield 18, 3) := by decide +kernel
theorem dX1_init_23 : decode cX1_init 23 = .ok (.aload_n 0, 1) := by decide +kernel
theorem dX1_init_24 : decode cX1_init 24 = .ok (.iload 6, 2) := by decide +kernel
theorem dX1_init_26 : decode cX1_init 26 = .ok (.putfield 21, 3) := by decide +kernel
theorem dX1_init_29 : decode cX1_init 29 = .ok (.aload_n 0, 1) := by decide +kernel
theorem dX1_init_30 : decode cX1_init 30 = .ok (.iload 7, 2) := by decide +kernel
theorem dX1_init_32 : decode cX1_init 32 = .ok (.putfield 24, 3) := by decide +kernel
theorem dX1_init_35 : decode cX1_init 35 = .ok (.return_, 1) := by decide +kernel
theorem dX1_kind_0 : decode cX1_kind 0 = .ok (.iconst 2, 1) := by decide +kernel
theorem dX1_kind_1 : decode cX1_kind 1 = .ok (.ireturn, 1) := by decide +kernel
theorem dX1_size_0 : decode cX1_size 0 = .ok (.iconst 2, 1) := by decide +kernel
theorem dX1_size_1 : decode cX1_size 1 = .ok (.ireturn, 1) := by decide +kernel
theorem dX1_nameOf_0 : decode cX1_nameOf 0 = .ok (.iload_n 1, 1) := by decide +kernel
theorem dX1_nameOf_1 : decode cX1_nameOf 1 = .ok (.ifCond .ne 10, 3) := by decide +kernel
theorem dX1_nameOf_4 : decode cX1_nameOf 4 = .ok (.aload_n 0, 1) := by decide +kernel
theorem dX1_nameOf_5 : decode cX1_nameOf 5 = .ok (.getfield 9, 3) := by decide +kernel
theorem dX1_nameOf_8 : decode cX1_nameOf 8 = .ok (.goto 7, 3) := by decide +kernel
theorem dX1_nameOf_11 : decode cX1_nameOf 11 = .ok (.aload_n 0, 1) := by decide +kernel
theorem dX1_nameOf_12 : decode cX1_nameOf 12 = .ok (.getfield 15, 3) := by decide +kernel
theorem dX1_nameOf_15 : decode cX1_nameOf 15 = .ok (.ireturn, 1) := by decide +kernel
theorem dX1_howManyNeeds_0 : decode cX1_howManyNeeds 0 = .ok (.iconst 3, 1) := by decide +kernel
theorem dX1_howManyNeeds_1 : decode cX1_howManyNeeds 1 = .ok (.ireturn, 1) := by decide +kernel
theorem dX1_need_0 : decode cX1_need 0 = .ok (.iload_n 1, 1) := by decide +kernel
theorem dX1_need_1 : decode cX1_need 1 = .ok (.iconst 2, 1) := by decide +kernel
theorem dX1_need_2 : decode cX1_need 2 = .ok (.if_icmp .ge 11, 3) := by decide +kernel
theorem dX1_need_5 : decode cX1_need 5 = .ok (.aload_n 0, 1) := by decide +kernel
theorem dX1_need_6 : decode cX1_need 6 = .ok (.iload_n 1, 1) := by decide +kernel
theorem dX1_need_7 : decode cX1_need 7 = .ok (.invokevirtual 28, 3) := by decide +kernel
theorem dX1_need_10 : decode cX1_need 10 = .ok (.goto 7, 3) := by decide +kernel
theorem dX1_need_13 : decode cX1_need 13 = .ok (.aload_n 0, 1) := by decide +kernel
theorem dX1_need_14 : decode cX1_need 14 = .ok (.getfield 18, 3) := by decide +kernel
theorem dX1_need_17 : decode cX1_need 17 = .ok (.invokestatic 32, 3) := by decide +kernel
theorem dX1_need_20 : decode cX1_need 20 = .ok (.ireturn, 1) := by decide +kernel
theorem dX2_init_0 : decode cX2_init 0 = .ok (.aload_n 0, 1) := by decide +kernel
theorem dX2_init_1 : decode cX2_init 1 = .ok (.iload_n 1, 1) := by decide +kernel
theorem dX2_init_2 : decode cX2_init 2 = .ok (.aload_n 2, 1) := by decide +kernel
theorem dX2_init_3 : decode cX2_init 3 = .ok (.invokespecial 3, 3) := by decide +kernel
theorem dX2_init_6 : decode cX2_init 6 = .ok (.aload_n 0, 1) := by decide +kernel
theorem dX2_init_7 : decode cX2_init 7 = .ok (.iload_n 3, 1) := by decide +kernel
theorem dX2_init_8 : decode cX2_init 8 = .ok (.putfield 9, 3) := by decide +kernel
theorem dX2_init_11 : decode cX2_init 11 = .ok (.aload_n 0, 1) := by decide +kernel
theorem dX2_init_12 : decode cX2_init 12 = .ok (.aload 4, 2) := by decide +kernel
theorem dX2_init_14 : decode cX2_init 14 = .ok (.putfield 15, 3) := by decide +kernel
theorem dX2_init_17 : decode cX2_init 17 = .ok (.return_, 1) := by decide +kernel
theorem dX2_kind_0 : decode cX2_kind 0 = .ok (.iconst 0, 1) := by decide +kernel
theorem dX2_kind_1 : decode cX2_kind 1 = .ok (.ireturn, 1) := by decide +kernel
theorem dX2_size_0 : decode cX2_size 0 = .ok (.aload_n 0, 1) := by decide +kernel
theorem dX2_size_1 : decode cX2_size 1 = .ok (.getfield 15, 3) := by decide +kernel
theorem dX2_size_4 : decode cX2_size 4 = .ok (.arraylength, 1) := by decide +kernel
theorem dX2_size_5 : decode cX2_size 5 = .ok (.ireturn, 1) := by decide +kernel
theorem dX2_nameOf_0 : decode cX2_nameOf 0 = .ok (.iconst 4, 1) := by decide +kernel
theorem dX2_nameOf_1 : decode cX2_nameOf 1 = .ok (.aload_n 0, 1) := by decide +kernel
theorem dX2_nameOf_2 : decode cX2_nameOf 2 = .ok (.getfield 19, 3) := by decide +kernel
theorem dX2_nameOf_5 : decode cX2_nameOf 5 = .ok (.imul, 1) := by decide +kernel
theorem dX2_nameOf_6 : decode cX2_nameOf 6 = .ok (.iload_n 1, 1) := by decide +kernel
theorem dX2_nameOf_7 : decode cX2_nameOf 7 = .ok (.iadd, 1) := by decide +kernel
theorem dX2_nameOf_8 : decode cX2_nameOf 8 = .ok (.ireturn, 1) := by decide +kernel
theorem dX2_howManyNeeds_0 : decode cX2_howManyNeeds 0 = .ok (.iconst 1, 1) := by decide +kernel
theorem dX2_howManyNeeds_1 : decode cX2_howManyNeeds 1 = .ok (.ireturn, 1) := by decide +kernel
theorem dX2_need_0 : decode cX2_need 0 = .ok (.aload_n 0, 1) := by decide +kernel
theorem dX2_need_1 : decode cX2_need 1 = .ok (.getfield 9, 3) := by decide +kernel
theorem dX2_need_4 : decode cX2_need 4 = .ok (.invokestatic 22, 3) := by decide +kernel
theorem dX2_need_7 : decode cX2_need 7 = .ok (.ireturn, 1) := by decide +kernel
theorem dX3_init_0 : decode cX3_init 0 = .ok (.aload_n 0, 1) := by decide +kernel
theorem dX3_init_1 : decode cX3_init 1 = .ok (.invokespecial 3, 3) := by decide +kernel
theorem dX3_init_4 : decode cX3_init 4 = .ok (.aload_n 0, 1) := by decide +kernel
theorem dX3_init_5 : decode cX3_init 5 = .ok (.sipush 256, 3) := by decide +kernel
theorem dX3_init_8 : decode cX3_init 8 = .ok (.newarray .int, 2) := by decide +kernel
theorem dX3_init_10 : decode cX3_init 10 = .ok (.putfield 9, 3) := by decide +kernel
theorem dX3_init_13 : decode cX3_init 13 = .ok (.aload_n 0, 1) := by decide +kernel
theorem dX3_init_14 : decode cX3_init 14 = .ok (.sipush 768, 3) := by decide +kernel
theorem dX3_init_17 : decode cX3_init 17 = .ok (.newarray .int, 2) := by decide +kernel
theorem dX3_init_19 : decode cX3_init 19 = .ok (.putfield 15, 3) := by decide +kernel
theorem dX3_init_22 : decode cX3_init 22 = .ok (.aload_n 0, 1) := by decide +kernel
theorem dX3_init_23 : decode cX3_init 23 = .ok (.sipush 1024, 3) := by decide +kernel
theorem dX3_init_26 : decode cX3_init 26 = .ok (.newarray .int, 2) := by decide +kernel
theorem dX3_init_28 : decode cX3_init 28 = .ok (.putfield 18, 3) := by decide +kernel
theorem dX3_init_31 : decode cX3_init 31 = .ok (.aload_n 0, 1) := by decide +kernel
theorem dX3_init_32 : decode cX3_init 32 = .ok (.sipush 768, 3) := by decide +kernel
theorem dX3_init_35 : decode cX3_init 35 = .ok (.newarray .int, 2) := by decide +kernel
theorem dX3_init_37 : decode cX3_init 37 = .ok (.putfield 21, 3) := by decide +kernel
theorem dX3_init_40 : decode cX3_init 40 = .ok (.aload_n 0, 1) := by decide +kernel
theorem dX3_init_41 : decode cX3_init 41 = .ok (.sipush 769, 3) := by decide +kernel
theorem dX3_init_44 : decode cX3_init 44 = .ok (.newarray .int, 2) := by decide +kernel
theorem dX3_init_46 : decode cX3_init 46 = .ok (.putfield 24, 3) := by decide +kernel
theorem dX3_init_49 : decode cX3_init 49 = .ok (.aload_n 0, 1) := by decide +kernel
theorem dX3_init_50 : decode cX3_init 50 = .ok (.sipush 768, 3) := by decide +kernel
theorem dX3_init_53 : decode cX3_init 53 = .ok (.newarray .int, 2) := by decide +kernel
theorem dX3_init_55 : decode cX3_init 55 = .ok (.putfield 27, 3) := by decide +kernel
theorem dX3_init_58 : decode cX3_init 58 = .ok (.aload_n 0, 1) := by decide +kernel
theorem dX3_init_59 : decode cX3_init 59 = .ok (.sipush 768, 3) := by decide +kernel
theorem dX3_init_62 : decode cX3_init 62 = .ok (.newarray .int, 2) := by decide +kernel
theorem dX3_init_64 : decode cX3_init 64 = .ok (.putfield 30, 3) := by decide +kernel
theorem dX3_init_67 : decode cX3_init 67 = .ok (.aload_n 0, 1) := by decide +kernel
theorem dX3_init_68 : decode cX3_init 68 = .ok (.aload_n 1, 1) := by decide +kernel
theorem dX3_init_69 : decode cX3_init 69 = .ok (.putfield 33, 3) := by decide +kernel
theorem dX3_init_72 : decode cX3_init 72 = .ok (.aload_n 0, 1) := by decide +kernel
theorem dX3_init_73 : decode cX3_init 73 = .ok (.getfield 18, 3) := by decide +kernel
theorem dX3_init_76 : decode cX3_init 76 = .ok (.iconst (-1), 1) := by decide +kernel
theorem dX3_init_77 : decode cX3_init 77 = .ok (.invokestatic 37, 3) := by decide +kernel
theorem dX3_init_80 : decode cX3_init 80 = .ok (.return_, 1) := by decide +kernel
theorem dX3_read_0 : decode cX3_read 0 = .ok (.aload_n 0, 1) := by decide +kernel
theorem dX3_read_1 : decode cX3_read 1 = .ok (.aload_n 1, 1) := by decide +kernel
theorem dX3_read_2 : decode cX3_read 2 = .ok (.iload_n 2, 1) := by decide +kernel
theorem dX3_read_3 : decode cX3_read 3 = .ok (.invokevirtual 43, 3) := by decide +kernel
theorem dX3_read_6 : decode cX3_read 6 = .ok (.aload_n 0, 1) := by decide +kernel
theorem dX3_read_7 : decode cX3_read 7 = .ok (.invokevirtual 47, 3) := by decide +kernel
theorem dX3_read_10 : decode cX3_read 10 = .ok (.aload_n 0, 1) := by decide +kernel
theorem dX3_read_11 : decode cX3_read 11 = .ok (.invokevirtual 50, 3) := by decide +kernel
theorem dX3_read_14 : decode cX3_read 14 = .ok (.aload_n 0, 1) := by decide +kernel
theorem dX3_read_15 : decode cX3_read 15 = .ok (.invokevirtual 53, 3) := by decide +kernel
theorem dX3_read_18 : decode cX3_read 18 = .ok (.aload_n 0, 1) := by decide +kernel
theorem dX3_read_19 : decode cX3_read 19 = .ok (.invokevirtual 56, 3) := by decide +kernel
theorem dX3_read_22 : decode cX3_read 22 = .ok (.return_, 1) := by decide +kernel
theorem dX3_isWorking_0 : decode cX3_isWorking 0 = .ok (.aload_n 0, 1) := by decide +kernel
theorem dX3_isWorking_1 : decode cX3_isWorking 1 = .ok (.getfield 9, 3) := by decide +kernel
theorem dX3_isWorking_4 : decode cX3_isWorking 4 = .ok (.aload_n 1, 1) := by decide +kernel
theorem dX3_isWorking_5 : decode cX3_isWorking 5 = .ok (.getfield 59, 3) := by decide +kernel
theorem dX3_isWorking_8 : decode cX3_isWorking 8 = .ok (.iaload, 1) := by decide +kernel
theorem dX3_isWorking_9 : decode cX3_isWorking 9 = .ok (.iconst 3, 1) := by decide +kernel
theorem dX3_isWorking_10 : decode cX3_isWorking 10 = .ok (.if_icmp .ne 7, 3) := by decide +kernel
theorem dX3_isWorking_13 : decode cX3_isWorking 13 = .ok (.iconst 1, 1) := by decide +kernel
theorem dX3_isWorking_14 : decode cX3_isWorking 14 = .ok (.goto 4, 3) := by decide +kernel
theorem dX3_isWorking_17 : decode cX3_isWorking 17 = .ok (.iconst 0, 1) := by decide +kernel
theorem dX3_isWorking_18 : decode cX3_isWorking 18 = .ok (.ireturn, 1) := by decide +kernel
theorem dX3_isPlace_0 : decode cX3_isPlace 0 = .ok (.iload_n 1, 1) := by decide +kernel
theorem dX3_isPlace_1 : decode cX3_isPlace 1 = .ok (.ifCond .lt 15, 3) := by decide +kernel
theorem dX3_isPlace_4 : decode cX3_isPlace 4 = .ok (.iload_n 1, 1) := by decide +kernel
theorem dX3_isPlace_5 : decode cX3_isPlace 5 = .ok (.aload_n 0, 1) := by decide +kernel
theorem dX3_isPlace_6 : decode cX3_isPlace 6 = .ok (.getfield 65, 3) := by decide +kernel
theorem dX3_isPlace_9 : decode cX3_isPlace 9 = .ok (.if_icmp .ge 7, 3) := by decide +kernel
theorem dX3_isPlace_12 : decode cX3_isPlace 12 = .ok (.iconst 1, 1) := by decide +kernel
theorem dX3_isPlace_13 : decode cX3_isPlace 13 = .ok (.goto 4, 3) := by decide +kernel
theorem dX3_isPlace_16 : decode cX3_isPlace 16 = .ok (.iconst 0, 1) := by decide +kernel
theorem dX3_isPlace_17 : decode cX3_isPlace 17 = .ok (.ireturn, 1) := by decide +kernel
theorem dX3_hasStretch_0 : decode cX3_hasStretch 0 = .ok (.iload_n 2, 1) := by decide +kernel
theorem dX3_hasStretch_1 : decode cX3_hasStretch 1 = .ok (.ifCond .le 21, 3) := by decide +kernel
theorem dX3_hasStretch_4 : decode cX3_hasStretch 4 = .ok (.iload_n 1, 1) := by decide +kernel
theorem dX3_hasStretch_5 : decode cX3_hasStretch 5 = .ok (.ifCond .lt 17, 3) := by decide +kernel
theorem dX3_hasStretch_8 : decode cX3_hasStretch 8 = .ok (.iload_n 1, 1) := by decide +kernel
theorem dX3_hasStretch_9 : decode cX3_hasStretch 9 = .ok (.aload_n 0, 1) := by decide +kernel
theorem dX3_hasStretch_10 : decode cX3_hasStretch 10 = .ok (.getfield 65, 3) := by decide +kernel
theorem dX3_hasStretch_13 : decode cX3_hasStretch 13 = .ok (.iload_n 2, 1) := by decide +kernel
theorem dX3_hasStretch_14 : decode cX3_hasStretch 14 = .ok (.isub, 1) := by decide +kernel
theorem dX3_hasStretch_15 : decode cX3_hasStretch 15 = .ok (.if_icmp .gt 7, 3) := by decide +kernel
theorem dX3_hasStretch_18 : decode cX3_hasStretch 18 = .ok (.iconst 1, 1) := by decide +kernel
theorem dX3_hasStretch_19 : decode cX3_hasStretch 19 = .ok (.goto 4, 3) := by decide +kernel
theorem dX3_hasStretch_22 : decode cX3_hasStretch 22 = .ok (.iconst 0, 1) := by decide +kernel
theorem dX3_hasStretch_23 : decode cX3_hasStretch 23 = .ok (.ireturn, 1) := by decide +kernel
theorem dX3_nameAt_0 : decode cX3_nameAt 0 = .ok (.aload_n 0, 1) := by decide +kernel
theorem dX3_nameAt_1 : decode cX3_nameAt 1 = .ok (.iload_n 1, 1) := by decide +kernel
theorem dX3_nameAt_2 : decode cX3_nameAt 2 = .ok (.invokevirtual 68, 3) := by decide +kernel
theorem dX3_nameAt_5 : decode cX3_nameAt 5 = .ok (.ifCond .eq 17, 3) := by decide +kernel
theorem dX3_nameAt_8 : decode cX3_nameAt 8 = .ok (.aload_n 0, 1) := by decide +kernel
theorem dX3_nameAt_9 : decode cX3_nameAt 9 = .ok (.getfield 15, 3) := by decide +kernel
theorem dX3_nameAt_12 : decode cX3_nameAt 12 = .ok (.aload_n 0, 1) := by decide +kernel
theorem dX3_nameAt_13 : decode cX3_nameAt 13 = .ok (.getfield 27, 3) := by decide +kernel
theorem dX3_nameAt_16 : decode cX3_nameAt 16 = .ok (.iload_n 1, 1) := by decide +kernel
theorem dX3_nameAt_17 : decode cX3_nameAt 17 = .ok (.iaload, 1) := by decide +kernel
theorem dX3_nameAt_18 : decode cX3_nameAt 18 = .ok (.iaload, 1) := by decide +kernel
theorem dX3_nameAt_19 : decode cX3_nameAt 19 = .ok (.goto 4, 3) := by decide +kernel
theorem dX3_nameAt_22 : decode cX3_nameAt 22 = .ok (.iconst (-1), 1) := by decide +kernel
theorem dX3_nameAt_23 : decode cX3_nameAt 23 = .ok (.ireturn, 1) := by decide +kernel
theorem dX3_tintsAt_0 : decode cX3_tintsAt 0 = .ok (.aload_n 0, 1) := by decide +kernel
theorem dX3_tintsAt_1 : decode cX3_tintsAt 1 = .ok (.iload_n 1, 1) := by decide +kernel
theorem dX3_tintsAt_2 : decode cX3_tintsAt 2 = .ok (.invokevirtual 68, 3) := by decide +kernel
theorem dX3_tintsAt_5 : decode cX3_tintsAt 5 = .ok (.ifCond .eq 17, 3) := by decide +kernel
theorem dX3_tintsAt_8 : decode cX3_tintsAt 8 = .ok (.aload_n 0, 1) := by decide +kernel
theorem dX3_tintsAt_9 : decode cX3_tintsAt 9 = .ok (.getfield 30, 3) := by decide +kernel
theorem dX3_tintsAt_12 : decode cX3_tintsAt 12 = .ok (.aload_n 0, 1) := by decide +kernel
theorem dX3_tintsAt_13 : decode cX3_tintsAt 13 = .ok (.getfield 27, 3) := by decide +kernel
theorem dX3_tintsAt_16 : decode cX3_tintsAt 16 = .ok (.iload_n 1, 1) := by decide +kernel
theorem dX3_tintsAt_17 : decode cX3_tintsAt 17 = .ok (.iaload, 1) := by decide +kernel
theorem dX3_tintsAt_18 : decode cX3_tintsAt 18 = .ok (.iaload, 1) := by decide +kernel
theorem dX3_tintsAt_19 : decode cX3_tintsAt 19 = .ok (.goto 4, 3) := by decide +kernel
theorem dX3_tintsAt_22 : decode cX3_tintsAt 22 = .ok (.iconst 0, 1) := by decide +kernel
theorem dX3_tintsAt_23 : decode cX3_tintsAt 23 = .ok (.ireturn, 1) := by decide +kernel
theorem dX3_lookAt_0 : decode cX3_lookAt 0 = .ok (.aload_n 0, 1) := by decide +kernel
theorem dX3_lookAt_1 : decode cX3_lookAt 1 = .ok (.iload_n 1, 1) := by decide +kernel
theorem dX3_lookAt_2 : decode cX3_lookAt 2 = .ok (.invokevirtual 72, 3) := by decide +kernel
theorem dX3_lookAt_5 : decode cX3_lookAt 5 = .ok (.bipush 16, 2) := by decide +kernel
theorem dX3_lookAt_7 : decode cX3_lookAt 7 = .ok (.imul, 1) := by decide +kernel
theorem dX3_lookAt_8 : decode cX3_lookAt 8 = .ok (.aload_n 0, 1) := by decide +kernel
theorem dX3_lookAt_9 : decode cX3_lookAt 9 = .ok (.iload_n 1, 1) := by decide +kernel
theorem dX3_lookAt_10 : decode cX3_lookAt 10 = .ok (.invokevirtual 76, 3) := by decide +kernel
theorem dX3_lookAt_13 : decode cX3_lookAt 13 = .ok (.iadd, 1) := by decide +kernel
theorem dX3_lookAt_14 : decode cX3_lookAt 14 = .ok (.ireturn, 1) := by decide +kernel
theorem dX3_namesFrom_0 : decode cX3_namesFrom 0 = .ok (.iconst 0, 1) := by decide +kernel
theorem dX3_namesFrom_1 : decode cX3_namesFrom 1 = .ok (.iload_n 2, 1) := by decide +kernel
theorem dX3_namesFrom_2 : decode cX3_namesFrom 2 = .ok (.invokestatic 79, 3) := by decide +kernel
theorem dX3_namesFrom_5 : decode cX3_namesFrom 5 = .ok (.newarray .int, 2) := by decide +kernel
theorem dX3_namesFrom_7 : decode cX3_namesFrom 7 = .ok (.astore_n 3, 1) := by decide +kernel
theorem dX3_namesFrom_8 : decode cX3_namesFrom 8 = .ok (.iconst 0, 1) := by decide +kernel
theorem dX3_namesFrom_9 : decode cX3_namesFrom 9 = .ok (.istore 4, 2) := by decide +kernel
theorem dX3_namesFrom_11 : decode cX3_namesFrom 11 = .ok (.iload 4, 2) := by decide +kernel
theorem dX3_namesFrom_13 : decode cX3_namesFrom 13 = .ok (.aload_n 3, 1) := by decide +kernel
theorem dX3_namesFrom_14 : decode cX3_namesFrom 14 = .ok (.arraylength, 1) := by decide +kernel
theorem dX3_namesFrom_15 : decode cX3_namesFrom 15 = .ok (.if_icmp .ge 21, 3) := by decide +kernel
theorem dX3_namesFrom_18 : decode cX3_namesFrom 18 = .ok (.aload_n 3, 1) := by decide +kernel
theorem dX3_namesFrom_19 : decode cX3_namesFrom 19 = .ok (.iload 4, 2) := by decide +kernel
theorem dX3_namesFrom_21 : decode cX3_namesFrom 21 = .ok (.aload_n 0, 1) := by decide +kernel
theorem dX3_namesFrom_22 : decode cX3_namesFrom 22 = .ok (.iload_n 1, 1) := by decide +kernel
theorem dX3_namesFrom_23 : decode cX3_namesFrom 23 = .ok (.iload 4, 2) := by decide +kernel
theorem dX3_namesFrom_25 : decode cX3_namesFrom 25 = .ok (.iadd, 1) := by decide +kernel
theorem dX3_namesFrom_26 : decode cX3_namesFrom 26 = .ok (.invokevirtual 72, 3) := by decide +kernel
theorem dX3_namesFrom_29 : decode cX3_namesFrom 29 = .ok (.iastore, 1) := by decide +kernel
theorem dX3_namesFrom_30 : decode cX3_namesFrom 30 = .ok (.iinc 4 1, 3) := by decide +kernel
theorem dX3_namesFrom_33 : decode cX3_namesFrom 33 = .ok (.goto (-22), 3) := by decide +kernel
theorem dX3_namesFrom_36 : decode cX3_namesFrom 36 = .ok (.aload_n 3, 1) := by decide +kernel
theorem dX3_namesFrom_37 : decode cX3_namesFrom 37 = .ok (.areturn, 1) := by decide +kernel
theorem dX3_spotOf_0 : decode cX3_spotOf 0 = .ok (.iload_n 1, 1) := by decide +kernel
theorem dX3_spotOf_1 : decode cX3_spotOf 1 = .ok (.ifCond .lt 19, 3) := by decide +kernel
theorem dX3_spotOf_4 : decode cX3_spotOf 4 = .ok (.iload_n 1, 1) := by decide +kernel
theorem dX3_spotOf_5 : decode cX3_spotOf 5 = .ok (.sipush 1024, 3) := by decide +kernel
theorem dX3_spotOf_8 : decode cX3_spotOf 8 = .ok (.if_icmp .ge 12, 3) := by decide +kernel
theorem dX3_spotOf_11 : decode cX3_spotOf 11 = .ok (.aload_n 0, 1) := by decide +kernel
theorem dX3_spotOf_12 : decode cX3_spotOf 12 = .ok (.getfield 18, 3) := by decide +kernel
theorem dX3_spotOf_15 : decode cX3_spotOf 15 = .ok (.iload_n 1, 1) := by decide +kernel
theorem dX3_spotOf_16 : decode cX3_spotOf 16 = .ok (.iaload, 1) := by decide +kernel
theorem dX3_spotOf_17 : decode cX3_spotOf 17 = .ok (.goto 4, 3) := by decide +kernel
theorem dX3_spotOf_20 : decode cX3_spotOf 20 = .ok (.iconst (-1), 1) := by decide +kernel
theorem dX3_spotOf_21 : decode cX3_spotOf 21 = .ok (.ireturn, 1) := by decide +kernel
theorem dX3_isSeen_0 : decode cX3_isSeen 0 = .ok (.aload_n 0, 1) := by decide +kernel
theorem dX3_isSeen_1 : decode cX3_isSeen 1 = .ok (.getfield 24, 3) := by decide +kernel
theorem dX3_isSeen_4 : decode cX3_isSeen 4 = .ok (.iload_n 1, 1) := by decide +kernel
theorem dX3_isSeen_5 : decode cX3_isSeen 5 = .ok (.iconst 1, 1) := by decide +kernel
theorem dX3_isSeen_6 : decode cX3_isSeen 6 = .ok (.iadd, 1) := by decide +kernel
theorem dX3_isSeen_7 : decode cX3_isSeen 7 = .ok (.iaload, 1) := by decide +kernel
theorem dX3_isSeen_8 : decode cX3_isSeen 8 = .ok (.aload_n 0, 1) := by decide +kernel
theorem dX3_isSeen_9 : decode cX3_isSeen 9 = .ok (.getfield 24, 3) := by decide +kernel
theorem dX3_isSeen_12 : decode cX3_isSeen 12 = .ok (.iload_n 1, 1) := by decide +kernel
theorem dX3_isSeen_13 : decode cX3_isSeen 13 = .ok (.iaload, 1) := by decide +kernel
theorem dX3_isSeen_14 : decode cX3_isSeen 14 = .ok (.if_icmp .le 7, 3) := by decide +kernel
theorem dX3_isSeen_17 : decode cX3_isSeen 17 = .ok (.iconst 1, 1) := by decide +kernel
theorem dX3_isSeen_18 : decode cX3_isSeen 18 = .ok (.goto 4, 3) := by decide +kernel
theorem dX3_isSeen_21 : decode cX3_isSeen 21 = .ok (.iconst 0, 1) := by decide +kernel
theorem dX3_isSeen_22 : decode cX3_isSeen 22 = .ok (.ireturn, 1) := by decide +kernel
theorem dX3_nextBehind_0 : decode cX3_nextBehind 0 = .ok (.aload_n 0, 1) := by decide +kernel
theorem dX3_nextBehind_1 : decode cX3_nextBehind 1 = .ok (.iload_n 1, 1) := by decide +kernel
theorem dX3_nextBehind_2 : decode cX3_nextBehind 2 = .ok (.invokevirtual 85, 3) := by decide +kernel
theorem dX3_nextBehind_5 : decode cX3_nextBehind 5 = .ok (.iconst 1, 1) := by decide +kernel
theorem dX3_nextBehind_6 : decode cX3_nextBehind 6 = .ok (.iadd, 1) := by decide +kernel
theorem dX3_nextBehind_7 : decode cX3_nextBehind 7 = .ok (.istore_n 2, 1) := by decide +kernel
theorem dX3_nextBehind_8 : decode cX3_nextBehind 8 = .ok (.iload_n 2, 1) := by decide +kernel
theorem dX3_nextBehind_9 : decode cX3_nextBehind 9 = .ok (.aload_n 0, 1) := by decide +kernel
theorem dX3_nextBehind_10 : decode cX3_nextBehind 10 = .ok (.getfield 88, 3) := by decide +kernel
theorem dX3_nextBehind_13 : decode cX3_nextBehind 13 = .ok (.if_icmp .ge 12, 3) := by decide +kernel
theorem dX3_nextBehind_16 : decode cX3_nextBehind 16 = .ok (.aload_n 0, 1) := by decide +kernel
theorem dX3_nextBehind_17 : decode cX3_nextBehind 17 = .ok (.getfield 15, 3) := by decide +kernel
theorem dX3_nextBehind_20 : decode cX3_nextBehind 20 = .ok (.iload_n 2, 1) := by decide +kernel
theorem dX3_nextBehind_21 : decode cX3_nextBehind 21 = .ok (.iaload, 1) := by decide +kernel
theorem dX3_nextBehind_22 : decode cX3_nextBehind 22 = .ok (.goto 5, 3) := by decide +kernel
theorem dX3_nextBehind_25 : decode cX3_nextBehind 25 = .ok (.bipush (-2), 2) := by decide +kernel
theorem dX3_nextBehind_27 : decode cX3_nextBehind 27 = .ok (.ireturn, 1) := by decide +kernel
theorem dX3_stretchesOf_0 : decode cX3_stretchesOf 0 = .ok (.iconst 1, 1) := by decide +kernel
theorem dX3_stretchesOf_1 : decode cX3_stretchesOf 1 = .ok (.iload_n 1, 1) := by decide +kernel
theorem dX3_stretchesOf_2 : decode cX3_stretchesOf 2 = .ok (.ishl, 1) := by decide +kernel
theorem dX3_stretchesOf_3 : decode cX3_stretchesOf 3 = .ok (.istore_n 2, 1) := by decide +kernel
theorem dX3_stretchesOf_4 : decode cX3_stretchesOf 4 = .ok (.iconst 0, 1) := by decide +kernel
theorem dX3_stretchesOf_5 : decode cX3_stretchesOf 5 = .ok (.istore_n 3, 1) := by decide +kernel
theorem dX3_stretchesOf_6 : decode cX3_stretchesOf 6 = .ok (.iconst 0, 1) := by decide +kernel
theorem dX3_stretchesOf_7 : decode cX3_stretchesOf 7 = .ok (.istore 4, 2) := by decide +kernel
theorem dX3_stretchesOf_9 : decode cX3_stretchesOf 9 = .ok (.iconst 0, 1) := by decide +kernel
theorem dX3_stretchesOf_10 : decode cX3_stretchesOf 10 = .ok (.istore 5, 2) := by decide +kernel
theorem dX3_stretchesOf_12 : decode cX3_stretchesOf 12 = .ok (.iload 5, 2) := by decide +kernel
theorem dX3_stretchesOf_14 : decode cX3_stretchesOf 14 = .ok (.aload_n 0, 1) := by decide +kernel
theorem dX3_stretchesOf_15 : decode cX3_stretchesOf 15 = .ok (.getfield 65, 3) := by decide +kernel
theorem dX3_stretchesOf_18 : decode cX3_stretchesOf 18 = .ok (.if_icmp .ge 50, 3) := by decide +kernel
theorem dX3_stretchesOf_21 : decode cX3_stretchesOf 21 = .ok (.aload_n 0, 1) := by decide +kernel
theorem dX3_stretchesOf_22 : decode cX3_stretchesOf 22 = .ok (.getfield 30, 3) := by decide +kernel
theorem dX3_stretchesOf_25 : decode cX3_stretchesOf 25 = .ok (.aload_n 0, 1) := by decide +kernel
theorem dX3_stretchesOf_26 : decode cX3_stretchesOf 26 = .ok (.getfield 27, 3) := by decide +kernel
theorem dX3_stretchesOf_29 : decode cX3_stretchesOf 29 = .ok (.iload 5, 2) := by decide +kernel
theorem dX3_stretchesOf_31 : decode cX3_stretchesOf 31 = .ok (.iaload, 1) := by decide +kernel
theorem dX3_stretchesOf_32 : decode cX3_stretchesOf 32 = .ok (.iaload, 1) := by decide +kernel
theorem dX3_stretchesOf_33 : decode cX3_stretchesOf 33 = .ok (.iload_n 2, 1) := by decide +kernel
theorem dX3_stretchesOf_34 : decode cX3_stretchesOf 34 = .ok (.iand, 1) := by decide +kernel
theorem dX3_stretchesOf_35 : decode cX3_stretchesOf 35 = .ok (.ifCond .eq 7, 3) := by decide +kernel
theorem dX3_stretchesOf_38 : decode cX3_stretchesOf 38 = .ok (.iconst 1, 1) := by decide +kernel
theorem dX3_stretchesOf_39 : decode cX3_stretchesOf 39 = .ok (.goto 4, 3) := by decide +kernel
theorem dX3_stretchesOf_42 : decode cX3_stretchesOf 42 = .ok (.iconst 0, 1) := by decide +kernel
theorem dX3_stretchesOf_43 : decode cX3_stretchesOf 43 = .ok (.istore 6, 2) := by decide +kernel
theorem dX3_stretchesOf_45 : decode cX3_stretchesOf 45 = .ok (.iload 6, 2) := by decide +kernel
theorem dX3_stretchesOf_47 : decode cX3_stretchesOf 47 = .ok (.ifCond .eq 11, 3) := by decide +kernel
theorem dX3_stretchesOf_50 : decode cX3_stretchesOf 50 = .ok (.iload 4, 2) := by decide +kernel
theorem dX3_stretchesOf_52 : decode cX3_stretchesOf 52 = .ok (.ifCond .ne 6, 3) := by decide +kernel
theorem dX3_stretchesOf_55 : decode cX3_stretchesOf 55 = .ok (.iinc 3 1, 3) := by decide +kernel
theorem dX3_stretchesOf_58 : decode cX3_stretchesOf 58 = .ok (.iload 6, 2) := by decide +kernel
theorem dX3_stretchesOf_60 : decode cX3_stretchesOf 60 = .ok (.istore 4, 2) := by decide +kernel
theorem dX3_stretchesOf_62 : decode cX3_stretchesOf 62 = .ok (.iinc 5 1, 3) := by decide +kernel
theorem dX3_stretchesOf_65 : decode cX3_stretchesOf 65 = .ok (.goto (-53), 3) := by decide +kernel
theorem dX3_stretchesOf_68 : decode cX3_stretchesOf 68 = .ok (.iload_n 3, 1) := by decide +kernel
theorem dX3_stretchesOf_69 : decode cX3_stretchesOf 69 = .ok (.ireturn, 1) := by decide +kernel
theorem dX3_paint_0 : decode cX3_paint 0 = .ok (.iconst 0, 1) := by decide +kernel
theorem dX3_paint_1 : decode cX3_paint 1 = .ok (.istore_n 1, 1) := by decide +kernel
theorem dX3_paint_2 : decode cX3_paint 2 = .ok (.iload_n 1, 1) := by decide +kernel
theorem dX3_paint_3 : decode cX3_paint 3 = .ok (.aload_n 0, 1) := by decide +kernel
theorem dX3_paint_4 : decode cX3_paint 4 = .ok (.getfield 88, 3) := by decide +kernel
theorem dX3_paint_7 : decode cX3_paint 7 = .ok (.if_icmp .ge 16, 3) := by decide +kernel
theorem dX3_paint_10 : decode cX3_paint 10 = .ok (.aload_n 0, 1) := by decide +kernel
theorem dX3_paint_11 : decode cX3_paint 11 = .ok (.getfield 30, 3) := by decide +kernel
theorem dX3_paint_14 : decode cX3_paint 14 = .ok (.iload_n 1, 1) := by decide +kernel
theorem dX3_paint_15 : decode cX3_paint 15 = .ok (.iconst 0, 1) := by decide +kernel
theorem dX3_paint_16 : decode cX3_paint 16 = .ok (.iastore, 1) := by decide +kernel
theorem dX3_paint_17 : decode cX3_paint 17 = .ok (.iinc 1 1, 3) := by decide +kernel
theorem dX3_paint_20 : decode cX3_paint 20 = .ok (.goto (-18), 3) := by decide +kernel
theorem dX3_paint_23 : decode cX3_paint 23 = .ok (.iconst 0, 1) := by decide +kernel
theorem dX3_paint_24 : decode cX3_paint 24 = .ok (.istore_n 1, 1) := by decide +kernel
theorem dX3_paint_25 : decode cX3_paint 25 = .ok (.iload_n 1, 1) := by decide +kernel
theorem dX3_paint_26 : decode cX3_paint 26 = .ok (.aload_n 0, 1) := by decide +kernel
theorem dX3_paint_27 : decode cX3_paint 27 = .ok (.getfield 33, 3) := by decide +kernel
theorem dX3_paint_30 : decode cX3_paint 30 = .ok (.getfield 91, 3) := by decide +kernel
theorem dX3_paint_33 : decode cX3_paint 33 = .ok (.if_icmp .ge 44, 3) := by decide +kernel
theorem dX3_paint_36 : decode cX3_paint 36 = .ok (.aload_n 0, 1) := by decide +kernel
theorem dX3_paint_37 : decode cX3_paint 37 = .ok (.getfield 33, 3) := by decide +kernel
theorem dX3_paint_40 : decode cX3_paint 40 = .ok (.getfield 96, 3) := by decide +kernel
theorem dX3_paint_43 : decode cX3_paint 43 = .ok (.iload_n 1, 1) := by decide +kernel
theorem dX3_paint_44 : decode cX3_paint 44 = .ok (.aaload, 1) := by decide +kernel
theorem dX3_paint_45 : decode cX3_paint 45 = .ok (.astore_n 3, 1) := by decide +kernel
theorem dX3_paint_46 : decode cX3_paint 46 = .ok (.aload_n 3, 1) := by decide +kernel
theorem dX3_paint_47 : decode cX3_paint 47 = .ok (.instanceof 100, 3) := by decide +kernel
theorem dX3_paint_50 : decode cX3_paint 50 = .ok (.ifCond .eq 21, 3) := by decide +kernel
theorem dX3_paint_53 : decode cX3_paint 53 = .ok (.aload_n 3, 1) := by decide +kernel
theorem dX3_paint_54 : decode cX3_paint 54 = .ok (.checkcast 100, 3) := by decide +kernel
theorem dX3_paint_57 : decode cX3_paint 57 = .ok (.astore_n 2, 1) := by decide +kernel
theorem dX3_paint_58 : decode cX3_paint 58 = .ok (.aload_n 0, 1) := by decide +kernel
theorem dX3_paint_59 : decode cX3_paint 59 = .ok (.aload_n 2, 1) := by decide +kernel
theorem dX3_paint_60 : decode cX3_paint 60 = .ok (.invokevirtual 102, 3) := by decide +kernel
theorem dX3_paint_63 : decode cX3_paint 63 = .ok (.ifCond .eq 8, 3) := by decide +kernel
theorem dX3_paint_66 : decode cX3_paint 66 = .ok (.aload_n 0, 1) := by decide +kernel
theorem dX3_paint_67 : decode cX3_paint 67 = .ok (.aload_n 2, 1) := by decide +kernel
theorem dX3_paint_68 : decode cX3_paint 68 = .ok (.invokevirtual 106, 3) := by decide +kernel
theorem dX3_paint_71 : decode cX3_paint 71 = .ok (.iinc 1 1, 3) := by decide +kernel
theorem dX3_paint_74 : decode cX3_paint 74 = .ok (.goto (-49), 3) := by decide +kernel
theorem dX3_paint_77 : decode cX3_paint 77 = .ok (.return_, 1) := by decide +kernel
theorem dX3_lay_0 : decode cX3_lay 0 = .ok (.iconst 1, 1) := by decide +kernel
theorem dX3_lay_1 : decode cX3_lay 1 = .ok (.aload_n 1, 1) := by decide +kernel
theorem dX3_lay_2 : decode cX3_lay 2 = .ok (.getfield 110, 3) := by decide +kernel
theorem dX3_lay_5 : decode cX3_lay 5 = .ok (.ishl, 1) := by decide +kernel
theorem dX3_lay_6 : decode cX3_lay 6 = .ok (.istore_n 2, 1) := by decide +kernel
theorem dX3_lay_7 : decode cX3_lay 7 = .ok (.iconst 0, 1) := by decide +kernel
theorem dX3_lay_8 : decode cX3_lay 8 = .ok (.aload_n 0, 1) := by decide +kernel
theorem dX3_lay_9 : decode cX3_lay 9 = .ok (.aload_n 1, 1) := by decide +kernel
theorem dX3_lay_10 : decode cX3_lay 10 = .ok (.getfield 113, 3) := by decide +kernel
theorem dX3_lay_13 : decode cX3_lay 13 = .ok (.invokevirtual 85, 3) := by decide +kernel
theorem dX3_lay_16 : decode cX3_lay 16 = .ok (.invokestatic 79, 3) := by decide +kernel
theorem dX3_lay_19 : decode cX3_lay 19 = .ok (.istore_n 3, 1) := by decide +kernel
theorem dX3_lay_20 : decode cX3_lay 20 = .ok (.aload_n 0, 1) := by decide +kernel
theorem dX3_lay_21 : decode cX3_lay 21 = .ok (.aload_n 1, 1) := by decide +kernel
theorem dX3_lay_22 : decode cX3_lay 22 = .ok (.invokevirtual 116, 3) := by decide +kernel
theorem dX3_lay_25 : decode cX3_lay 25 = .ok (.istore 4, 2) := by decide +kernel
theorem dX3_lay_27 : decode cX3_lay 27 = .ok (.iload_n 3, 1) := by decide +kernel
theorem dX3_lay_28 : decode cX3_lay 28 = .ok (.istore 5, 2) := by decide +kernel
theorem dX3_lay_30 : decode cX3_lay 30 = .ok (.iload 5, 2) := by decide +kernel
theorem dX3_lay_32 : decode cX3_lay 32 = .ok (.iload 4, 2) := by decide +kernel
theorem dX3_lay_34 : decode cX3_lay 34 = .ok (.if_icmp .ge 46, 3) := by decide +kernel
theorem dX3_lay_37 : decode cX3_lay 37 = .ok (.aload_n 0, 1) := by decide +kernel
theorem dX3_lay_38 : decode cX3_lay 38 = .ok (.getfield 30, 3) := by decide +kernel
theorem dX3_lay_41 : decode cX3_lay 41 = .ok (.iload 5, 2) := by decide +kernel
theorem dX3_lay_43 : decode cX3_lay 43 = .ok (.aload_n 1, 1) := by decide +kernel
theorem dX3_lay_44 : decode cX3_lay 44 = .ok (.getfield 120, 3) := by decide +kernel
theorem dX3_lay_47 : decode cX3_lay 47 = .ok (.ifCond .eq 15, 3) := by decide +kernel
theorem dX3_lay_50 : decode cX3_lay 50 = .ok (.aload_n 0, 1) := by decide +kernel
theorem dX3_lay_51 : decode cX3_lay 51 = .ok (.getfield 30, 3) := by decide +kernel
theorem dX3_lay_54 : decode cX3_lay 54 = .ok (.iload 5, 2) := by decide +kernel
theorem dX3_lay_56 : decode cX3_lay 56 = .ok (.iaload, 1) := by decide +kernel
theorem dX3_lay_57 : decode cX3_lay 57 = .ok (.iload_n 2, 1) := by decide +kernel
theorem dX3_lay_58 : decode cX3_lay 58 = .ok (.ior, 1) := by decide +kernel
theorem dX3_lay_59 : decode cX3_lay 59 = .ok (.goto 14, 3) := by decide +kernel
theorem dX3_lay_62 : decode cX3_lay 62 = .ok (.aload_n 0, 1) := by decide +kernel
theorem dX3_lay_63 : decode cX3_lay 63 = .ok (.getfield 30, 3) := by decide +kernel
theorem dX3_lay_66 : decode cX3_lay 66 = .ok (.iload 5, 2) := by decide +kernel
theorem dX3_lay_68 : decode cX3_lay 68 = .ok (.iaload, 1) := by decide +kernel
theorem dX3_lay_69 : decode cX3_lay 69 = .ok (.iload_n 2, 1) := by decide +kernel
theorem dX3_lay_70 : decode cX3_lay 70 = .ok (.iconst (-1), 1) := by decide +kernel
theorem dX3_lay_71 : decode cX3_lay 71 = .ok (.ixor, 1) := by decide +kernel
theorem dX3_lay_72 : decode cX3_lay 72 = .ok (.iand, 1) := by decide +kernel
theorem dX3_lay_73 : decode cX3_lay 73 = .ok (.iastore, 1) := by decide +kernel
theorem dX3_lay_74 : decode cX3_lay 74 = .ok (.iinc 5 1, 3) := by decide +kernel
theorem dX3_lay_77 : decode cX3_lay 77 = .ok (.goto (-47), 3) := by decide +kernel
theorem dX3_lay_80 : decode cX3_lay 80 = .ok (.return_, 1) := by decide +kernel
theorem dX3_endOf_0 : decode cX3_endOf 0 = .ok (.aload_n 1, 1) := by decide +kernel
theorem dX3_endOf_1 : decode cX3_endOf 1 = .ok (.getfield 124, 3) := by decide +kernel
theorem dX3_endOf_4 : decode cX3_endOf 4 = .ok (.bipush (-3), 2) := by decide +kernel
theorem dX3_endOf_6 : decode cX3_endOf 6 = .ok (.if_icmp .ne 14, 3) := by decide +kernel
theorem dX3_endOf_9 : decode cX3_endOf 9 = .ok (.aload_n 0, 1) := by decide +kernel
theorem dX3_endOf_10 : decode cX3_endOf 10 = .ok (.aload_n 1, 1) := by decide +kernel
theorem dX3_endOf_11 : decode cX3_endOf 11 = .ok (.getfield 127, 3) := by decide +kernel
theorem dX3_endOf_14 : decode cX3_endOf 14 = .ok (.invokevirtual 85, 3) := by decide +kernel
theorem dX3_endOf_17 : decode cX3_endOf 17 = .ok (.iconst 1, 1) := by decide +kernel
theorem dX3_endOf_18 : decode cX3_endOf 18 = .ok (.iadd, 1) := by decide +kernel
theorem dX3_endOf_19 : decode cX3_endOf 19 = .ok (.ireturn, 1) := by decide +kernel
theorem dX3_endOf_20 : decode cX3_endOf 20 = .ok (.aload_n 1, 1) := by decide +kernel
theorem dX3_endOf_21 : decode cX3_endOf 21 = .ok (.getfield 124, 3) := by decide +kernel
theorem dX3_endOf_24 : decode cX3_endOf 24 = .ok (.bipush (-2), 2) := by decide +kernel
theorem dX3_endOf_26 : decode cX3_endOf 26 = .ok (.if_icmp .ne 10, 3) := by decide +kernel
theorem dX3_endOf_29 : decode cX3_endOf 29 = .ok (.aload_n 0, 1) := by decide +kernel
theorem dX3_endOf_30 : decode cX3_endOf 30 = .ok (.getfield 88, 3) := by decide +kernel
theorem dX3_endOf_33 : decode cX3_endOf 33 = .ok (.goto 11, 3) := by decide +kernel
theorem dX3_endOf_36 : decode cX3_endOf 36 = .ok (.aload_n 0, 1) := by decide +kernel
theorem dX3_endOf_37 : decode cX3_endOf 37 = .ok (.aload_n 1, 1) := by decide +kernel
theorem dX3_endOf_38 : decode cX3_endOf 38 = .ok (.getfield 124, 3) := by decide +kernel
theorem dX3_endOf_41 : decode cX3_endOf 41 = .ok (.invokevirtual 85, 3) := by decide +kernel
theorem dX3_endOf_44 : decode cX3_endOf 44 = .ok (.ireturn, 1) := by decide +kernel
theorem dX3_findTaken_0 : decode cX3_findTaken 0 = .ok (.iconst 0, 1) := by decide +kernel
theorem dX3_findTaken_1 : decode cX3_findTaken 1 = .ok (.istore_n 3, 1) := by decide +kernel
theorem dX3_findTaken_2 : decode cX3_findTaken 2 = .ok (.iload_n 3, 1) := by decide +kernel
theorem dX3_findTaken_3 : decode cX3_findTaken 3 = .ok (.aload_n 0, 1) := by decide +kernel
theorem dX3_findTaken_4 : decode cX3_findTaken 4 = .ok (.getfield 33, 3) := by decide +kernel
theorem dX3_findTaken_7 : decode cX3_findTaken 7 = .ok (.getfield 91, 3) := by decide +kernel
theorem dX3_findTaken_10 : decode cX3_findTaken 10 = .ok (.if_icmp .ge 61, 3) := by decide +kernel
theorem dX3_findTaken_13 : decode cX3_findTaken 13 = .ok (.aload_n 0, 1) := by decide +kernel
theorem dX3_findTaken_14 : decode cX3_findTaken 14 = .ok (.getfield 33, 3) := by decide +kernel
theorem dX3_findTaken_17 : decode cX3_findTaken 17 = .ok (.getfield 130, 3) := by decide +kernel
theorem dX3_findTaken_20 : decode cX3_findTaken 20 = .ok (.iload_n 3, 1) := by decide +kernel
theorem dX3_findTaken_21 : decode cX3_findTaken 21 = .ok (.aaload, 1) := by decide +kernel
theorem dX3_findTaken_22 : decode cX3_findTaken 22 = .ok (.astore 4, 2) := by decide +kernel
theorem dX3_findTaken_24 : decode cX3_findTaken 24 = .ok (.aload_n 1, 1) := by decide +kernel
theorem dX3_findTaken_25 : decode cX3_findTaken 25 = .ok (.aload 4, 2) := by decide +kernel
theorem dX3_findTaken_27 : decode cX3_findTaken 27 = .ok (.invokevirtual 133, 3) := by decide +kernel
theorem dX3_findTaken_30 : decode cX3_findTaken 30 = .ok (.ifCond .eq 16, 3) := by decide +kernel
theorem dX3_findTaken_33 : decode cX3_findTaken 33 = .ok (.aload 4, 2) := by decide +kernel
theorem dX3_findTaken_35 : decode cX3_findTaken 35 = .ok (.getfield 138, 3) := by decide +kernel
theorem dX3_findTaken_38 : decode cX3_findTaken 38 = .ok (.iload_n 2, 1) := by decide +kernel
theorem dX3_findTaken_39 : decode cX3_findTaken 39 = .ok (.if_icmp .gt 7, 3) := by decide +kernel
theorem dX3_findTaken_42 : decode cX3_findTaken 42 = .ok (.iconst 1, 1) := by decide +kernel
theorem dX3_findTaken_43 : decode cX3_findTaken 43 = .ok (.goto 4, 3) := by decide +kernel
theorem dX3_findTaken_46 : decode cX3_findTaken 46 = .ok (.iconst 0, 1) := by decide +kernel
theorem dX3_findTaken_47 : decode cX3_findTaken 47 = .ok (.istore 5, 2) := by decide +kernel
theorem dX3_findTaken_49 : decode cX3_findTaken 49 = .ok (.aload_n 0, 1) := by decide +kernel
theorem dX3_findTaken_50 : decode cX3_findTaken 50 = .ok (.getfield 9, 3) := by decide +kernel
theorem dX3_findTaken_53 : decode cX3_findTaken 53 = .ok (.iload_n 3, 1) := by decide +kernel
theorem dX3_findTaken_54 : decode cX3_findTaken 54 = .ok (.iload 5, 2) := by decide +kernel
theorem dX3_findTaken_56 : decode cX3_findTaken 56 = .ok (.ifCond .eq 7, 3) := by decide +kernel
theorem dX3_findTaken_59 : decode cX3_findTaken 59 = .ok (.iconst 3, 1) := by decide +kernel
theorem dX3_findTaken_60 : decode cX3_findTaken 60 = .ok (.goto 4, 3) := by decide +kernel
theorem dX3_findTaken_63 : decode cX3_findTaken 63 = .ok (.iconst 0, 1) := by decide +kernel
theorem dX3_findTaken_64 : decode cX3_findTaken 64 = .ok (.iastore, 1) := by decide +kernel
theorem dX3_findTaken_65 : decode cX3_findTaken 65 = .ok (.iinc 3 1, 3) := by decide +kernel
theorem dX3_findTaken_68 : decode cX3_findTaken 68 = .ok (.goto (-66), 3) := by decide +kernel
theorem dX3_findTaken_71 : decode cX3_findTaken 71 = .ok (.return_, 1) := by decide +kernel
theorem dX3_findUndone_0 : decode cX3_findUndone 0 = .ok (.aload_n 0, 1) := by decide +kernel
theorem dX3_findUndone_1 : decode cX3_findUndone 1 = .ok (.getfield 33, 3) := by decide +kernel
theorem dX3_findUndone_4 : decode cX3_findUndone 4 = .ok (.getfield 91, 3) := by decide +kernel
theorem dX3_findUndone_7 : decode cX3_findUndone 7 = .ok (.iconst 1, 1) := by decide +kernel
theorem dX3_findUndone_8 : decode cX3_findUndone 8 = .ok (.isub, 1) := by decide +kernel
theorem dX3_findUndone_9 : decode cX3_findUndone 9 = .ok (.istore_n 1, 1) := by decide +kernel
theorem dX3_findUndone_10 : decode cX3_findUndone 10 = .ok (.iload_n 1, 1) := by decide +kernel
theorem dX3_findUndone_11 : decode cX3_findUndone 11 = .ok (.ifCond .lt 51, 3) := by decide +kernel
theorem dX3_findUndone_14 : decode cX3_findUndone 14 = .ok (.aload_n 0, 1) := by decide +kernel
theorem dX3_findUndone_15 : decode cX3_findUndone 15 = .ok (.getfield 9, 3) := by decide +kernel
theorem dX3_findUndone_18 : decode cX3_findUndone 18 = .ok (.iload_n 1, 1) := by decide +kernel
theorem dX3_findUndone_19 : decode cX3_findUndone 19 = .ok (.iaload, 1) := by decide +kernel
theorem dX3_findUndone_20 : decode cX3_findUndone 20 = .ok (.iconst 3, 1) := by decide +kernel
theorem dX3_findUndone_21 : decode cX3_findUndone 21 = .ok (.if_icmp .ne 35, 3) := by decide +kernel
theorem dX3_findUndone_24 : decode cX3_findUndone 24 = .ok (.aload_n 0, 1) := by decide +kernel
theorem dX3_findUndone_25 : decode cX3_findUndone 25 = .ok (.getfield 33, 3) := by decide +kernel
theorem dX3_findUndone_28 : decode cX3_findUndone 28 = .ok (.getfield 130, 3) := by decide +kernel
theorem dX3_findUndone_31 : decode cX3_findUndone 31 = .ok (.iload_n 1, 1) := by decide +kernel
theorem dX3_findUndone_32 : decode cX3_findUndone 32 = .ok (.aaload, 1) := by decide +kernel
theorem dX3_findUndone_33 : decode cX3_findUndone 33 = .ok (.astore_n 3, 1) := by decide +kernel
theorem dX3_findUndone_34 : decode cX3_findUndone 34 = .ok (.aload_n 3, 1) := by decide +kernel
theorem dX3_findUndone_35 : decode cX3_findUndone 35 = .ok (.instanceof 141, 3) := by decide +kernel
theorem dX3_findUndone_38 : decode cX3_findUndone 38 = .ok (.ifCond .eq 18, 3) := by decide +kernel
theorem dX3_findUndone_41 : decode cX3_findUndone 41 = .ok (.aload_n 3, 1) := by decide +kernel
theorem dX3_findUndone_42 : decode cX3_findUndone 42 = .ok (.checkcast 141, 3) := by decide +kernel
theorem dX3_findUndone_45 : decode cX3_findUndone 45 = .ok (.astore_n 2, 1) := by decide +kernel
theorem dX3_findUndone_46 : decode cX3_findUndone 46 = .ok (.aload_n 0, 1) := by decide +kernel
theorem dX3_findUndone_47 : decode cX3_findUndone 47 = .ok (.getfield 9, 3) := by decide +kernel
theorem dX3_findUndone_50 : decode cX3_findUndone 50 = .ok (.aload_n 2, 1) := by decide +kernel
theorem dX3_findUndone_51 : decode cX3_findUndone 51 = .ok (.getfield 143, 3) := by decide +kernel
theorem dX3_findUndone_54 : decode cX3_findUndone 54 = .ok (.iconst 2, 1) := by decide +kernel
theorem dX3_findUndone_55 : decode cX3_findUndone 55 = .ok (.iastore, 1) := by decide +kernel
theorem dX3_findUndone_56 : decode cX3_findUndone 56 = .ok (.iinc 1 (-1), 3) := by decide +kernel
theorem dX3_findUndone_59 : decode cX3_findUndone 59 = .ok (.goto (-49), 3) := by decide +kernel
theorem dX3_findUndone_62 : decode cX3_findUndone 62 = .ok (.return_, 1) := by decide +kernel
theorem dX3_findOrder_0 : decode cX3_findOrder 0 = .ok (.aload_n 0, 1) := by decide +kernel
theorem dX3_findOrder_1 : decode cX3_findOrder 1 = .ok (.iconst 0, 1) := by decide +kernel
theorem dX3_findOrder_2 : decode cX3_findOrder 2 = .ok (.putfield 88, 3) := by decide +kernel
theorem dX3_findOrder_5 : decode cX3_findOrder 5 = .ok (.iconst 0, 1) := by decide +kernel
theorem dX3_findOrder_6 : decode cX3_findOrder 6 = .ok (.istore_n 1, 1) := by decide +kernel
theorem dX3_findOrder_7 : decode cX3_findOrder 7 = .ok (.iload_n 1, 1) := by decide +kernel
theorem dX3_findOrder_8 : decode cX3_findOrder 8 = .ok (.aload_n 0, 1) := by decide +kernel
theorem dX3_findOrder_9 : decode cX3_findOrder 9 = .ok (.getfield 33, 3) := by decide +kernel
theorem dX3_findOrder_12 : decode cX3_findOrder 12 = .ok (.getfield 146, 3) := by decide +kernel
theorem dX3_findOrder_15 : decode cX3_findOrder 15 = .ok (.if_icmp .ge 71, 3) := by decide +kernel
theorem dX3_findOrder_18 : decode cX3_findOrder 18 = .ok (.aload_n 0, 1) := by decide +kernel
theorem dX3_findOrder_19 : decode cX3_findOrder 19 = .ok (.getfield 33, 3) := by decide +kernel
theorem dX3_findOrder_22 : decode cX3_findOrder 22 = .ok (.getfield 147, 3) := by decide +kernel
theorem dX3_findOrder_25 : decode cX3_findOrder 25 = .ok (.iload_n 1, 1) := by decide +kernel
theorem dX3_findOrder_26 : decode cX3_findOrder 26 = .ok (.iaload, 1) := by decide +kernel
theorem dX3_findOrder_27 : decode cX3_findOrder 27 = .ok (.istore_n 2, 1) := by decide +kernel
theorem dX3_findOrder_28 : decode cX3_findOrder 28 = .ok (.aload_n 0, 1) := by decide +kernel
theorem dX3_findOrder_29 : decode cX3_findOrder 29 = .ok (.getfield 9, 3) := by decide +kernel
theorem dX3_findOrder_32 : decode cX3_findOrder 32 = .ok (.iload_n 2, 1) := by decide +kernel
theorem dX3_findOrder_33 : decode cX3_findOrder 33 = .ok (.invokestatic 148, 3) := by decide +kernel
theorem dX3_findOrder_36 : decode cX3_findOrder 36 = .ok (.iaload, 1) := by decide +kernel
theorem dX3_findOrder_37 : decode cX3_findOrder 37 = .ok (.ifCond .ne 13, 3) := by decide +kernel
theorem dX3_findOrder_40 : decode cX3_findOrder 40 = .ok (.aload_n 0, 1) := by decide +kernel
theorem dX3_findOrder_41 : decode cX3_findOrder 41 = .ok (.getfield 18, 3) := by decide +kernel
theorem dX3_findOrder_44 : decode cX3_findOrder 44 = .ok (.iload_n 2, 1) := by decide +kernel
theorem dX3_findOrder_45 : decode cX3_findOrder 45 = .ok (.iconst (-1), 1) := by decide +kernel
theorem dX3_findOrder_46 : decode cX3_findOrder 46 = .ok (.iastore, 1) := by decide +kernel
theorem dX3_findOrder_47 : decode cX3_findOrder 47 = .ok (.goto 33, 3) := by decide +kernel
theorem dX3_findOrder_50 : decode cX3_findOrder 50 = .ok (.aload_n 0, 1) := by decide +kernel
theorem dX3_findOrder_51 : decode cX3_findOrder 51 = .ok (.getfield 18, 3) := by decide +kernel
theorem dX3_findOrder_54 : decode cX3_findOrder 54 = .ok (.iload_n 2, 1) := by decide +kernel
theorem dX3_findOrder_55 : decode cX3_findOrder 55 = .ok (.aload_n 0, 1) := by decide +kernel
theorem dX3_findOrder_56 : decode cX3_findOrder 56 = .ok (.getfield 88, 3) := by decide +kernel
theorem dX3_findOrder_59 : decode cX3_findOrder 59 = .ok (.iastore, 1) := by decide +kernel
theorem dX3_findOrder_60 : decode cX3_findOrder 60 = .ok (.aload_n 0, 1) := by decide +kernel
theorem dX3_findOrder_61 : decode cX3_findOrder 61 = .ok (.getfield 15, 3) := by decide +kernel
theorem dX3_findOrder_64 : decode cX3_findOrder 64 = .ok (.aload_n 0, 1) := by decide +kernel
theorem dX3_findOrder_65 : decode cX3_findOrder 65 = .ok (.getfield 88, 3) := by decide +kernel
theorem dX3_findOrder_68 : decode cX3_findOrder 68 = .ok (.iload_n 2, 1) := by decide +kernel
theorem dX3_findOrder_69 : decode cX3_findOrder 69 = .ok (.iastore, 1) := by decide +kernel
theorem dX3_findOrder_70 : decode cX3_findOrder 70 = .ok (.aload_n 0, 1) := by decide +kernel
theorem dX3_findOrder_71 : decode cX3_findOrder 71 = .ok (.dup, 1) := by decide +kernel
theorem dX3_findOrder_72 : decode cX3_findOrder 72 = .ok (.getfield 88, 3) := by decide +kernel
theorem dX3_findOrder_75 : decode cX3_findOrder 75 = .ok (.iconst 1, 1) := by decide +kernel
theorem dX3_findOrder_76 : decode cX3_findOrder 76 = .ok (.iadd, 1) := by decide +kernel
theorem dX3_findOrder_77 : decode cX3_findOrder 77 = .ok (.putfield 88, 3) := by decide +kernel
theorem dX3_findOrder_80 : decode cX3_findOrder 80 = .ok (.iinc 1 1, 3) := by decide +kernel
theorem dX3_findOrder_83 : decode cX3_findOrder 83 = .ok (.goto (-76), 3) := by decide +kernel
theorem dX3_findOrder_86 : decode cX3_findOrder 86 = .ok (.return_, 1) := by decide +kernel
theorem dX3_findStruck_0 : decode cX3_findStruck 0 = .ok (.iconst 0, 1) := by decide +kernel
theorem dX3_findStruck_1 : decode cX3_findStruck 1 = .ok (.istore_n 1, 1) := by decide +kernel
theorem dX3_findStruck_2 : decode cX3_findStruck 2 = .ok (.iload_n 1, 1) := by decide +kernel
theorem dX3_findStruck_3 : decode cX3_findStruck 3 = .ok (.aload_n 0, 1) := by decide +kernel
theorem dX3_findStruck_4 : decode cX3_findStruck 4 = .ok (.getfield 88, 3) := by decide +kernel
theorem dX3_findStruck_7 : decode cX3_findStruck 7 = .ok (.if_icmp .ge 16, 3) := by decide +kernel
theorem dX3_findStruck_10 : decode cX3_findStruck 10 = .ok (.aload_n 0, 1) := by decide +kernel
theorem dX3_findStruck_11 : decode cX3_findStruck 11 = .ok (.getfield 21, 3) := by decide +kernel
theorem dX3_findStruck_14 : decode cX3_findStruck 14 = .ok (.iload_n 1, 1) := by decide +kernel
theorem dX3_findStruck_15 : decode cX3_findStruck 15 = .ok (.iconst 0, 1) := by decide +kernel
theorem dX3_findStruck_16 : decode cX3_findStruck 16 = .ok (.iastore, 1) := by decide +kernel
theorem dX3_findStruck_17 : decode cX3_findStruck 17 = .ok (.iinc 1 1, 3) := by decide +kernel
theorem dX3_findStruck_20 : decode cX3_findStruck 20 = .ok (.goto (-18), 3) := by decide +kernel
theorem dX3_findStruck_23 : decode cX3_findStruck 23 = .ok (.iconst 0, 1) := by decide +kernel
theorem dX3_findStruck_24 : decode cX3_findStruck 24 = .ok (.istore_n 1, 1) := by decide +kernel
theorem dX3_findStruck_25 : decode cX3_findStruck 25 = .ok (.iload_n 1, 1) := by decide +kernel
theorem dX3_findStruck_26 : decode cX3_findStruck 26 = .ok (.aload_n 0, 1) := by decide +kernel
theorem dX3_findStruck_27 : decode cX3_findStruck 27 = .ok (.getfield 33, 3) := by decide +kernel
theorem dX3_findStruck_30 : decode cX3_findStruck 30 = .ok (.getfield 91, 3) := by decide +kernel
theorem dX3_findStruck_33 : decode cX3_findStruck 33 = .ok (.if_icmp .ge 46, 3) := by decide +kernel
theorem dX3_findStruck_36 : decode cX3_findStruck 36 = .ok (.aload_n 0, 1) := by decide +kernel
theorem dX3_findStruck_37 : decode cX3_findStruck 37 = .ok (.getfield 9, 3) := by decide +kernel
theorem dX3_findStruck_40 : decode cX3_findStruck 40 = .ok (.iload_n 1, 1) := by decide +kernel
theorem dX3_findStruck_41 : decode cX3_findStruck 41 = .ok (.iaload, 1) := by decide +kernel
theorem dX3_findStruck_42 : decode cX3_findStruck 42 = .ok (.iconst 3, 1) := by decide +kernel
theorem dX3_findStruck_43 : decode cX3_findStruck 43 = .ok (.if_icmp .ne 30, 3) := by decide +kernel
theorem dX3_findStruck_46 : decode cX3_findStruck 46 = .ok (.aload_n 0, 1) := by decide +kernel
theorem dX3_findStruck_47 : decode cX3_findStruck 47 = .ok (.getfield 33, 3) := by decide +kernel
theorem dX3_findStruck_50 : decode cX3_findStruck 50 = .ok (.getfield 130, 3) := by decide +kernel
theorem dX3_findStruck_53 : decode cX3_findStruck 53 = .ok (.iload_n 1, 1) := by decide +kernel
theorem dX3_findStruck_54 : decode cX3_findStruck 54 = .ok (.aaload, 1) := by decide +kernel
theorem dX3_findStruck_55 : decode cX3_findStruck 55 = .ok (.astore_n 3, 1) := by decide +kernel
theorem dX3_findStruck_56 : decode cX3_findStruck 56 = .ok (.aload_n 3, 1) := by decide +kernel
theorem dX3_findStruck_57 : decode cX3_findStruck 57 = .ok (.instanceof 151, 3) := by decide +kernel
theorem dX3_findStruck_60 : decode cX3_findStruck 60 = .ok (.ifCond .eq 13, 3) := by decide +kernel
theorem dX3_findStruck_63 : decode cX3_findStruck 63 = .ok (.aload_n 3, 1) := by decide +kernel
theorem dX3_findStruck_64 : decode cX3_findStruck 64 = .ok (.checkcast 151, 3) := by decide +kernel
theorem dX3_findStruck_67 : decode cX3_findStruck 67 = .ok (.astore_n 2, 1) := by decide +kernel
theorem dX3_findStruck_68 : decode cX3_findStruck 68 = .ok (.aload_n 0, 1) := by decide +kernel
theorem dX3_findStruck_69 : decode cX3_findStruck 69 = .ok (.aload_n 2, 1) := by decide +kernel
theorem dX3_findStruck_70 : decode cX3_findStruck 70 = .ok (.invokevirtual 153, 3) := by decide +kernel
theorem dX3_findStruck_73 : decode cX3_findStruck 73 = .ok (.iinc 1 1, 3) := by decide +kernel
theorem dX3_findStruck_76 : decode cX3_findStruck 76 = .ok (.goto (-51), 3) := by decide +kernel
theorem dX3_findStruck_79 : decode cX3_findStruck 79 = .ok (.return_, 1) := by decide +kernel
theorem dX3_countStruck_0 : decode cX3_countStruck 0 = .ok (.iconst 0, 1) := by decide +kernel
theorem dX3_countStruck_1 : decode cX3_countStruck 1 = .ok (.istore_n 2, 1) := by decide +kernel
theorem dX3_countStruck_2 : decode cX3_countStruck 2 = .ok (.iload_n 2, 1) := by decide +kernel
theorem dX3_countStruck_3 : decode cX3_countStruck 3 = .ok (.aload_n 1, 1) := by decide +kernel
theorem dX3_countStruck_4 : decode cX3_countStruck 4 = .ok (.getfield 157, 3) := by decide +kernel
theorem dX3_countStruck_7 : decode cX3_countStruck 7 = .ok (.arraylength, 1) := by decide +kernel
theorem dX3_countStruck_8 : decode cX3_countStruck 8 = .ok (.if_icmp .ge 35, 3) := by decide +kernel
theorem dX3_countStruck_11 : decode cX3_countStruck 11 = .ok (.aload_n 0, 1) := by decide +kernel
theorem dX3_countStruck_12 : decode cX3_countStruck 12 = .ok (.aload_n 1, 1) := by decide +kernel
theorem dX3_countStruck_13 : decode cX3_countStruck 13 = .ok (.getfield 157, 3) := by decide +kernel
theorem dX3_countStruck_16 : decode cX3_countStruck 16 = .ok (.iload_n 2, 1) := by decide +kernel
theorem dX3_countStruck_17 : decode cX3_countStruck 17 = .ok (.iaload, 1) := by decide +kernel
theorem dX3_countStruck_18 : decode cX3_countStruck 18 = .ok (.invokevirtual 85, 3) := by decide +kernel
theorem dX3_countStruck_21 : decode cX3_countStruck 21 = .ok (.istore_n 3, 1) := by decide +kernel
theorem dX3_countStruck_22 : decode cX3_countStruck 22 = .ok (.iload_n 3, 1) := by decide +kernel
theorem dX3_countStruck_23 : decode cX3_countStruck 23 = .ok (.iconst (-1), 1) := by decide +kernel
theorem dX3_countStruck_24 : decode cX3_countStruck 24 = .ok (.if_icmp .eq 13, 3) := by decide +kernel
theorem dX3_countStruck_27 : decode cX3_countStruck 27 = .ok (.aload_n 0, 1) := by decide +kernel
theorem dX3_countStruck_28 : decode cX3_countStruck 28 = .ok (.getfield 21, 3) := by decide +kernel
theorem dX3_countStruck_31 : decode cX3_countStruck 31 = .ok (.iload_n 3, 1) := by decide +kernel
theorem dX3_countStruck_32 : decode cX3_countStruck 32 = .ok (.dup2, 1) := by decide +kernel
theorem dX3_countStruck_33 : decode cX3_countStruck 33 = .ok (.iaload, 1) := by decide +kernel
theorem dX3_countStruck_34 : decode cX3_countStruck 34 = .ok (.iconst 1, 1) := by decide +kernel
theorem dX3_countStruck_35 : decode cX3_countStruck 35 = .ok (.iadd, 1) := by decide +kernel
theorem dX3_countStruck_36 : decode cX3_countStruck 36 = .ok (.iastore, 1) := by decide +kernel
theorem dX3_countStruck_37 : decode cX3_countStruck 37 = .ok (.iinc 2 1, 3) := by decide +kernel
theorem dX3_countStruck_40 : decode cX3_countStruck 40 = .ok (.goto (-38), 3) := by decide +kernel
theorem dX3_countStruck_43 : decode cX3_countStruck 43 = .ok (.return_, 1) := by decide +kernel
theorem dX3_findSeen_0 : decode cX3_findSeen 0 = .ok (.aload_n 0, 1) := by decide +kernel
theorem dX3_findSeen_1 : decode cX3_findSeen 1 = .ok (.iconst 0, 1) := by decide +kernel
theorem dX3_findSeen_2 : decode cX3_findSeen 2 = .ok (.putfield 65, 3) := by decide +kernel
theorem dX3_findSeen_5 : decode cX3_findSeen 5 = .ok (.iconst 0, 1) := by decide +kernel
theorem dX3_findSeen_6 : decode cX3_findSeen 6 = .ok (.istore_n 1, 1) := by decide +kernel
theorem dX3_findSeen_7 : decode cX3_findSeen 7 = .ok (.iload_n 1, 1) := by decide +kernel
theorem dX3_findSeen_8 : decode cX3_findSeen 8 = .ok (.aload_n 0, 1) := by decide +kernel
theorem dX3_findSeen_9 : decode cX3_findSeen 9 = .ok (.getfield 88, 3) := by decide +kernel
theorem dX3_findSeen_12 : decode cX3_findSeen 12 = .ok (.if_icmp .ge 66, 3) := by decide +kernel
theorem dX3_findSeen_15 : decode cX3_findSeen 15 = .ok (.aload_n 0, 1) := by decide +kernel
theorem dX3_findSeen_16 : decode cX3_findSeen 16 = .ok (.getfield 24, 3) := by decide +kernel
theorem dX3_findSeen_19 : decode cX3_findSeen 19 = .ok (.iload_n 1, 1) := by decide +kernel
theorem dX3_findSeen_20 : decode cX3_findSeen 20 = .ok (.aload_n 0, 1) := by decide +kernel
theorem dX3_findSeen_21 : decode cX3_findSeen 21 = .ok (.getfield 65, 3) := by decide +kernel
theorem dX3_findSeen_24 : decode cX3_findSeen 24 = .ok (.iastore, 1) := by decide +kernel
theorem dX3_findSeen_25 : decode cX3_findSeen 25 = .ok (.aload_n 0, 1) := by decide +kernel
theorem dX3_findSeen_26 : decode cX3_findSeen 26 = .ok (.getfield 21, 3) := by decide +kernel
theorem dX3_findSeen_29 : decode cX3_findSeen 29 = .ok (.iload_n 1, 1) := by decide +kernel
theorem dX3_findSeen_30 : decode cX3_findSeen 30 = .ok (.iaload, 1) := by decide +kernel
theorem dX3_findSeen_31 : decode cX3_findSeen 31 = .ok (.ifCond .ne 41, 3) := by decide +kernel
theorem dX3_findSeen_34 : decode cX3_findSeen 34 = .ok (.aload_n 0, 1) := by decide +kernel
theorem dX3_findSeen_35 : decode cX3_findSeen 35 = .ok (.getfield 9, 3) := by decide +kernel
theorem dX3_findSeen_38 : decode cX3_findSeen 38 = .ok (.aload_n 0, 1) := by decide +kernel
theorem dX3_findSeen_39 : decode cX3_findSeen 39 = .ok (.getfield 15, 3) := by decide +kernel
theorem dX3_findSeen_42 : decode cX3_findSeen 42 = .ok (.iload_n 1, 1) := by decide +kernel
theorem dX3_findSeen_43 : decode cX3_findSeen 43 = .ok (.iaload, 1) := by decide +kernel
theorem dX3_findSeen_44 : decode cX3_findSeen 44 = .ok (.invokestatic 148, 3) := by decide +kernel
theorem dX3_findSeen_47 : decode cX3_findSeen 47 = .ok (.iaload, 1) := by decide +kernel
theorem dX3_findSeen_48 : decode cX3_findSeen 48 = .ok (.iconst 3, 1) := by decide +kernel
theorem dX3_findSeen_49 : decode cX3_findSeen 49 = .ok (.if_icmp .ne 23, 3) := by decide +kernel
theorem dX3_findSeen_52 : decode cX3_findSeen 52 = .ok (.aload_n 0, 1) := by decide +kernel
theorem dX3_findSeen_53 : decode cX3_findSeen 53 = .ok (.getfield 27, 3) := by decide +kernel
theorem dX3_findSeen_56 : decode cX3_findSeen 56 = .ok (.aload_n 0, 1) := by decide +kernel
theorem dX3_findSeen_57 : decode cX3_findSeen 57 = .ok (.getfield 65, 3) := by decide +kernel
theorem dX3_findSeen_60 : decode cX3_findSeen 60 = .ok (.iload_n 1, 1) := by decide +kernel
theorem dX3_findSeen_61 : decode cX3_findSeen 61 = .ok (.iastore, 1) := by decide +kernel
theorem dX3_findSeen_62 : decode cX3_findSeen 62 = .ok (.aload_n 0, 1) := by decide +kernel
theorem dX3_findSeen_63 : decode cX3_findSeen 63 = .ok (.dup, 1) := by decide +kernel
theorem dX3_findSeen_64 : decode cX3_findSeen 64 = .ok (.getfield 65, 3) := by decide +kernel
theorem dX3_findSeen_67 : decode cX3_findSeen 67 = .ok (.iconst 1, 1) := by decide +kernel
theorem dX3_findSeen_68 : decode cX3_findSeen 68 = .ok (.iadd, 1) := by decide +kernel
theorem dX3_findSeen_69 : decode cX3_findSeen 69 = .ok (.putfield 65, 3) := by decide +kernel
theorem dX3_findSeen_72 : decode cX3_findSeen 72 = .ok (.iinc 1 1, 3) := by decide +kernel
theorem dX3_findSeen_75 : decode cX3_findSeen 75 = .ok (.goto (-68), 3) := by decide +kernel
theorem dX3_findSeen_78 : decode cX3_findSeen 78 = .ok (.aload_n 0, 1) := by decide +kernel
theorem dX3_findSeen_79 : decode cX3_findSeen 79 = .ok (.getfield 24, 3) := by decide +kernel
theorem dX3_findSeen_82 : decode cX3_findSeen 82 = .ok (.aload_n 0, 1) := by decide +kernel
theorem dX3_findSeen_83 : decode cX3_findSeen 83 = .ok (.getfield 88, 3) := by decide +kernel
theorem dX3_findSeen_86 : decode cX3_findSeen 86 = .ok (.aload_n 0, 1) := by decide +kernel
theorem dX3_findSeen_87 : decode cX3_findSeen 87 = .ok (.getfield 65, 3) := by decide +kernel
theorem dX3_findSeen_90 : decode cX3_findSeen 90 = .ok (.iastore, 1) := by decide +kernel
theorem dX3_findSeen_91 : decode cX3_findSeen 91 = .ok (.return_, 1) := by decide +kernel
theorem dX4_init_0 : decode cX4_init 0 = .ok (.aload_n 0, 1) := by decide +kernel
theorem dX4_init_1 : decode cX4_init 1 = .ok (.invokespecial 3, 3) := by decide +kernel
theorem dX4_init_4 : decode cX4_init 4 = .ok (.aload_n 0, 1) := by decide +kernel
theorem dX4_init_5 : decode cX4_init 5 = .ok (.sipush 256, 3) := by decide +kernel
theorem dX4_init_8 : decode cX4_init 8 = .ok (.newarray .int, 2) := by decide +kernel
theorem dX4_init_10 : decode cX4_init 10 = .ok (.putfield 9, 3) := by decide +kernel
theorem dX4_init_13 : decode cX4_init 13 = .ok (.aload_n 0, 1) := by decide +kernel
theorem dX4_init_14 : decode cX4_init 14 = .ok (.iconst 3, 1) := by decide +kernel
theorem dX4_init_15 : decode cX4_init 15 = .ok (.newarray .int, 2) := by decide +kernel
theorem dX4_init_17 : decode cX4_init 17 = .ok (.putfield 15, 3) := by decide +kernel
theorem dX4_init_20 : decode cX4_init 20 = .ok (.aload_n 0, 1) := by decide +kernel
theorem dX4_init_21 : decode cX4_init 21 = .ok (.iconst 3, 1) := by decide +kernel
theorem dX4_init_22 : decode cX4_init 22 = .ok (.newarray .int, 2) := by decide +kernel
theorem dX4_init_24 : decode cX4_init 24 = .ok (.putfield 18, 3) := by decide +kernel
theorem dX4_init_27 : decode cX4_init 27 = .ok (.aload_n 0, 1) := by decide +kernel
theorem dX4_init_28 : decode cX4_init 28 = .ok (.iconst (-1), 1) := by decide +kernel
theorem dX4_init_29 : decode cX4_init 29 = .ok (.putfield 21, 3) := by decide +kernel
theorem dX4_init_32 : decode cX4_init 32 = .ok (.aload_n 0, 1) := by decide +kernel
theorem dX4_init_33 : decode cX4_init 33 = .ok (.iload_n 1, 1) := by decide +kernel
theorem dX4_init_34 : decode cX4_init 34 = .ok (.putfield 25, 3) := by decide +kernel
theorem dX4_init_37 : decode cX4_init 37 = .ok (.aload_n 0, 1) := by decide +kernel
theorem dX4_init_38 : decode cX4_init 38 = .ok (.getfield 18, 3) := by decide +kernel
theorem dX4_init_41 : decode cX4_init 41 = .ok (.iconst (-1), 1) := by decide +kernel
theorem dX4_init_42 : decode cX4_init 42 = .ok (.invokestatic 28, 3) := by decide +kernel
theorem dX4_init_45 : decode cX4_init 45 = .ok (.return_, 1) := by decide +kernel
theorem dX4_hasTaken_0 : decode cX4_hasTaken 0 = .ok (.aload_n 0, 1) := by decide +kernel
theorem dX4_hasTaken_1 : decode cX4_hasTaken 1 = .ok (.getfield 9, 3) := by decide +kernel
theorem dX4_hasTaken_4 : decode cX4_hasTaken 4 = .ok (.aload_n 1, 1) := by decide +kernel
theorem dX4_hasTaken_5 : decode cX4_hasTaken 5 = .ok (.getfield 34, 3) := by decide +kernel
theorem dX4_hasTaken_8 : decode cX4_hasTaken 8 = .ok (.iaload, 1) := by decide +kernel
theorem dX4_hasTaken_9 : decode cX4_hasTaken 9 = .ok (.iconst 2, 1) := by decide +kernel
theorem dX4_hasTaken_10 : decode cX4_hasTaken 10 = .ok (.if_icmp .ne 7, 3) := by decide +kernel
theorem dX4_hasTaken_13 : decode cX4_hasTaken 13 = .ok (.iconst 1, 1) := by decide +kernel
theorem dX4_hasTaken_14 : decode cX4_hasTaken 14 = .ok (.goto 4, 3) := by decide +kernel
theorem dX4_hasTaken_17 : decode cX4_hasTaken 17 = .ok (.iconst 0, 1) := by decide +kernel
theorem dX4_hasTaken_18 : decode cX4_hasTaken 18 = .ok (.ireturn, 1) := by decide +kernel
theorem dX4_own_0 : decode cX4_own 0 = .ok (.aload_n 0, 1) := by decide +kernel
theorem dX4_own_1 : decode cX4_own 1 = .ok (.aload_n 1, 1) := by decide +kernel
theorem dX4_own_2 : decode cX4_own 2 = .ok (.getfield 34, 3) := by decide +kernel
theorem dX4_own_5 : decode cX4_own 5 = .ok (.putfield 21, 3) := by decide +kernel
theorem dX4_own_8 : decode cX4_own 8 = .ok (.aload_n 0, 1) := by decide +kernel
theorem dX4_own_9 : decode cX4_own 9 = .ok (.aload_n 1, 1) := by decide +kernel
theorem dX4_own_10 : decode cX4_own 10 = .ok (.invokevirtual 39, 3) := by decide +kernel
theorem dX4_own_13 : decode cX4_own 13 = .ok (.return_, 1) := by decide +kernel
theorem dX4_get_0 : decode cX4_get 0 = .ok (.aload_n 0, 1) := by decide +kernel
theorem dX4_get_1 : decode cX4_get 1 = .ok (.getfield 9, 3) := by decide +kernel
theorem dX4_get_4 : decode cX4_get 4 = .ok (.aload_n 1, 1) := by decide +kernel
theorem dX4_get_5 : decode cX4_get 5 = .ok (.getfield 34, 3) := by decide +kernel
theorem dX4_get_8 : decode cX4_get 8 = .ok (.iaload, 1) := by decide +kernel
theorem dX4_get_9 : decode cX4_get 9 = .ok (.ifCond .ne 13, 3) := by decide +kernel
theorem dX4_get_12 : decode cX4_get 12 = .ok (.aload_n 0, 1) := by decide +kernel
theorem dX4_get_13 : decode cX4_get 13 = .ok (.getfield 9, 3) := by decide +kernel
theorem dX4_get_16 : decode cX4_get 16 = .ok (.aload_n 1, 1) := by decide +kernel
theorem dX4_get_17 : decode cX4_get 17 = .ok (.getfield 34, 3) := by decide +kernel
theorem dX4_get_20 : decode cX4_get 20 = .ok (.iconst 1, 1) := by decide +kernel
theorem dX4_get_21 : decode cX4_get 21 = .ok (.iastore, 1) := by decide +kernel
theorem dX4_get_22 : decode cX4_get 22 = .ok (.return_, 1) := by decide +kernel
theorem dX4_settle_0 : decode cX4_settle 0 = .ok (.iconst 0, 1) := by decide +kernel
theorem dX4_settle_1 : decode cX4_settle 1 = .ok (.istore_n 2, 1) := by decide +kernel
theorem dX4_settle_2 : decode cX4_settle 2 = .ok (.iconst 0, 1) := by decide +kernel
theorem dX4_settle_3 : decode cX4_settle 3 = .ok (.istore_n 3, 1) := by decide +kernel
theorem dX4_settle_4 : decode cX4_settle 4 = .ok (.iload_n 3, 1) := by decide +kernel
theorem dX4_settle_5 : decode cX4_settle 5 = .ok (.aload_n 1, 1) := by decide +kernel
theorem dX4_settle_6 : decode cX4_settle 6 = .ok (.getfield 43, 3) := by decide +kernel
theorem dX4_settle_9 : decode cX4_settle 9 = .ok (.if_icmp .ge 46, 3) := by decide +kernel
theorem dX4_settle_12 : decode cX4_settle 12 = .ok (.aload_n 0, 1) := by decide +kernel
theorem dX4_settle_13 : decode cX4_settle 13 = .ok (.getfield 9, 3) := by decide +kernel
theorem dX4_settle_16 : decode cX4_settle 16 = .ok (.iload_n 3, 1) := by decide +kernel
theorem dX4_settle_17 : decode cX4_settle 17 = .ok (.iaload, 1) := by decide +kernel
theorem dX4_settle_18 : decode cX4_settle 18 = .ok (.iconst 1, 1) := by decide +kernel
theorem dX4_settle_19 : decode cX4_settle 19 = .ok (.if_icmp .ne 30, 3) := by decide +kernel
theorem dX4_settle_22 : decode cX4_settle 22 = .ok (.aload_n 0, 1) := by decide +kernel
theorem dX4_settle_23 : decode cX4_settle 23 = .ok (.aload_n 1, 1) := by decide +kernel
theorem dX4_settle_24 : decode cX4_settle 24 = .ok (.getfield 48, 3) := by decide +kernel
theorem dX4_settle_27 : decode cX4_settle 27 = .ok (.iload_n 3, 1) := by decide +kernel
theorem dX4_settle_28 : decode cX4_settle 28 = .ok (.aaload, 1) := by decide +kernel
theorem dX4_settle_29 : decode cX4_settle 29 = .ok (.invokevirtual 52, 3) := by decide +kernel
theorem dX4_settle_32 : decode cX4_settle 32 = .ok (.iconst (-1), 1) := by decide +kernel
theorem dX4_settle_33 : decode cX4_settle 33 = .ok (.if_icmp .ne 16, 3) := by decide +kernel
theorem dX4_settle_36 : decode cX4_settle 36 = .ok (.aload_n 0, 1) := by decide +kernel
theorem dX4_settle_37 : decode cX4_settle 37 = .ok (.aload_n 1, 1) := by decide +kernel
theorem dX4_settle_38 : decode cX4_settle 38 = .ok (.getfield 48, 3) := by decide +kernel
theorem dX4_settle_41 : decode cX4_settle 41 = .ok (.iload_n 3, 1) := by decide +kernel
theorem dX4_settle_42 : decode cX4_settle 42 = .ok (.aaload, 1) := by decide +kernel
theorem dX4_settle_43 : decode cX4_settle 43 = .ok (.invokevirtual 39, 3) := by decide +kernel
theorem dX4_settle_46 : decode cX4_settle 46 = .ok (.iinc 2 1, 3) := by decide +kernel
theorem dX4_settle_49 : decode cX4_settle 49 = .ok (.iinc 3 1, 3) := by decide +kernel
theorem dX4_settle_52 : decode cX4_settle 52 = .ok (.goto (-48), 3) := by decide +kernel
theorem dX4_settle_55 : decode cX4_settle 55 = .ok (.iload_n 2, 1) := by decide +kernel
theorem dX4_settle_56 : decode cX4_settle 56 = .ok (.ireturn, 1) := by decide +kernel
theorem dX4_leastMissing_0 : decode cX4_leastMissing 0 = .ok (.aload_n 0, 1) := by decide +kernel
theorem dX4_leastMissing_1 : decode cX4_leastMissing 1 = .ok (.iconst (-1), 1) := by decide +kernel
theorem dX4_leastMissing_2 : decode cX4_leastMissing 2 = .ok (.aload_n 1, 1) := by decide +kernel
theorem dX4_leastMissing_3 : decode cX4_leastMissing 3 = .ok (.getfield 56, 3) := by decide +kernel
theorem dX4_leastMissing_6 : decode cX4_leastMissing 6 = .ok (.invokevirtual 59, 3) := by decide +kernel
theorem dX4_leastMissing_9 : decode cX4_leastMissing 9 = .ok (.istore_n 2, 1) := by decide +kernel
theorem dX4_leastMissing_10 : decode cX4_leastMissing 10 = .ok (.aload_n 1, 1) := by decide +kernel
theorem dX4_leastMissing_11 : decode cX4_leastMissing 11 = .ok (.invokevirtual 63, 3) := by decide +kernel
theorem dX4_leastMissing_14 : decode cX4_leastMissing 14 = .ok (.istore_n 3, 1) := by decide +kernel
theorem dX4_leastMissing_15 : decode cX4_leastMissing 15 = .ok (.iconst 0, 1) := by decide +kernel
theorem dX4_leastMissing_16 : decode cX4_leastMissing 16 = .ok (.istore 4, 2) := by decide +kernel
theorem dX4_leastMissing_18 : decode cX4_leastMissing 18 = .ok (.iload 4, 2) := by decide +kernel
theorem dX4_leastMissing_20 : decode cX4_leastMissing 20 = .ok (.iload_n 3, 1) := by decide +kernel
theorem dX4_leastMissing_21 : decode cX4_leastMissing 21 = .ok (.if_icmp .ge 21, 3) := by decide +kernel
theorem dX4_leastMissing_24 : decode cX4_leastMissing 24 = .ok (.aload_n 0, 1) := by decide +kernel
theorem dX4_leastMissing_25 : decode cX4_leastMissing 25 = .ok (.iload_n 2, 1) := by decide +kernel
theorem dX4_leastMissing_26 : decode cX4_leastMissing 26 = .ok (.aload_n 1, 1) := by decide +kernel
theorem dX4_leastMissing_27 : decode cX4_leastMissing 27 = .ok (.iload 4, 2) := by decide +kernel
theorem dX4_leastMissing_29 : decode cX4_leastMissing 29 = .ok (.invokevirtual 67, 3) := by decide +kernel
theorem dX4_leastMissing_32 : decode cX4_leastMissing 32 = .ok (.invokevirtual 59, 3) := by decide +kernel
theorem dX4_leastMissing_35 : decode cX4_leastMissing 35 = .ok (.istore_n 2, 1) := by decide +kernel
theorem dX4_leastMissing_36 : decode cX4_leastMissing 36 = .ok (.iinc 4 1, 3) := by decide +kernel
theorem dX4_leastMissing_39 : decode cX4_leastMissing 39 = .ok (.goto (-21), 3) := by decide +kernel
theorem dX4_leastMissing_42 : decode cX4_leastMissing 42 = .ok (.iload_n 2, 1) := by decide +kernel
theorem dX4_leastMissing_43 : decode cX4_leastMissing 43 = .ok (.ireturn, 1) := by decide +kernel
theorem dX4_lesserMissing_0 : decode cX4_lesserMissing 0 = .ok (.iload_n 2, 1) := by decide +kernel
theorem dX4_lesserMissing_1 : decode cX4_lesserMissing 1 = .ok (.iconst (-1), 1) := by decide +kernel
theorem dX4_lesserMissing_2 : decode cX4_lesserMissing 2 = .ok (.if_icmp .eq 13, 3) := by decide +kernel
theorem dX4_lesserMissing_5 : decode cX4_lesserMissing 5 = .ok (.aload_n 0, 1) := by decide +kernel
theorem dX4_lesserMissing_6 : decode cX4_lesserMissing 6 = .ok (.getfield 9, 3) := by decide +kernel
theorem dX4_lesserMissing_9 : decode cX4_lesserMissing 9 = .ok (.iload_n 2, 1) := by decide +kernel
theorem dX4_lesserMissing_10 : decode cX4_lesserMissing 10 = .ok (.iaload, 1) := by decide +kernel
theorem dX4_lesserMissing_11 : decode cX4_lesserMissing 11 = .ok (.iconst 2, 1) := by decide +kernel
theorem dX4_lesserMissing_12 : decode cX4_lesserMissing 12 = .ok (.if_icmp .ne 5, 3) := by decide +kernel
theorem dX4_lesserMissing_15 : decode cX4_lesserMissing 15 = .ok (.iload_n 1, 1) := by decide +kernel
theorem dX4_lesserMissing_16 : decode cX4_lesserMissing 16 = .ok (.ireturn, 1) := by decide +kernel
theorem dX4_lesserMissing_17 : decode cX4_lesserMissing 17 = .ok (.iload_n 1, 1) := by decide +kernel
theorem dX4_lesserMissing_18 : decode cX4_lesserMissing 18 = .ok (.iconst (-1), 1) := by decide +kernel
theorem dX4_lesserMissing_19 : decode cX4_lesserMissing 19 = .ok (.if_icmp .ne 7, 3) := by decide +kernel
theorem dX4_lesserMissing_22 : decode cX4_lesserMissing 22 = .ok (.iload_n 2, 1) := by decide +kernel
theorem dX4_lesserMissing_23 : decode cX4_lesserMissing 23 = .ok (.goto 8, 3) := by decide +kernel
theorem dX4_lesserMissing_26 : decode cX4_lesserMissing 26 = .ok (.iload_n 1, 1) := by decide +kernel
theorem dX4_lesserMissing_27 : decode cX4_lesserMissing 27 = .ok (.iload_n 2, 1) := by decide +kernel
theorem dX4_lesserMissing_28 : decode cX4_lesserMissing 28 = .ok (.invokestatic 71, 3) := by decide +kernel
theorem dX4_lesserMissing_31 : decode cX4_lesserMissing 31 = .ok (.ireturn, 1) := by decide +kernel
theorem dX4_take_0 : decode cX4_take 0 = .ok (.aload_n 0, 1) := by decide +kernel
theorem dX4_take_1 : decode cX4_take 1 = .ok (.getfield 9, 3) := by decide +kernel
theorem dX4_take_4 : decode cX4_take 4 = .ok (.aload_n 1, 1) := by decide +kernel
theorem dX4_take_5 : decode cX4_take 5 = .ok (.getfield 34, 3) := by decide +kernel
theorem dX4_take_8 : decode cX4_take 8 = .ok (.iconst 2, 1) := by decide +kernel
theorem dX4_take_9 : decode cX4_take 9 = .ok (.iastore, 1) := by decide +kernel
theorem dX4_take_10 : decode cX4_take 10 = .ok (.aload_n 0, 1) := by decide +kernel
theorem dX4_take_11 : decode cX4_take 11 = .ok (.aload_n 0, 1) := by decide +kernel
theorem dX4_take_12 : decode cX4_take 12 = .ok (.getfield 76, 3) := by decide +kernel
theorem dX4_take_15 : decode cX4_take 15 = .ok (.aload_n 1, 1) := by decide +kernel
theorem dX4_take_16 : decode cX4_take 16 = .ok (.getfield 79, 3) := by decide +kernel
theorem dX4_take_19 : decode cX4_take 19 = .ok (.invokestatic 82, 3) := by decide +kernel
theorem dX4_take_22 : decode cX4_take 22 = .ok (.putfield 76, 3) := by decide +kernel
theorem dX4_take_25 : decode cX4_take 25 = .ok (.return_, 1) := by decide +kernel
theorem dX5_init_0 : decode cX5_init 0 = .ok (.aload_n 0, 1) := by decide +kernel
theorem dX5_init_1 : decode cX5_init 1 = .ok (.invokespecial 1, 3) := by decide +kernel
theorem dX5_init_4 : decode cX5_init 4 = .ok (.aload_n 0, 1) := by decide +kernel
theorem dX5_init_5 : decode cX5_init 5 = .ok (.iload_n 1, 1) := by decide +kernel
theorem dX5_init_6 : decode cX5_init 6 = .ok (.putfield 7, 3) := by decide +kernel
theorem dX5_init_9 : decode cX5_init 9 = .ok (.aload_n 0, 1) := by decide +kernel
theorem dX5_init_10 : decode cX5_init 10 = .ok (.aload_n 2, 1) := by decide +kernel
theorem dX5_init_11 : decode cX5_init 11 = .ok (.getfield 13, 3) := by decide +kernel
theorem dX5_init_14 : decode cX5_init 14 = .ok (.putfield 18, 3) := by decide +kernel
theorem dX5_init_17 : decode cX5_init 17 = .ok (.aload_n 0, 1) := by decide +kernel
theorem dX5_init_18 : decode cX5_init 18 = .ok (.aload_n 2, 1) := by decide +kernel
theorem dX5_init_19 : decode cX5_init 19 = .ok (.getfield 19, 3) := by decide +kernel
theorem dX5_init_22 : decode cX5_init 22 = .ok (.iconst 1, 1) := by decide +kernel
theorem dX5_init_23 : decode cX5_init 23 = .ok (.iadd, 1) := by decide +kernel
theorem dX5_init_24 : decode cX5_init 24 = .ok (.putfield 22, 3) := by decide +kernel
theorem dX5_init_27 : decode cX5_init 27 = .ok (.aload_n 0, 1) := by decide +kernel
theorem dX5_init_28 : decode cX5_init 28 = .ok (.aload_n 2, 1) := by decide +kernel
theorem dX5_init_29 : decode cX5_init 29 = .ok (.getfield 25, 3) := by decide +kernel
theorem dX5_init_32 : decode cX5_init 32 = .ok (.putfield 28, 3) := by decide +kernel
theorem dX5_init_35 : decode cX5_init 35 = .ok (.return_, 1) := by decide +kernel
theorem dX5_isLaterThan_0 : decode cX5_isLaterThan 0 = .ok (.aload_n 0, 1) := by decide +kernel
theorem dX5_isLaterThan_1 : decode cX5_isLaterThan 1 = .ok (.getfield 22, 3) := by decide +kernel
theorem dX5_isLaterThan_4 : decode cX5_isLaterThan 4 = .ok (.aload_n 1, 1) := by decide +kernel
theorem dX5_isLaterThan_5 : decode cX5_isLaterThan 5 = .ok (.getfield 22, 3) := by decide +kernel
theorem dX5_isLaterThan_8 : decode cX5_isLaterThan 8 = .ok (.if_icmp .eq 22, 3) := by decide +kernel
theorem dX5_isLaterThan_11 : decode cX5_isLaterThan 11 = .ok (.aload_n 0, 1) := by decide +kernel
theorem dX5_isLaterThan_12 : decode cX5_isLaterThan 12 = .ok (.getfield 22, 3) := by decide +kernel
theorem dX5_isLaterThan_15 : decode cX5_isLaterThan 15 = .ok (.aload_n 1, 1) := by decide +kernel
theorem dX5_isLaterThan_16 : decode cX5_isLaterThan 16 = .ok (.getfield 22, 3) := by decide +kernel
theorem dX5_isLaterThan_19 : decode cX5_isLaterThan 19 = .ok (.if_icmp .le 7, 3) := by decide +kernel
theorem dX5_isLaterThan_22 : decode cX5_isLaterThan 22 = .ok (.iconst 1, 1) := by decide +kernel
theorem dX5_isLaterThan_23 : decode cX5_isLaterThan 23 = .ok (.goto 23, 3) := by decide +kernel
theorem dX5_isLaterThan_26 : decode cX5_isLaterThan 26 = .ok (.iconst 0, 1) := by decide +kernel
theorem dX5_isLaterThan_27 : decode cX5_isLaterThan 27 = .ok (.goto 19, 3) := by decide +kernel
theorem dX5_isLaterThan_30 : decode cX5_isLaterThan 30 = .ok (.aload_n 0, 1) := by decide +kernel
theorem dX5_isLaterThan_31 : decode cX5_isLaterThan 31 = .ok (.getfield 18, 3) := by decide +kernel
theorem dX5_isLaterThan_34 : decode cX5_isLaterThan 34 = .ok (.aload_n 1, 1) := by decide +kernel
theorem dX5_isLaterThan_35 : decode cX5_isLaterThan 35 = .ok (.getfield 18, 3) := by decide +kernel
theorem dX5_isLaterThan_38 : decode cX5_isLaterThan 38 = .ok (.if_icmp .le 7, 3) := by decide +kernel
theorem dX5_isLaterThan_41 : decode cX5_isLaterThan 41 = .ok (.iconst 1, 1) := by decide +kernel
theorem dX5_isLaterThan_42 : decode cX5_isLaterThan 42 = .ok (.goto 4, 3) := by decide +kernel
theorem dX5_isLaterThan_45 : decode cX5_isLaterThan 45 = .ok (.iconst 0, 1) := by decide +kernel
theorem dX5_isLaterThan_46 : decode cX5_isLaterThan 46 = .ok (.ireturn, 1) := by decide +kernel
theorem dX6_init_0 : decode cX6_init 0 = .ok (.aload_n 0, 1) := by decide +kernel
theorem dX6_init_1 : decode cX6_init 1 = .ok (.iload_n 1, 1) := by decide +kernel
theorem dX6_init_2 : decode cX6_init 2 = .ok (.aload_n 2, 1) := by decide +kernel
theorem dX6_init_3 : decode cX6_init 3 = .ok (.invokespecial 3, 3) := by decide +kernel
theorem dX6_init_6 : decode cX6_init 6 = .ok (.aload_n 0, 1) := by decide +kernel
theorem dX6_init_7 : decode cX6_init 7 = .ok (.aload_n 3, 1) := by decide +kernel
theorem dX6_init_8 : decode cX6_init 8 = .ok (.putfield 9, 3) := by decide +kernel
theorem dX6_init_11 : decode cX6_init 11 = .ok (.return_, 1) := by decide +kernel
theorem dX6_kind_0 : decode cX6_kind 0 = .ok (.iconst 1, 1) := by decide +kernel
theorem dX6_kind_1 : decode cX6_kind 1 = .ok (.ireturn, 1) := by decide +kernel
theorem dX6_size_0 : decode cX6_size 0 = .ok (.aload_n 0, 1) := by decide +kernel
theorem dX6_size_1 : decode cX6_size 1 = .ok (.getfield 9, 3) := by decide +kernel
theorem dX6_size_4 : decode cX6_size 4 = .ok (.arraylength, 1) := by decide +kernel
theorem dX6_size_5 : decode cX6_size 5 = .ok (.ireturn, 1) := by decide +kernel
theorem dX6_nameOf_0 : decode cX6_nameOf 0 = .ok (.iload_n 1, 1) := by decide +kernel
theorem dX6_nameOf_1 : decode cX6_nameOf 1 = .ok (.ifCond .lt 21, 3) := by decide +kernel
theorem dX6_nameOf_4 : decode cX6_nameOf 4 = .ok (.iload_n 1, 1) := by decide +kernel
theorem dX6_nameOf_5 : decode cX6_nameOf 5 = .ok (.aload_n 0, 1) := by decide +kernel
theorem dX6_nameOf_6 : decode cX6_nameOf 6 = .ok (.getfield 9, 3) := by decide +kernel
theorem dX6_nameOf_9 : decode cX6_nameOf 9 = .ok (.arraylength, 1) := by decide +kernel
theorem dX6_nameOf_10 : decode cX6_nameOf 10 = .ok (.if_icmp .ge 12, 3) := by decide +kernel
theorem dX6_nameOf_13 : decode cX6_nameOf 13 = .ok (.aload_n 0, 1) := by decide +kernel
theorem dX6_nameOf_14 : decode cX6_nameOf 14 = .ok (.getfield 9, 3) := by decide +kernel
theorem dX6_nameOf_17 : decode cX6_nameOf 17 = .ok (.iload_n 1, 1) := by decide +kernel
theorem dX6_nameOf_18 : decode cX6_nameOf 18 = .ok (.iaload, 1) := by decide +kernel
theorem dX6_nameOf_19 : decode cX6_nameOf 19 = .ok (.goto 4, 3) := by decide +kernel
theorem dX6_nameOf_22 : decode cX6_nameOf 22 = .ok (.iconst (-1), 1) := by decide +kernel
theorem dX6_nameOf_23 : decode cX6_nameOf 23 = .ok (.ireturn, 1) := by decide +kernel
theorem dX6_howManyNeeds_0 : decode cX6_howManyNeeds 0 = .ok (.aload_n 0, 1) := by decide +kernel
theorem dX6_howManyNeeds_1 : decode cX6_howManyNeeds 1 = .ok (.getfield 9, 3) := by decide +kernel
theorem dX6_howManyNeeds_4 : decode cX6_howManyNeeds 4 = .ok (.arraylength, 1) := by decide +kernel
theorem dX6_howManyNeeds_5 : decode cX6_howManyNeeds 5 = .ok (.ireturn, 1) := by decide +kernel
theorem dX6_need_0 : decode cX6_need 0 = .ok (.aload_n 0, 1) := by decide +kernel
theorem dX6_need_1 : decode cX6_need 1 = .ok (.iload_n 1, 1) := by decide +kernel
theorem dX6_need_2 : decode cX6_need 2 = .ok (.invokevirtual 15, 3) := by decide +kernel
theorem dX6_need_5 : decode cX6_need 5 = .ok (.invokestatic 19, 3) := by decide +kernel
theorem dX6_need_8 : decode cX6_need 8 = .ok (.ireturn, 1) := by decide +kernel
theorem dX7_init_0 : decode cX7_init 0 = .ok (.aload_n 0, 1) := by decide +kernel
theorem dX7_init_1 : decode cX7_init 1 = .ok (.iload_n 1, 1) := by decide +kernel
theorem dX7_init_2 : decode cX7_init 2 = .ok (.aload_n 2, 1) := by decide +kernel
theorem dX7_init_3 : decode cX7_init 3 = .ok (.invokespecial 3, 3) := by decide +kernel
theorem dX7_init_6 : decode cX7_init 6 = .ok (.aload_n 0, 1) := by decide +kernel
theorem dX7_init_7 : decode cX7_init 7 = .ok (.iload_n 3, 1) := by decide +kernel
theorem dX7_init_8 : decode cX7_init 8 = .ok (.putfield 9, 3) := by decide +kernel
theorem dX7_init_11 : decode cX7_init 11 = .ok (.return_, 1) := by decide +kernel
theorem dX7_kind_0 : decode cX7_kind 0 = .ok (.iconst 3, 1) := by decide +kernel
theorem dX7_kind_1 : decode cX7_kind 1 = .ok (.ireturn, 1) := by decide +kernel
theorem dX7_size_0 : decode cX7_size 0 = .ok (.iconst 0, 1) := by decide +kernel
theorem dX7_size_1 : decode cX7_size 1 = .ok (.ireturn, 1) := by decide +kernel
theorem dX7_nameOf_0 : decode cX7_nameOf 0 = .ok (.iconst (-1), 1) := by decide +kernel
theorem dX7_nameOf_1 : decode cX7_nameOf 1 = .ok (.ireturn, 1) := by decide +kernel
theorem dX7_howManyNeeds_0 : decode cX7_howManyNeeds 0 = .ok (.iconst 1, 1) := by decide +kernel
theorem dX7_howManyNeeds_1 : decode cX7_howManyNeeds 1 = .ok (.ireturn, 1) := by decide +kernel
theorem dX7_need_0 : decode cX7_need 0 = .ok (.aload_n 0, 1) := by decide +kernel
theorem dX7_need_1 : decode cX7_need 1 = .ok (.getfield 9, 3) := by decide +kernel
theorem dX7_need_4 : decode cX7_need 4 = .ok (.ireturn, 1) := by decide +kernel
theorem dX8_init_0 : decode cX8_init 0 = .ok (.aload_n 0, 1) := by decide +kernel
theorem dX8_init_1 : decode cX8_init 1 = .ok (.invokespecial 3, 3) := by decide +kernel
theorem dX8_init_4 : decode cX8_init 4 = .ok (.aload_n 0, 1) := by decide +kernel
theorem dX8_init_5 : decode cX8_init 5 = .ok (.new 9, 3) := by decide +kernel
theorem dX8_init_8 : decode cX8_init 8 = .ok (.dup, 1) := by decide +kernel
theorem dX8_init_9 : decode cX8_init 9 = .ok (.invokespecial 11, 3) := by decide +kernel
theorem dX8_init_12 : decode cX8_init 12 = .ok (.putfield 12, 3) := by decide +kernel
theorem dX8_init_15 : decode cX8_init 15 = .ok (.aload_n 0, 1) := by decide +kernel
theorem dX8_init_16 : decode cX8_init 16 = .ok (.bipush 6, 2) := by decide +kernel
theorem dX8_init_18 : decode cX8_init 18 = .ok (.anewarray 16, 3) := by decide +kernel
theorem dX8_init_21 : decode cX8_init 21 = .ok (.putfield 18, 3) := by decide +kernel
theorem dX8_init_24 : decode cX8_init 24 = .ok (.iconst 0, 1) := by decide +kernel
theorem dX8_init_25 : decode cX8_init 25 = .ok (.istore_n 1, 1) := by decide +kernel
theorem dX8_init_26 : decode cX8_init 26 = .ok (.iload_n 1, 1) := by decide +kernel
theorem dX8_init_27 : decode cX8_init 27 = .ok (.bipush 6, 2) := by decide +kernel
theorem dX8_init_29 : decode cX8_init 29 = .ok (.if_icmp .ge 23, 3) := by decide +kernel
theorem dX8_init_32 : decode cX8_init 32 = .ok (.aload_n 0, 1) := by decide +kernel
theorem dX8_init_33 : decode cX8_init 33 = .ok (.getfield 18, 3) := by decide +kernel
theorem dX8_init_36 : decode cX8_init 36 = .ok (.iload_n 1, 1) := by decide +kernel
theorem dX8_init_37 : decode cX8_init 37 = .ok (.new 16, 3) := by decide +kernel
theorem dX8_init_40 : decode cX8_init 40 = .ok (.dup, 1) := by decide +kernel
theorem dX8_init_41 : decode cX8_init 41 = .ok (.iload_n 1, 1) := by decide +kernel
theorem dX8_init_42 : decode cX8_init 42 = .ok (.invokespecial 22, 3) := by decide +kernel
theorem dX8_init_45 : decode cX8_init 45 = .ok (.aastore, 1) := by decide +kernel
theorem dX8_init_46 : decode cX8_init 46 = .ok (.iinc 1 1, 3) := by decide +kernel
theorem dX8_init_49 : decode cX8_init 49 = .ok (.goto (-23), 3) := by decide +kernel
theorem dX8_init_52 : decode cX8_init 52 = .ok (.aload_n 0, 1) := by decide +kernel
theorem dX8_init_53 : decode cX8_init 53 = .ok (.new 25, 3) := by decide +kernel
theorem dX8_init_56 : decode cX8_init 56 = .ok (.dup, 1) := by decide +kernel
theorem dX8_init_57 : decode cX8_init 57 = .ok (.aload_n 0, 1) := by decide +kernel
theorem dX8_init_58 : decode cX8_init 58 = .ok (.getfield 12, 3) := by decide +kernel
theorem dX8_init_61 : decode cX8_init 61 = .ok (.invokespecial 27, 3) := by decide +kernel
theorem dX8_init_64 : decode cX8_init 64 = .ok (.putfield 30, 3) := by decide +kernel
theorem dX8_init_67 : decode cX8_init 67 = .ok (.aload_n 0, 1) := by decide +kernel
theorem dX8_init_68 : decode cX8_init 68 = .ok (.sipush 768, 3) := by decide +kernel
theorem dX8_init_71 : decode cX8_init 71 = .ok (.newarray .int, 2) := by decide +kernel
theorem dX8_init_73 : decode cX8_init 73 = .ok (.putfield 34, 3) := by decide +kernel
theorem dX8_init_76 : decode cX8_init 76 = .ok (.aload_n 0, 1) := by decide +kernel
theorem dX8_init_77 : decode cX8_init 77 = .ok (.iconst 0, 1) := by decide +kernel
theorem dX8_init_78 : decode cX8_init 78 = .ok (.putfield 38, 3) := by decide +kernel
theorem dX8_init_81 : decode cX8_init 81 = .ok (.return_, 1) := by decide +kernel
theorem dX8_type_0 : decode cX8_type 0 = .ok (.aload_n 0, 1) := by decide +kernel
theorem dX8_type_1 : decode cX8_type 1 = .ok (.iload_n 1, 1) := by decide +kernel
theorem dX8_type_2 : decode cX8_type 2 = .ok (.invokevirtual 42, 3) := by decide +kernel
theorem dX8_type_5 : decode cX8_type 5 = .ok (.astore 6, 2) := by decide +kernel
theorem dX8_type_7 : decode cX8_type 7 = .ok (.aload 6, 2) := by decide +kernel
theorem dX8_type_9 : decode cX8_type 9 = .ok (.ifnonnull 9, 3) := by decide +kernel
theorem dX8_type_12 : decode cX8_type 12 = .ok (.aload_n 0, 1) := by decide +kernel
theorem dX8_type_13 : decode cX8_type 13 = .ok (.iconst 1, 1) := by decide +kernel
theorem dX8_type_14 : decode cX8_type 14 = .ok (.invokevirtual 46, 3) := by decide +kernel
theorem dX8_type_17 : decode cX8_type 17 = .ok (.ireturn, 1) := by decide +kernel
theorem dX8_type_18 : decode cX8_type 18 = .ok (.aload_n 0, 1) := by decide +kernel
theorem dX8_type_19 : decode cX8_type 19 = .ok (.getfield 30, 3) := by decide +kernel
theorem dX8_type_22 : decode cX8_type 22 = .ok (.aload 6, 2) := by decide +kernel
theorem dX8_type_24 : decode cX8_type 24 = .ok (.sipush 256, 3) := by decide +kernel
theorem dX8_type_27 : decode cX8_type 27 = .ok (.invokevirtual 50, 3) := by decide +kernel
theorem dX8_type_30 : decode cX8_type 30 = .ok (.iload_n 3, 1) := by decide +kernel
theorem dX8_type_31 : decode cX8_type 31 = .ok (.iload 4, 2) := by decide +kernel
theorem dX8_type_33 : decode cX8_type 33 = .ok (.iload 5, 2) := by decide +kernel
theorem dX8_type_35 : decode cX8_type 35 = .ok (.invokestatic 54, 3) := by decide +kernel
theorem dX8_type_38 : decode cX8_type 38 = .ok (.astore 7, 2) := by decide +kernel
theorem dX8_type_40 : decode cX8_type 40 = .ok (.iload_n 2, 1) := by decide +kernel
theorem dX8_type_41 : decode cX8_type 41 = .ok (.ifCond .lt 22, 3) := by decide +kernel
theorem dX8_type_44 : decode cX8_type 44 = .ok (.iload_n 2, 1) := by decide +kernel
theorem dX8_type_45 : decode cX8_type 45 = .ok (.aload_n 0, 1) := by decide +kernel
theorem dX8_type_46 : decode cX8_type 46 = .ok (.getfield 30, 3) := by decide +kernel
theorem dX8_type_49 : decode cX8_type 49 = .ok (.getfield 58, 3) := by decide +kernel
theorem dX8_type_52 : decode cX8_type 52 = .ok (.if_icmp .gt 11, 3) := by decide +kernel
theorem dX8_type_55 : decode cX8_type 55 = .ok (.aload 7, 2) := by decide +kernel
theorem dX8_type_57 : decode cX8_type 57 = .ok (.invokestatic 61, 3) := by decide +kernel
theorem dX8_type_60 : decode cX8_type 60 = .ok (.ifCond .ne 9, 3) := by decide +kernel
theorem dX8_type_63 : decode cX8_type 63 = .ok (.aload_n 0, 1) := by decide +kernel
theorem dX8_type_64 : decode cX8_type 64 = .ok (.iconst 1, 1) := by decide +kernel
theorem dX8_type_65 : decode cX8_type 65 = .ok (.invokevirtual 46, 3) := by decide +kernel
theorem dX8_type_68 : decode cX8_type 68 = .ok (.ireturn, 1) := by decide +kernel
theorem dX8_type_69 : decode cX8_type 69 = .ok (.aload_n 0, 1) := by decide +kernel
theorem dX8_type_70 : decode cX8_type 70 = .ok (.getfield 12, 3) := by decide +kernel
theorem dX8_type_73 : decode cX8_type 73 = .ok (.invokevirtual 65, 3) := by decide +kernel
theorem dX8_type_76 : decode cX8_type 76 = .ok (.ifCond .eq 9, 3) := by decide +kernel
theorem dX8_type_79 : decode cX8_type 79 = .ok (.aload_n 0, 1) := by decide +kernel
theorem dX8_type_80 : decode cX8_type 80 = .ok (.iconst 2, 1) := by decide +kernel
theorem dX8_type_81 : decode cX8_type 81 = .ok (.invokevirtual 46, 3) := by decide +kernel
theorem dX8_type_84 : decode cX8_type 84 = .ok (.ireturn, 1) := by decide +kernel
theorem dX8_type_85 : decode cX8_type 85 = .ok (.iload_n 2, 1) := by decide +kernel
theorem dX8_type_86 : decode cX8_type 86 = .ok (.ifCond .ne 8, 3) := by decide +kernel
theorem dX8_type_89 : decode cX8_type 89 = .ok (.bipush (-2), 2) := by decide +kernel
theorem dX8_type_91 : decode cX8_type 91 = .ok (.goto 13, 3) := by decide +kernel
theorem dX8_type_94 : decode cX8_type 94 = .ok (.aload_n 0, 1) := by decide +kernel
theorem dX8_type_95 : decode cX8_type 95 = .ok (.getfield 30, 3) := by decide +kernel
theorem dX8_type_98 : decode cX8_type 98 = .ok (.iload_n 2, 1) := by decide +kernel
theorem dX8_type_99 : decode cX8_type 99 = .ok (.iconst 1, 1) := by decide +kernel
theorem dX8_type_100 : decode cX8_type 100 = .ok (.isub, 1) := by decide +kernel
theorem dX8_type_101 : decode cX8_type 101 = .ok (.invokevirtual 69, 3) := by decide +kernel
theorem dX8_type_104 : decode cX8_type 104 = .ok (.istore 8, 2) := by decide +kernel
theorem dX8_type_106 : decode cX8_type 106 = .ok (.aload_n 0, 1) := by decide +kernel
theorem dX8_type_107 : decode cX8_type 107 = .ok (.aload 6, 2) := by decide +kernel
theorem dX8_type_109 : decode cX8_type 109 = .ok (.new 72, 3) := by decide +kernel
theorem dX8_type_112 : decode cX8_type 112 = .ok (.dup, 1) := by decide +kernel
theorem dX8_type_113 : decode cX8_type 113 = .ok (.aload_n 0, 1) := by decide +kernel
theorem dX8_type_114 : decode cX8_type 114 = .ok (.getfield 12, 3) := by decide +kernel
theorem dX8_type_117 : decode cX8_type 117 = .ok (.getfield 74, 3) := by decide +kernel
theorem dX8_type_120 : decode cX8_type 120 = .ok (.aload 6, 2) := by decide +kernel
theorem dX8_type_122 : decode cX8_type 122 = .ok (.iload 8, 2) := by decide +kernel
theorem dX8_type_124 : decode cX8_type 124 = .ok (.aload 7, 2) := by decide +kernel
theorem dX8_type_126 : decode cX8_type 126 = .ok (.invokespecial 77, 3) := by decide +kernel
theorem dX8_type_129 : decode cX8_type 129 = .ok (.invokevirtual 80, 3) := by decide +kernel
theorem dX8_type_132 : decode cX8_type 132 = .ok (.ireturn, 1) := by decide +kernel
theorem dX8_strike_0 : decode cX8_strike 0 = .ok (.aload_n 0, 1) := by decide +kernel
theorem dX8_strike_1 : decode cX8_strike 1 = .ok (.iload_n 1, 1) := by decide +kernel
theorem dX8_strike_2 : decode cX8_strike 2 = .ok (.invokevirtual 42, 3) := by decide +kernel
theorem dX8_strike_5 : decode cX8_strike 5 = .ok (.astore 4, 2) := by decide +kernel
theorem dX8_strike_7 : decode cX8_strike 7 = .ok (.aload 4, 2) := by decide +kernel
theorem dX8_strike_9 : decode cX8_strike 9 = .ok (.ifnonnull 9, 3) := by decide +kernel
theorem dX8_strike_12 : decode cX8_strike 12 = .ok (.aload_n 0, 1) := by decide +kernel
theorem dX8_strike_13 : decode cX8_strike 13 = .ok (.iconst 1, 1) := by decide +kernel
theorem dX8_strike_14 : decode cX8_strike 14 = .ok (.invokevirtual 46, 3) := by decide +kernel
theorem dX8_strike_17 : decode cX8_strike 17 = .ok (.ireturn, 1) := by decide +kernel
theorem dX8_strike_18 : decode cX8_strike 18 = .ok (.iload_n 3, 1) := by decide +kernel
theorem dX8_strike_19 : decode cX8_strike 19 = .ok (.ifCond .ge 9, 3) := by decide +kernel
theorem dX8_strike_22 : decode cX8_strike 22 = .ok (.aload_n 0, 1) := by decide +kernel
theorem dX8_strike_23 : decode cX8_strike 23 = .ok (.iconst 5, 1) := by decide +kernel
theorem dX8_strike_24 : decode cX8_strike 24 = .ok (.invokevirtual 46, 3) := by decide +kernel
theorem dX8_strike_27 : decode cX8_strike 27 = .ok (.ireturn, 1) := by decide +kernel
theorem dX8_strike_28 : decode cX8_strike 28 = .ok (.aload_n 0, 1) := by decide +kernel
theorem dX8_strike_29 : decode cX8_strike 29 = .ok (.getfield 30, 3) := by decide +kernel
theorem dX8_strike_32 : decode cX8_strike 32 = .ok (.aload 4, 2) := by decide +kernel
theorem dX8_strike_34 : decode cX8_strike 34 = .ok (.sipush 256, 3) := by decide +kernel
theorem dX8_strike_37 : decode cX8_strike 37 = .ok (.invokevirtual 50, 3) := by decide +kernel
theorem dX8_strike_40 : decode cX8_strike 40 = .ok (.iload_n 3, 1) := by decide +kernel
theorem dX8_strike_41 : decode cX8_strike 41 = .ok (.bipush 12, 2) := by decide +kernel
theorem dX8_strike_43 : decode cX8_strike 43 = .ok (.if_icmp .gt 15, 3) := by decide +kernel
theorem dX8_strike_46 : decode cX8_strike 46 = .ok (.aload_n 0, 1) := by decide +kernel
theorem dX8_strike_47 : decode cX8_strike 47 = .ok (.getfield 30, 3) := by decide +kernel
theorem dX8_strike_50 : decode cX8_strike 50 = .ok (.iload_n 2, 1) := by decide +kernel
theorem dX8_strike_51 : decode cX8_strike 51 = .ok (.iload_n 3, 1) := by decide +kernel
theorem dX8_strike_52 : decode cX8_strike 52 = .ok (.invokevirtual 84, 3) := by decide +kernel
theorem dX8_strike_55 : decode cX8_strike 55 = .ok (.ifCond .ne 9, 3) := by decide +kernel
theorem dX8_strike_58 : decode cX8_strike 58 = .ok (.aload_n 0, 1) := by decide +kernel
theorem dX8_strike_59 : decode cX8_strike 59 = .ok (.iconst 1, 1) := by decide +kernel
theorem dX8_strike_60 : decode cX8_strike 60 = .ok (.invokevirtual 46, 3) := by decide +kernel
theorem dX8_strike_63 : decode cX8_strike 63 = .ok (.ireturn, 1) := by decide +kernel
theorem dX8_strike_64 : decode cX8_strike 64 = .ok (.aload_n 0, 1) := by decide +kernel
theorem dX8_strike_65 : decode cX8_strike 65 = .ok (.getfield 12, 3) := by decide +kernel
theorem dX8_strike_68 : decode cX8_strike 68 = .ok (.invokevirtual 65, 3) := by decide +kernel
theorem dX8_strike_71 : decode cX8_strike 71 = .ok (.ifCond .eq 9, 3) := by decide +kernel
theorem dX8_strike_74 : decode cX8_strike 74 = .ok (.aload_n 0, 1) := by decide +kernel
theorem dX8_strike_75 : decode cX8_strike 75 = .ok (.iconst 2, 1) := by decide +kernel
theorem dX8_strike_76 : decode cX8_strike 76 = .ok (.invokevirtual 46, 3) := by decide +kernel
theorem dX8_strike_79 : decode cX8_strike 79 = .ok (.ireturn, 1) := by decide +kernel
theorem dX8_strike_80 : decode cX8_strike 80 = .ok (.aload_n 0, 1) := by decide +kernel
theorem dX8_strike_81 : decode cX8_strike 81 = .ok (.aload 4, 2) := by decide +kernel
theorem dX8_strike_83 : decode cX8_strike 83 = .ok (.new 88, 3) := by decide +kernel
theorem dX8_strike_86 : decode cX8_strike 86 = .ok (.dup, 1) := by decide +kernel
theorem dX8_strike_87 : decode cX8_strike 87 = .ok (.aload_n 0, 1) := by decide +kernel
theorem dX8_strike_88 : decode cX8_strike 88 = .ok (.getfield 12, 3) := by decide +kernel
theorem dX8_strike_91 : decode cX8_strike 91 = .ok (.getfield 74, 3) := by decide +kernel
theorem dX8_strike_94 : decode cX8_strike 94 = .ok (.aload 4, 2) := by decide +kernel
theorem dX8_strike_96 : decode cX8_strike 96 = .ok (.aload_n 0, 1) := by decide +kernel
theorem dX8_strike_97 : decode cX8_strike 97 = .ok (.getfield 30, 3) := by decide +kernel
theorem dX8_strike_100 : decode cX8_strike 100 = .ok (.iload_n 2, 1) := by decide +kernel
theorem dX8_strike_101 : decode cX8_strike 101 = .ok (.iload_n 3, 1) := by decide +kernel
theorem dX8_strike_102 : decode cX8_strike 102 = .ok (.invokevirtual 90, 3) := by decide +kernel
theorem dX8_strike_105 : decode cX8_strike 105 = .ok (.invokespecial 94, 3) := by decide +kernel
theorem dX8_strike_108 : decode cX8_strike 108 = .ok (.invokevirtual 80, 3) := by decide +kernel
theorem dX8_strike_111 : decode cX8_strike 111 = .ok (.ireturn, 1) := by decide +kernel
theorem dX8_mark_0 : decode cX8_mark 0 = .ok (.aload_n 0, 1) := by decide +kernel
theorem dX8_mark_1 : decode cX8_mark 1 = .ok (.iload_n 1, 1) := by decide +kernel
theorem dX8_mark_2 : decode cX8_mark 2 = .ok (.invokevirtual 42, 3) := by decide +kernel
theorem dX8_mark_5 : decode cX8_mark 5 = .ok (.astore 6, 2) := by decide +kernel
theorem dX8_mark_7 : decode cX8_mark 7 = .ok (.aload 6, 2) := by decide +kernel
theorem dX8_mark_9 : decode cX8_mark 9 = .ok (.ifnonnull 9, 3) := by decide +kernel
theorem dX8_mark_12 : decode cX8_mark 12 = .ok (.aload_n 0, 1) := by decide +kernel
theorem dX8_mark_13 : decode cX8_mark 13 = .ok (.iconst 1, 1) := by decide +kernel
theorem dX8_mark_14 : decode cX8_mark 14 = .ok (.invokevirtual 46, 3) := by decide +kernel
theorem dX8_mark_17 : decode cX8_mark 17 = .ok (.ireturn, 1) := by decide +kernel
theorem dX8_mark_18 : decode cX8_mark 18 = .ok (.iload_n 3, 1) := by decide +kernel
theorem dX8_mark_19 : decode cX8_mark 19 = .ok (.ifCond .ge 9, 3) := by decide +kernel
theorem dX8_mark_22 : decode cX8_mark 22 = .ok (.aload_n 0, 1) := by decide +kernel
theorem dX8_mark_23 : decode cX8_mark 23 = .ok (.iconst 5, 1) := by decide +kernel
theorem dX8_mark_24 : decode cX8_mark 24 = .ok (.invokevirtual 46, 3) := by decide +kernel
theorem dX8_mark_27 : decode cX8_mark 27 = .ok (.ireturn, 1) := by decide +kernel
theorem dX8_mark_28 : decode cX8_mark 28 = .ok (.aload_n 0, 1) := by decide +kernel
theorem dX8_mark_29 : decode cX8_mark 29 = .ok (.getfield 30, 3) := by decide +kernel
theorem dX8_mark_32 : decode cX8_mark 32 = .ok (.aload 6, 2) := by decide +kernel
theorem dX8_mark_34 : decode cX8_mark 34 = .ok (.sipush 256, 3) := by decide +kernel
theorem dX8_mark_37 : decode cX8_mark 37 = .ok (.invokevirtual 50, 3) := by decide +kernel
theorem dX8_mark_40 : decode cX8_mark 40 = .ok (.aload_n 0, 1) := by decide +kernel
theorem dX8_mark_41 : decode cX8_mark 41 = .ok (.getfield 30, 3) := by decide +kernel
theorem dX8_mark_44 : decode cX8_mark 44 = .ok (.iload_n 2, 1) := by decide +kernel
theorem dX8_mark_45 : decode cX8_mark 45 = .ok (.iload_n 3, 1) := by decide +kernel
theorem dX8_mark_46 : decode cX8_mark 46 = .ok (.invokevirtual 84, 3) := by decide +kernel
theorem dX8_mark_49 : decode cX8_mark 49 = .ok (.ifCond .eq 22, 3) := by decide +kernel
theorem dX8_mark_52 : decode cX8_mark 52 = .ok (.iload 4, 2) := by decide +kernel
theorem dX8_mark_54 : decode cX8_mark 54 = .ok (.invokestatic 97, 3) := by decide +kernel
theorem dX8_mark_57 : decode cX8_mark 57 = .ok (.ifCond .eq 14, 3) := by decide +kernel
theorem dX8_mark_60 : decode cX8_mark 60 = .ok (.iload 5, 2) := by decide +kernel
theorem dX8_mark_62 : decode cX8_mark 62 = .ok (.ifCond .lt 9, 3) := by decide +kernel
theorem dX8_mark_65 : decode cX8_mark 65 = .ok (.iload 5, 2) := by decide +kernel
theorem dX8_mark_67 : decode cX8_mark 67 = .ok (.iconst 4, 1) := by decide +kernel
theorem dX8_mark_68 : decode cX8_mark 68 = .ok (.if_icmp .lt 9, 3) := by decide +kernel
theorem dX8_mark_71 : decode cX8_mark 71 = .ok (.aload_n 0, 1) := by decide +kernel
theorem dX8_mark_72 : decode cX8_mark 72 = .ok (.iconst 1, 1) := by decide +kernel
theorem dX8_mark_73 : decode cX8_mark 73 = .ok (.invokevirtual 46, 3) := by decide +kernel
theorem dX8_mark_76 : decode cX8_mark 76 = .ok (.ireturn, 1) := by decide +kernel
theorem dX8_mark_77 : decode cX8_mark 77 = .ok (.aload_n 0, 1) := by decide +kernel
theorem dX8_mark_78 : decode cX8_mark 78 = .ok (.getfield 12, 3) := by decide +kernel
theorem dX8_mark_81 : decode cX8_mark 81 = .ok (.invokevirtual 65, 3) := by decide +kernel
theorem dX8_mark_84 : decode cX8_mark 84 = .ok (.ifCond .eq 9, 3) := by decide +kernel
theorem dX8_mark_87 : decode cX8_mark 87 = .ok (.aload_n 0, 1) := by decide +kernel
theorem dX8_mark_88 : decode cX8_mark 88 = .ok (.iconst 2, 1) := by decide +kernel
theorem dX8_mark_89 : decode cX8_mark 89 = .ok (.invokevirtual 46, 3) := by decide +kernel
theorem dX8_mark_92 : decode cX8_mark 92 = .ok (.ireturn, 1) := by decide +kernel
theorem dX8_mark_93 : decode cX8_mark 93 = .ok (.aload_n 0, 1) := by decide +kernel
theorem dX8_mark_94 : decode cX8_mark 94 = .ok (.getfield 30, 3) := by decide +kernel
theorem dX8_mark_97 : decode cX8_mark 97 = .ok (.iload_n 2, 1) := by decide +kernel
theorem dX8_mark_98 : decode cX8_mark 98 = .ok (.invokevirtual 69, 3) := by decide +kernel
theorem dX8_mark_101 : decode cX8_mark 101 = .ok (.istore 7, 2) := by decide +kernel
theorem dX8_mark_103 : decode cX8_mark 103 = .ok (.aload_n 0, 1) := by decide +kernel
theorem dX8_mark_104 : decode cX8_mark 104 = .ok (.getfield 30, 3) := by decide +kernel
theorem dX8_mark_107 : decode cX8_mark 107 = .ok (.iload_n 2, 1) := by decide +kernel
theorem dX8_mark_108 : decode cX8_mark 108 = .ok (.iload_n 3, 1) := by decide +kernel
theorem dX8_mark_109 : decode cX8_mark 109 = .ok (.iadd, 1) := by decide +kernel
theorem dX8_mark_110 : decode cX8_mark 110 = .ok (.iconst 1, 1) := by decide +kernel
theorem dX8_mark_111 : decode cX8_mark 111 = .ok (.isub, 1) := by decide +kernel
theorem dX8_mark_112 : decode cX8_mark 112 = .ok (.invokevirtual 69, 3) := by decide +kernel
theorem dX8_mark_115 : decode cX8_mark 115 = .ok (.istore 8, 2) := by decide +kernel
theorem dX8_mark_117 : decode cX8_mark 117 = .ok (.iload 5, 2) := by decide +kernel
theorem dX8_mark_119 : decode cX8_mark 119 = .ok (.iconst 2, 1) := by decide +kernel
theorem dX8_mark_120 : decode cX8_mark 120 = .ok (.if_icmp .lt 15, 3) := by decide +kernel
theorem dX8_mark_123 : decode cX8_mark 123 = .ok (.aload_n 0, 1) := by decide +kernel
theorem dX8_mark_124 : decode cX8_mark 124 = .ok (.getfield 30, 3) := by decide +kernel
theorem dX8_mark_127 : decode cX8_mark 127 = .ok (.iload 8, 2) := by decide +kernel
theorem dX8_mark_129 : decode cX8_mark 129 = .ok (.invokevirtual 101, 3) := by decide +kernel
theorem dX8_mark_132 : decode cX8_mark 132 = .ok (.goto 5, 3) := by decide +kernel
theorem dX8_mark_135 : decode cX8_mark 135 = .ok (.bipush (-3), 2) := by decide +kernel
theorem dX8_mark_137 : decode cX8_mark 137 = .ok (.istore 9, 2) := by decide +kernel
theorem dX8_mark_139 : decode cX8_mark 139 = .ok (.aload_n 0, 1) := by decide +kernel
theorem dX8_mark_140 : decode cX8_mark 140 = .ok (.aload 6, 2) := by decide +kernel
theorem dX8_mark_142 : decode cX8_mark 142 = .ok (.new 104, 3) := by decide +kernel
theorem dX8_mark_145 : decode cX8_mark 145 = .ok (.dup, 1) := by decide +kernel
theorem dX8_mark_146 : decode cX8_mark 146 = .ok (.aload_n 0, 1) := by decide +kernel
theorem dX8_mark_147 : decode cX8_mark 147 = .ok (.getfield 12, 3) := by decide +kernel
theorem dX8_mark_150 : decode cX8_mark 150 = .ok (.getfield 74, 3) := by decide +kernel
theorem dX8_mark_153 : decode cX8_mark 153 = .ok (.aload 6, 2) := by decide +kernel
theorem dX8_mark_155 : decode cX8_mark 155 = .ok (.iload 7, 2) := by decide +kernel
theorem dX8_mark_157 : decode cX8_mark 157 = .ok (.iload 8, 2) := by decide +kernel
theorem dX8_mark_159 : decode cX8_mark 159 = .ok (.iload 9, 2) := by decide +kernel
theorem dX8_mark_161 : decode cX8_mark 161 = .ok (.iload 4, 2) := by decide +kernel
theorem dX8_mark_163 : decode cX8_mark 163 = .ok (.iload 5, 2) := by decide +kernel
theorem dX8_mark_165 : decode cX8_mark 165 = .ok (.iconst 2, 1) := by decide +kernel
theorem dX8_mark_166 : decode cX8_mark 166 = .ok (.irem, 1) := by decide +kernel
theorem dX8_mark_167 : decode cX8_mark 167 = .ok (.iconst 1, 1) := by decide +kernel
theorem dX8_mark_168 : decode cX8_mark 168 = .ok (.if_icmp .ne 7, 3) := by decide +kernel
theorem dX8_mark_171 : decode cX8_mark 171 = .ok (.iconst 1, 1) := by decide +kernel
theorem dX8_mark_172 : decode cX8_mark 172 = .ok (.goto 4, 3) := by decide +kernel
theorem dX8_mark_175 : decode cX8_mark 175 = .ok (.iconst 0, 1) := by decide +kernel
theorem dX8_mark_176 : decode cX8_mark 176 = .ok (.invokespecial 106, 3) := by decide +kernel
theorem dX8_mark_179 : decode cX8_mark 179 = .ok (.invokevirtual 80, 3) := by decide +kernel
theorem dX8_mark_182 : decode cX8_mark 182 = .ok (.ireturn, 1) := by decide +kernel
theorem dX8_undo_0 : decode cX8_undo 0 = .ok (.aload_n 0, 1) := by decide +kernel
theorem dX8_undo_1 : decode cX8_undo 1 = .ok (.iload_n 1, 1) := by decide +kernel
theorem dX8_undo_2 : decode cX8_undo 2 = .ok (.invokevirtual 42, 3) := by decide +kernel
theorem dX8_undo_5 : decode cX8_undo 5 = .ok (.astore_n 3, 1) := by decide +kernel
theorem dX8_undo_6 : decode cX8_undo 6 = .ok (.aload_n 0, 1) := by decide +kernel
theorem dX8_undo_7 : decode cX8_undo 7 = .ok (.getfield 12, 3) := by decide +kernel
theorem dX8_undo_10 : decode cX8_undo 10 = .ok (.iload_n 2, 1) := by decide +kernel
theorem dX8_undo_11 : decode cX8_undo 11 = .ok (.invokevirtual 109, 3) := by decide +kernel
theorem dX8_undo_14 : decode cX8_undo 14 = .ok (.astore 4, 2) := by decide +kernel
theorem dX8_undo_16 : decode cX8_undo 16 = .ok (.aload_n 3, 1) := by decide +kernel
theorem dX8_undo_17 : decode cX8_undo 17 = .ok (.ifnull 8, 3) := by decide +kernel
theorem dX8_undo_20 : decode cX8_undo 20 = .ok (.aload 4, 2) := by decide +kernel
theorem dX8_undo_22 : decode cX8_undo 22 = .ok (.ifnonnull 9, 3) := by decide +kernel
theorem dX8_undo_25 : decode cX8_undo 25 = .ok (.aload_n 0, 1) := by decide +kernel
theorem dX8_undo_26 : decode cX8_undo 26 = .ok (.iconst 1, 1) := by decide +kernel
theorem dX8_undo_27 : decode cX8_undo 27 = .ok (.invokevirtual 46, 3) := by decide +kernel
theorem dX8_undo_30 : decode cX8_undo 30 = .ok (.ireturn, 1) := by decide +kernel
theorem dX8_undo_31 : decode cX8_undo 31 = .ok (.aload 4, 2) := by decide +kernel
theorem dX8_undo_33 : decode cX8_undo 33 = .ok (.getfield 113, 3) := by decide +kernel
theorem dX8_undo_36 : decode cX8_undo 36 = .ok (.iload_n 1, 1) := by decide +kernel
theorem dX8_undo_37 : decode cX8_undo 37 = .ok (.if_icmp .eq 9, 3) := by decide +kernel
theorem dX8_undo_40 : decode cX8_undo 40 = .ok (.aload_n 0, 1) := by decide +kernel
theorem dX8_undo_41 : decode cX8_undo 41 = .ok (.iconst 3, 1) := by decide +kernel
theorem dX8_undo_42 : decode cX8_undo 42 = .ok (.invokevirtual 46, 3) := by decide +kernel
theorem dX8_undo_45 : decode cX8_undo 45 = .ok (.ireturn, 1) := by decide +kernel
theorem dX8_undo_46 : decode cX8_undo 46 = .ok (.aload_n 0, 1) := by decide +kernel
theorem dX8_undo_47 : decode cX8_undo 47 = .ok (.getfield 30, 3) := by decide +kernel
theorem dX8_undo_50 : decode cX8_undo 50 = .ok (.aload_n 3, 1) := by decide +kernel
theorem dX8_undo_51 : decode cX8_undo 51 = .ok (.sipush 256, 3) := by decide +kernel
theorem dX8_undo_54 : decode cX8_undo 54 = .ok (.invokevirtual 50, 3) := by decide +kernel
theorem dX8_undo_57 : decode cX8_undo 57 = .ok (.aload_n 0, 1) := by decide +kernel
theorem dX8_undo_58 : decode cX8_undo 58 = .ok (.getfield 30, 3) := by decide +kernel
theorem dX8_undo_61 : decode cX8_undo 61 = .ok (.aload 4, 2) := by decide +kernel
theorem dX8_undo_63 : decode cX8_undo 63 = .ok (.invokevirtual 118, 3) := by decide +kernel
theorem dX8_undo_66 : decode cX8_undo 66 = .ok (.ifCond .ne 9, 3) := by decide +kernel
theorem dX8_undo_69 : decode cX8_undo 69 = .ok (.aload_n 0, 1) := by decide +kernel
theorem dX8_undo_70 : decode cX8_undo 70 = .ok (.iconst 4, 1) := by decide +kernel
theorem dX8_undo_71 : decode cX8_undo 71 = .ok (.invokevirtual 46, 3) := by decide +kernel
theorem dX8_undo_74 : decode cX8_undo 74 = .ok (.ireturn, 1) := by decide +kernel
theorem dX8_undo_75 : decode cX8_undo 75 = .ok (.aload_n 0, 1) := by decide +kernel
theorem dX8_undo_76 : decode cX8_undo 76 = .ok (.getfield 12, 3) := by decide +kernel
theorem dX8_undo_79 : decode cX8_undo 79 = .ok (.invokevirtual 65, 3) := by decide +kernel
theorem dX8_undo_82 : decode cX8_undo 82 = .ok (.ifCond .eq 9, 3) := by decide +kernel
theorem dX8_undo_85 : decode cX8_undo 85 = .ok (.aload_n 0, 1) := by decide +kernel
theorem dX8_undo_86 : decode cX8_undo 86 = .ok (.iconst 2, 1) := by decide +kernel
theorem dX8_undo_87 : decode cX8_undo 87 = .ok (.invokevirtual 46, 3) := by decide +kernel
theorem dX8_undo_90 : decode cX8_undo 90 = .ok (.ireturn, 1) := by decide +kernel
theorem dX8_undo_91 : decode cX8_undo 91 = .ok (.aload_n 0, 1) := by decide +kernel
theorem dX8_undo_92 : decode cX8_undo 92 = .ok (.aload_n 3, 1) := by decide +kernel
theorem dX8_undo_93 : decode cX8_undo 93 = .ok (.new 122, 3) := by decide +kernel
theorem dX8_undo_96 : decode cX8_undo 96 = .ok (.dup, 1) := by decide +kernel
theorem dX8_undo_97 : decode cX8_undo 97 = .ok (.aload_n 0, 1) := by decide +kernel
theorem dX8_undo_98 : decode cX8_undo 98 = .ok (.getfield 12, 3) := by decide +kernel
theorem dX8_undo_101 : decode cX8_undo 101 = .ok (.getfield 74, 3) := by decide +kernel
theorem dX8_undo_104 : decode cX8_undo 104 = .ok (.aload_n 3, 1) := by decide +kernel
theorem dX8_undo_105 : decode cX8_undo 105 = .ok (.aload 4, 2) := by decide +kernel
theorem dX8_undo_107 : decode cX8_undo 107 = .ok (.getfield 124, 3) := by decide +kernel
theorem dX8_undo_110 : decode cX8_undo 110 = .ok (.invokespecial 127, 3) := by decide +kernel
theorem dX8_undo_113 : decode cX8_undo 113 = .ok (.invokevirtual 80, 3) := by decide +kernel
theorem dX8_undo_116 : decode cX8_undo 116 = .ok (.ireturn, 1) := by decide +kernel
theorem dX8_carry_0 : decode cX8_carry 0 = .ok (.aload_n 0, 1) := by decide +kernel
theorem dX8_carry_1 : decode cX8_carry 1 = .ok (.iload_n 2, 1) := by decide +kernel
theorem dX8_carry_2 : decode cX8_carry 2 = .ok (.invokevirtual 42, 3) := by decide +kernel
theorem dX8_carry_5 : decode cX8_carry 5 = .ok (.astore_n 3, 1) := by decide +kernel
theorem dX8_carry_6 : decode cX8_carry 6 = .ok (.aload_n 0, 1) := by decide +kernel
theorem dX8_carry_7 : decode cX8_carry 7 = .ok (.getfield 12, 3) := by decide +kernel
theorem dX8_carry_10 : decode cX8_carry 10 = .ok (.iload_n 1, 1) := by decide +kernel
theorem dX8_carry_11 : decode cX8_carry 11 = .ok (.invokevirtual 109, 3) := by decide +kernel
theorem dX8_carry_14 : decode cX8_carry 14 = .ok (.astore 4, 2) := by decide +kernel
theorem dX8_carry_16 : decode cX8_carry 16 = .ok (.aload_n 3, 1) := by decide +kernel
theorem dX8_carry_17 : decode cX8_carry 17 = .ok (.ifnull 8, 3) := by decide +kernel
theorem dX8_carry_20 : decode cX8_carry 20 = .ok (.aload 4, 2) := by decide +kernel
theorem dX8_carry_22 : decode cX8_carry 22 = .ok (.ifnonnull 9, 3) := by decide +kernel
theorem dX8_carry_25 : decode cX8_carry 25 = .ok (.aload_n 0, 1) := by decide +kernel
theorem dX8_carry_26 : decode cX8_carry 26 = .ok (.iconst 1, 1) := by decide +kernel
theorem dX8_carry_27 : decode cX8_carry 27 = .ok (.invokevirtual 46, 3) := by decide +kernel
theorem dX8_carry_30 : decode cX8_carry 30 = .ok (.ireturn, 1) := by decide +kernel
theorem dX8_carry_31 : decode cX8_carry 31 = .ok (.aload_n 3, 1) := by decide +kernel
theorem dX8_carry_32 : decode cX8_carry 32 = .ok (.aload 4, 2) := by decide +kernel
theorem dX8_carry_34 : decode cX8_carry 34 = .ok (.invokevirtual 130, 3) := by decide +kernel
theorem dX8_carry_37 : decode cX8_carry 37 = .ok (.aload_n 0, 1) := by decide +kernel
theorem dX8_carry_38 : decode cX8_carry 38 = .ok (.aload_n 3, 1) := by decide +kernel
theorem dX8_carry_39 : decode cX8_carry 39 = .ok (.aload_n 0, 1) := by decide +kernel
theorem dX8_carry_40 : decode cX8_carry 40 = .ok (.getfield 12, 3) := by decide +kernel
theorem dX8_carry_43 : decode cX8_carry 43 = .ok (.invokevirtual 134, 3) := by decide +kernel
theorem dX8_carry_46 : decode cX8_carry 46 = .ok (.invokevirtual 138, 3) := by decide +kernel
theorem dX8_carry_49 : decode cX8_carry 49 = .ok (.ireturn, 1) := by decide +kernel
theorem dX8_all_0 : decode cX8_all 0 = .ok (.aload_n 0, 1) := by decide +kernel
theorem dX8_all_1 : decode cX8_all 1 = .ok (.iload_n 1, 1) := by decide +kernel
theorem dX8_all_2 : decode cX8_all 2 = .ok (.invokevirtual 42, 3) := by decide +kernel
theorem dX8_all_5 : decode cX8_all 5 = .ok (.astore_n 3, 1) := by decide +kernel
theorem dX8_all_6 : decode cX8_all 6 = .ok (.aload_n 0, 1) := by decide +kernel
theorem dX8_all_7 : decode cX8_all 7 = .ok (.iload_n 2, 1) := by decide +kernel
theorem dX8_all_8 : decode cX8_all 8 = .ok (.invokevirtual 42, 3) := by decide +kernel
theorem dX8_all_11 : decode cX8_all 11 = .ok (.astore 4, 2) := by decide +kernel
theorem dX8_all_13 : decode cX8_all 13 = .ok (.aload_n 3, 1) := by decide +kernel
theorem dX8_all_14 : decode cX8_all 14 = .ok (.ifnull 8, 3) := by decide +kernel
theorem dX8_all_17 : decode cX8_all 17 = .ok (.aload 4, 2) := by decide +kernel
theorem dX8_all_19 : decode cX8_all 19 = .ok (.ifnonnull 9, 3) := by decide +kernel
theorem dX8_all_22 : decode cX8_all 22 = .ok (.aload_n 0, 1) := by decide +kernel
theorem dX8_all_23 : decode cX8_all 23 = .ok (.iconst 1, 1) := by decide +kernel
theorem dX8_all_24 : decode cX8_all 24 = .ok (.invokevirtual 46, 3) := by decide +kernel
theorem dX8_all_27 : decode cX8_all 27 = .ok (.ireturn, 1) := by decide +kernel
theorem dX8_all_28 : decode cX8_all 28 = .ok (.iconst 0, 1) := by decide +kernel
theorem dX8_all_29 : decode cX8_all 29 = .ok (.istore 5, 2) := by decide +kernel
theorem dX8_all_31 : decode cX8_all 31 = .ok (.iload 5, 2) := by decide +kernel
theorem dX8_all_33 : decode cX8_all 33 = .ok (.aload_n 0, 1) := by decide +kernel
theorem dX8_all_34 : decode cX8_all 34 = .ok (.getfield 12, 3) := by decide +kernel
theorem dX8_all_37 : decode cX8_all 37 = .ok (.getfield 74, 3) := by decide +kernel
theorem dX8_all_40 : decode cX8_all 40 = .ok (.if_icmp .ge 37, 3) := by decide +kernel
theorem dX8_all_43 : decode cX8_all 43 = .ok (.aload_n 0, 1) := by decide +kernel
theorem dX8_all_44 : decode cX8_all 44 = .ok (.getfield 12, 3) := by decide +kernel
theorem dX8_all_47 : decode cX8_all 47 = .ok (.getfield 141, 3) := by decide +kernel
theorem dX8_all_50 : decode cX8_all 50 = .ok (.iload 5, 2) := by decide +kernel
theorem dX8_all_52 : decode cX8_all 52 = .ok (.aaload, 1) := by decide +kernel
theorem dX8_all_53 : decode cX8_all 53 = .ok (.astore 6, 2) := by decide +kernel
theorem dX8_all_55 : decode cX8_all 55 = .ok (.aload_n 3, 1) := by decide +kernel
theorem dX8_all_56 : decode cX8_all 56 = .ok (.aload 6, 2) := by decide +kernel
theorem dX8_all_58 : decode cX8_all 58 = .ok (.invokevirtual 145, 3) := by decide +kernel
theorem dX8_all_61 : decode cX8_all 61 = .ok (.ifCond .eq 10, 3) := by decide +kernel
theorem dX8_all_64 : decode cX8_all 64 = .ok (.aload 4, 2) := by decide +kernel
theorem dX8_all_66 : decode cX8_all 66 = .ok (.aload 6, 2) := by decide +kernel
theorem dX8_all_68 : decode cX8_all 68 = .ok (.invokevirtual 130, 3) := by decide +kernel
theorem dX8_all_71 : decode cX8_all 71 = .ok (.iinc 5 1, 3) := by decide +kernel
theorem dX8_all_74 : decode cX8_all 74 = .ok (.goto (-43), 3) := by decide +kernel
theorem dX8_all_77 : decode cX8_all 77 = .ok (.aload_n 0, 1) := by decide +kernel
theorem dX8_all_78 : decode cX8_all 78 = .ok (.aload 4, 2) := by decide +kernel
theorem dX8_all_80 : decode cX8_all 80 = .ok (.aload_n 0, 1) := by decide +kernel
theorem dX8_all_81 : decode cX8_all 81 = .ok (.getfield 12, 3) := by decide +kernel
theorem dX8_all_84 : decode cX8_all 84 = .ok (.invokevirtual 134, 3) := by decide +kernel
theorem dX8_all_87 : decode cX8_all 87 = .ok (.invokevirtual 138, 3) := by decide +kernel
theorem dX8_all_90 : decode cX8_all 90 = .ok (.ireturn, 1) := by decide +kernel
theorem dX8_state_0 : decode cX8_state 0 = .ok (.aload_n 0, 1) := by decide +kernel
theorem dX8_state_1 : decode cX8_state 1 = .ok (.iload_n 1, 1) := by decide +kernel
theorem dX8_state_2 : decode cX8_state 2 = .ok (.invokevirtual 42, 3) := by decide +kernel
theorem dX8_state_5 : decode cX8_state 5 = .ok (.astore_n 3, 1) := by decide +kernel
theorem dX8_state_6 : decode cX8_state 6 = .ok (.aload_n 0, 1) := by decide +kernel
theorem dX8_state_7 : decode cX8_state 7 = .ok (.getfield 12, 3) := by decide +kernel
theorem dX8_state_10 : decode cX8_state 10 = .ok (.iload_n 2, 1) := by decide +kernel
theorem dX8_state_11 : decode cX8_state 11 = .ok (.invokevirtual 109, 3) := by decide +kernel
theorem dX8_state_14 : decode cX8_state 14 = .ok (.astore 4, 2) := by decide +kernel
theorem dX8_state_16 : decode cX8_state 16 = .ok (.aload_n 3, 1) := by decide +kernel
theorem dX8_state_17 : decode cX8_state 17 = .ok (.ifnull 8, 3) := by decide +kernel
theorem dX8_state_20 : decode cX8_state 20 = .ok (.aload 4, 2) := by decide +kernel
theorem dX8_state_22 : decode cX8_state 22 = .ok (.ifnonnull 5, 3) := by decide +kernel
theorem dX8_state_25 : decode cX8_state 25 = .ok (.iconst (-1), 1) := by decide +kernel
theorem dX8_state_26 : decode cX8_state 26 = .ok (.ireturn, 1) := by decide +kernel
theorem dX8_state_27 : decode cX8_state 27 = .ok (.aload_n 0, 1) := by decide +kernel
theorem dX8_state_28 : decode cX8_state 28 = .ok (.getfield 30, 3) := by decide +kernel
theorem dX8_state_31 : decode cX8_state 31 = .ok (.aload_n 3, 1) := by decide +kernel
theorem dX8_state_32 : decode cX8_state 32 = .ok (.sipush 256, 3) := by decide +kernel
theorem dX8_state_35 : decode cX8_state 35 = .ok (.invokevirtual 50, 3) := by decide +kernel
theorem dX8_state_38 : decode cX8_state 38 = .ok (.aload_n 0, 1) := by decide +kernel
theorem dX8_state_39 : decode cX8_state 39 = .ok (.getfield 30, 3) := by decide +kernel
theorem dX8_state_42 : decode cX8_state 42 = .ok (.aload 4, 2) := by decide +kernel
theorem dX8_state_44 : decode cX8_state 44 = .ok (.invokevirtual 118, 3) := by decide +kernel
theorem dX8_state_47 : decode cX8_state 47 = .ok (.ifCond .eq 7, 3) := by decide +kernel
theorem dX8_state_50 : decode cX8_state 50 = .ok (.iconst 3, 1) := by decide +kernel
theorem dX8_state_51 : decode cX8_state 51 = .ok (.goto 13, 3) := by decide +kernel
theorem dX8_state_54 : decode cX8_state 54 = .ok (.aload_n 3, 1) := by decide +kernel
theorem dX8_state_55 : decode cX8_state 55 = .ok (.getfield 148, 3) := by decide +kernel
theorem dX8_state_58 : decode cX8_state 58 = .ok (.aload 4, 2) := by decide +kernel
theorem dX8_state_60 : decode cX8_state 60 = .ok (.getfield 124, 3) := by decide +kernel
theorem dX8_state_63 : decode cX8_state 63 = .ok (.iaload, 1) := by decide +kernel
theorem dX8_state_64 : decode cX8_state 64 = .ok (.ireturn, 1) := by decide +kernel
theorem dX8_lacks_0 : decode cX8_lacks 0 = .ok (.aload_n 0, 1) := by decide +kernel
theorem dX8_lacks_1 : decode cX8_lacks 1 = .ok (.iload_n 1, 1) := by decide +kernel
theorem dX8_lacks_2 : decode cX8_lacks 2 = .ok (.invokevirtual 42, 3) := by decide +kernel
theorem dX8_lacks_5 : decode cX8_lacks 5 = .ok (.astore_n 3, 1) := by decide +kernel
theorem dX8_lacks_6 : decode cX8_lacks 6 = .ok (.aload_n 0, 1) := by decide +kernel
theorem dX8_lacks_7 : decode cX8_lacks 7 = .ok (.getfield 12, 3) := by decide +kernel
theorem dX8_lacks_10 : decode cX8_lacks 10 = .ok (.iload_n 2, 1) := by decide +kernel
theorem dX8_lacks_11 : decode cX8_lacks 11 = .ok (.invokevirtual 109, 3) := by decide +kernel
theorem dX8_lacks_14 : decode cX8_lacks 14 = .ok (.astore 4, 2) := by decide +kernel
theorem dX8_lacks_16 : decode cX8_lacks 16 = .ok (.aload_n 3, 1) := by decide +kernel
theorem dX8_lacks_17 : decode cX8_lacks 17 = .ok (.ifnull 22, 3) := by decide +kernel
theorem dX8_lacks_20 : decode cX8_lacks 20 = .ok (.aload 4, 2) := by decide +kernel
theorem dX8_lacks_22 : decode cX8_lacks 22 = .ok (.ifnull 17, 3) := by decide +kernel
theorem dX8_lacks_25 : decode cX8_lacks 25 = .ok (.aload_n 3, 1) := by decide +kernel
theorem dX8_lacks_26 : decode cX8_lacks 26 = .ok (.getfield 148, 3) := by decide +kernel
theorem dX8_lacks_29 : decode cX8_lacks 29 = .ok (.aload 4, 2) := by decide +kernel
theorem dX8_lacks_31 : decode cX8_lacks 31 = .ok (.getfield 124, 3) := by decide +kernel
theorem dX8_lacks_34 : decode cX8_lacks 34 = .ok (.iaload, 1) := by decide +kernel
theorem dX8_lacks_35 : decode cX8_lacks 35 = .ok (.iconst 1, 1) := by decide +kernel
theorem dX8_lacks_36 : decode cX8_lacks 36 = .ok (.if_icmp .eq 5, 3) := by decide +kernel
theorem dX8_lacks_39 : decode cX8_lacks 39 = .ok (.iconst (-1), 1) := by decide +kernel
theorem dX8_lacks_40 : decode cX8_lacks 40 = .ok (.ireturn, 1) := by decide +kernel
theorem dX8_lacks_41 : decode cX8_lacks 41 = .ok (.aload_n 3, 1) := by decide +kernel
theorem dX8_lacks_42 : decode cX8_lacks 42 = .ok (.aload 4, 2) := by decide +kernel
theorem dX8_lacks_44 : decode cX8_lacks 44 = .ok (.invokevirtual 151, 3) := by decide +kernel
theorem dX8_lacks_47 : decode cX8_lacks 47 = .ok (.ireturn, 1) := by decide +kernel
theorem dX8_slips_0 : decode cX8_slips 0 = .ok (.aload_n 0, 1) := by decide +kernel
theorem dX8_slips_1 : decode cX8_slips 1 = .ok (.getfield 12, 3) := by decide +kernel
theorem dX8_slips_4 : decode cX8_slips 4 = .ok (.getfield 74, 3) := by decide +kernel
theorem dX8_slips_7 : decode cX8_slips 7 = .ok (.ireturn, 1) := by decide +kernel
theorem dX8_slip_0 : decode cX8_slip 0 = .ok (.aload_n 0, 1) := by decide +kernel
theorem dX8_slip_1 : decode cX8_slip 1 = .ok (.getfield 12, 3) := by decide +kernel
theorem dX8_slip_4 : decode cX8_slip 4 = .ok (.iload_n 1, 1) := by decide +kernel
theorem dX8_slip_5 : decode cX8_slip 5 = .ok (.invokevirtual 109, 3) := by decide +kernel
theorem dX8_slip_8 : decode cX8_slip 8 = .ok (.astore_n 3, 1) := by decide +kernel
theorem dX8_slip_9 : decode cX8_slip 9 = .ok (.aload_n 3, 1) := by decide +kernel
theorem dX8_slip_10 : decode cX8_slip 10 = .ok (.ifnonnull 5, 3) := by decide +kernel
theorem dX8_slip_13 : decode cX8_slip 13 = .ok (.iconst (-1), 1) := by decide +kernel
theorem dX8_slip_14 : decode cX8_slip 14 = .ok (.ireturn, 1) := by decide +kernel
theorem dX8_slip_15 : decode cX8_slip 15 = .ok (.iload_n 2, 1) := by decide +kernel
theorem dX8_slip_16 : decode cX8_slip 16 = .ok (.tableswitch 52 0 3 #[32, 37, 42, 47], 32) := by decide +kernel
theorem dX8_slip_48 : decode cX8_slip 48 = .ok (.aload_n 3, 1) := by decide +kernel
theorem dX8_slip_49 : decode cX8_slip 49 = .ok (.getfield 113, 3) := by decide +kernel
theorem dX8_slip_52 : decode cX8_slip 52 = .ok (.ireturn, 1) := by decide +kernel
theorem dX8_slip_53 : decode cX8_slip 53 = .ok (.aload_n 3, 1) := by decide +kernel
theorem dX8_slip_54 : decode cX8_slip 54 = .ok (.getfield 155, 3) := by decide +kernel
theorem dX8_slip_57 : decode cX8_slip 57 = .ok (.ireturn, 1) := by decide +kernel
theorem dX8_slip_58 : decode cX8_slip 58 = .ok (.aload_n 3, 1) := by decide +kernel
theorem dX8_slip_59 : decode cX8_slip 59 = .ok (.invokevirtual 158, 3) := by decide +kernel
theorem dX8_slip_62 : decode cX8_slip 62 = .ok (.ireturn, 1) := by decide +kernel
theorem dX8_slip_63 : decode cX8_slip 63 = .ok (.aload_n 3, 1) := by decide +kernel
theorem dX8_slip_64 : decode cX8_slip 64 = .ok (.invokevirtual 162, 3) := by decide +kernel
theorem dX8_slip_67 : decode cX8_slip 67 = .ok (.ireturn, 1) := by decide +kernel
theorem dX8_slip_68 : decode cX8_slip 68 = .ok (.iconst (-1), 1) := by decide +kernel
theorem dX8_slip_69 : decode cX8_slip 69 = .ok (.ireturn, 1) := by decide +kernel
theorem dX8_part_0 : decode cX8_part 0 = .ok (.aload_n 0, 1) := by decide +kernel
theorem dX8_part_1 : decode cX8_part 1 = .ok (.getfield 12, 3) := by decide +kernel
theorem dX8_part_4 : decode cX8_part 4 = .ok (.iload_n 1, 1) := by decide +kernel
theorem dX8_part_5 : decode cX8_part 5 = .ok (.invokevirtual 109, 3) := by decide +kernel
theorem dX8_part_8 : decode cX8_part 8 = .ok (.astore_n 3, 1) := by decide +kernel
theorem dX8_part_9 : decode cX8_part 9 = .ok (.aload_n 3, 1) := by decide +kernel
theorem dX8_part_10 : decode cX8_part 10 = .ok (.ifnonnull 9, 3) := by decide +kernel
theorem dX8_part_13 : decode cX8_part 13 = .ok (.aload_n 0, 1) := by decide +kernel
theorem dX8_part_14 : decode cX8_part 14 = .ok (.iconst 1, 1) := by decide +kernel
theorem dX8_part_15 : decode cX8_part 15 = .ok (.invokevirtual 46, 3) := by decide +kernel
theorem dX8_part_18 : decode cX8_part 18 = .ok (.ireturn, 1) := by decide +kernel
theorem dX8_part_19 : decode cX8_part 19 = .ok (.aload_n 3, 1) := by decide +kernel
theorem dX8_part_20 : decode cX8_part 20 = .ok (.invokevirtual 158, 3) := by decide +kernel
theorem dX8_part_23 : decode cX8_part 23 = .ok (.iconst 3, 1) := by decide +kernel
theorem dX8_part_24 : decode cX8_part 24 = .ok (.if_icmp .ne 10, 3) := by decide +kernel
theorem dX8_part_27 : decode cX8_part 27 = .ok (.aload_n 0, 1) := by decide +kernel
theorem dX8_part_28 : decode cX8_part 28 = .ok (.bipush 6, 2) := by decide +kernel
theorem dX8_part_30 : decode cX8_part 30 = .ok (.invokevirtual 46, 3) := by decide +kernel
theorem dX8_part_33 : decode cX8_part 33 = .ok (.ireturn, 1) := by decide +kernel
theorem dX8_part_34 : decode cX8_part 34 = .ok (.iload_n 2, 1) := by decide +kernel
theorem dX8_part_35 : decode cX8_part 35 = .ok (.ifCond .lt 11, 3) := by decide +kernel
theorem dX8_part_38 : decode cX8_part 38 = .ok (.iload_n 2, 1) := by decide +kernel
theorem dX8_part_39 : decode cX8_part 39 = .ok (.aload_n 3, 1) := by decide +kernel
theorem dX8_part_40 : decode cX8_part 40 = .ok (.invokevirtual 162, 3) := by decide +kernel
theorem dX8_part_43 : decode cX8_part 43 = .ok (.if_icmp .lt 9, 3) := by decide +kernel
theorem dX8_part_46 : decode cX8_part 46 = .ok (.aload_n 0, 1) := by decide +kernel
theorem dX8_part_47 : decode cX8_part 47 = .ok (.iconst 1, 1) := by decide +kernel
theorem dX8_part_48 : decode cX8_part 48 = .ok (.invokevirtual 46, 3) := by decide +kernel
theorem dX8_part_51 : decode cX8_part 51 = .ok (.ireturn, 1) := by decide +kernel
theorem dX8_part_52 : decode cX8_part 52 = .ok (.aload_n 0, 1) := by decide +kernel
theorem dX8_part_53 : decode cX8_part 53 = .ok (.aload_n 3, 1) := by decide +kernel
theorem dX8_part_54 : decode cX8_part 54 = .ok (.iload_n 2, 1) := by decide +kernel
theorem dX8_part_55 : decode cX8_part 55 = .ok (.invokevirtual 165, 3) := by decide +kernel
theorem dX8_part_58 : decode cX8_part 58 = .ok (.invokevirtual 138, 3) := by decide +kernel
theorem dX8_part_61 : decode cX8_part 61 = .ok (.ireturn, 1) := by decide +kernel
theorem dX8_left_0 : decode cX8_left 0 = .ok (.aload_n 0, 1) := by decide +kernel
theorem dX8_left_1 : decode cX8_left 1 = .ok (.getfield 12, 3) := by decide +kernel
theorem dX8_left_4 : decode cX8_left 4 = .ok (.iload_n 1, 1) := by decide +kernel
theorem dX8_left_5 : decode cX8_left 5 = .ok (.invokevirtual 109, 3) := by decide +kernel
theorem dX8_left_8 : decode cX8_left 8 = .ok (.astore_n 2, 1) := by decide +kernel
theorem dX8_left_9 : decode cX8_left 9 = .ok (.aload_n 2, 1) := by decide +kernel
theorem dX8_left_10 : decode cX8_left 10 = .ok (.ifnonnull 9, 3) := by decide +kernel
theorem dX8_left_13 : decode cX8_left 13 = .ok (.aload_n 0, 1) := by decide +kernel
theorem dX8_left_14 : decode cX8_left 14 = .ok (.iconst 1, 1) := by decide +kernel
theorem dX8_left_15 : decode cX8_left 15 = .ok (.invokevirtual 46, 3) := by decide +kernel
theorem dX8_left_18 : decode cX8_left 18 = .ok (.ireturn, 1) := by decide +kernel
theorem dX8_left_19 : decode cX8_left 19 = .ok (.aload_n 2, 1) := by decide +kernel
theorem dX8_left_20 : decode cX8_left 20 = .ok (.instanceof 72, 3) := by decide +kernel
theorem dX8_left_23 : decode cX8_left 23 = .ok (.ifCond .eq 19, 3) := by decide +kernel
theorem dX8_left_26 : decode cX8_left 26 = .ok (.aload_n 2, 1) := by decide +kernel
theorem dX8_left_27 : decode cX8_left 27 = .ok (.checkcast 72, 3) := by decide +kernel
theorem dX8_left_30 : decode cX8_left 30 = .ok (.astore_n 3, 1) := by decide +kernel
theorem dX8_left_31 : decode cX8_left 31 = .ok (.aload_n 0, 1) := by decide +kernel
theorem dX8_left_32 : decode cX8_left 32 = .ok (.aload_n 3, 1) := by decide +kernel
theorem dX8_left_33 : decode cX8_left 33 = .ok (.getfield 168, 3) := by decide +kernel
theorem dX8_left_36 : decode cX8_left 36 = .ok (.invokevirtual 138, 3) := by decide +kernel
theorem dX8_left_39 : decode cX8_left 39 = .ok (.goto 9, 3) := by decide +kernel
theorem dX8_left_42 : decode cX8_left 42 = .ok (.aload_n 0, 1) := by decide +kernel
theorem dX8_left_43 : decode cX8_left 43 = .ok (.bipush 6, 2) := by decide +kernel
theorem dX8_left_45 : decode cX8_left 45 = .ok (.invokevirtual 46, 3) := by decide +kernel
theorem dX8_left_48 : decode cX8_left 48 = .ok (.ireturn, 1) := by decide +kernel
theorem dX8_bound_0 : decode cX8_bound 0 = .ok (.aload_n 0, 1) := by decide +kernel
theorem dX8_bound_1 : decode cX8_bound 1 = .ok (.getfield 12, 3) := by decide +kernel
theorem dX8_bound_4 : decode cX8_bound 4 = .ok (.iload_n 1, 1) := by decide +kernel
theorem dX8_bound_5 : decode cX8_bound 5 = .ok (.invokevirtual 109, 3) := by decide +kernel
theorem dX8_bound_8 : decode cX8_bound 8 = .ok (.astore_n 2, 1) := by decide +kernel
theorem dX8_bound_9 : decode cX8_bound 9 = .ok (.aload_n 2, 1) := by decide +kernel
theorem dX8_bound_10 : decode cX8_bound 10 = .ok (.ifnonnull 9, 3) := by decide +kernel
theorem dX8_bound_13 : decode cX8_bound 13 = .ok (.aload_n 0, 1) := by decide +kernel
theorem dX8_bound_14 : decode cX8_bound 14 = .ok (.iconst 1, 1) := by decide +kernel
theorem dX8_bound_15 : decode cX8_bound 15 = .ok (.invokevirtual 46, 3) := by decide +kernel
theorem dX8_bound_18 : decode cX8_bound 18 = .ok (.ireturn, 1) := by decide +kernel
theorem dX8_bound_19 : decode cX8_bound 19 = .ok (.aload_n 2, 1) := by decide +kernel
theorem dX8_bound_20 : decode cX8_bound 20 = .ok (.instanceof 104, 3) := by decide +kernel
theorem dX8_bound_23 : decode cX8_bound 23 = .ok (.ifCond .eq 19, 3) := by decide +kernel
theorem dX8_bound_26 : decode cX8_bound 26 = .ok (.aload_n 2, 1) := by decide +kernel
theorem dX8_bound_27 : decode cX8_bound 27 = .ok (.checkcast 104, 3) := by decide +kernel
theorem dX8_bound_30 : decode cX8_bound 30 = .ok (.astore_n 3, 1) := by decide +kernel
theorem dX8_bound_31 : decode cX8_bound 31 = .ok (.aload_n 0, 1) := by decide +kernel
theorem dX8_bound_32 : decode cX8_bound 32 = .ok (.aload_n 3, 1) := by decide +kernel
theorem dX8_bound_33 : decode cX8_bound 33 = .ok (.getfield 171, 3) := by decide +kernel
theorem dX8_bound_36 : decode cX8_bound 36 = .ok (.invokevirtual 138, 3) := by decide +kernel
theorem dX8_bound_39 : decode cX8_bound 39 = .ok (.goto 9, 3) := by decide +kernel
theorem dX8_bound_42 : decode cX8_bound 42 = .ok (.aload_n 0, 1) := by decide +kernel
theorem dX8_bound_43 : decode cX8_bound 43 = .ok (.bipush 6, 2) := by decide +kernel
theorem dX8_bound_45 : decode cX8_bound 45 = .ok (.invokevirtual 46, 3) := by decide +kernel
theorem dX8_bound_48 : decode cX8_bound 48 = .ok (.ireturn, 1) := by decide +kernel
theorem dX8_undone_0 : decode cX8_undone 0 = .ok (.aload_n 0, 1) := by decide +kernel
theorem dX8_undone_1 : decode cX8_undone 1 = .ok (.getfield 12, 3) := by decide +kernel
theorem dX8_undone_4 : decode cX8_undone 4 = .ok (.iload_n 1, 1) := by decide +kernel
theorem dX8_undone_5 : decode cX8_undone 5 = .ok (.invokevirtual 109, 3) := by decide +kernel
theorem dX8_undone_8 : decode cX8_undone 8 = .ok (.astore_n 2, 1) := by decide +kernel
theorem dX8_undone_9 : decode cX8_undone 9 = .ok (.aload_n 2, 1) := by decide +kernel
theorem dX8_undone_10 : decode cX8_undone 10 = .ok (.ifnonnull 9, 3) := by decide +kernel
theorem dX8_undone_13 : decode cX8_undone 13 = .ok (.aload_n 0, 1) := by decide +kernel
theorem dX8_undone_14 : decode cX8_undone 14 = .ok (.iconst 1, 1) := by decide +kernel
theorem dX8_undone_15 : decode cX8_undone 15 = .ok (.invokevirtual 46, 3) := by decide +kernel
theorem dX8_undone_18 : decode cX8_undone 18 = .ok (.ireturn, 1) := by decide +kernel
theorem dX8_undone_19 : decode cX8_undone 19 = .ok (.aload_n 2, 1) := by decide +kernel
theorem dX8_undone_20 : decode cX8_undone 20 = .ok (.instanceof 122, 3) := by decide +kernel
theorem dX8_undone_23 : decode cX8_undone 23 = .ok (.ifCond .eq 19, 3) := by decide +kernel
theorem dX8_undone_26 : decode cX8_undone 26 = .ok (.aload_n 2, 1) := by decide +kernel
theorem dX8_undone_27 : decode cX8_undone 27 = .ok (.checkcast 122, 3) := by decide +kernel
theorem dX8_undone_30 : decode cX8_undone 30 = .ok (.astore_n 3, 1) := by decide +kernel
theorem dX8_undone_31 : decode cX8_undone 31 = .ok (.aload_n 0, 1) := by decide +kernel
theorem dX8_undone_32 : decode cX8_undone 32 = .ok (.aload_n 3, 1) := by decide +kernel
theorem dX8_undone_33 : decode cX8_undone 33 = .ok (.getfield 174, 3) := by decide +kernel
theorem dX8_undone_36 : decode cX8_undone 36 = .ok (.invokevirtual 138, 3) := by decide +kernel
theorem dX8_undone_39 : decode cX8_undone 39 = .ok (.goto 9, 3) := by decide +kernel
theorem dX8_undone_42 : decode cX8_undone 42 = .ok (.aload_n 0, 1) := by decide +kernel
theorem dX8_undone_43 : decode cX8_undone 43 = .ok (.bipush 6, 2) := by decide +kernel
theorem dX8_undone_45 : decode cX8_undone 45 = .ok (.invokevirtual 46, 3) := by decide +kernel
theorem dX8_undone_48 : decode cX8_undone 48 = .ok (.ireturn, 1) := by decide +kernel
theorem dX8_later_0 : decode cX8_later 0 = .ok (.aload_n 0, 1) := by decide +kernel
theorem dX8_later_1 : decode cX8_later 1 = .ok (.getfield 12, 3) := by decide +kernel
theorem dX8_later_4 : decode cX8_later 4 = .ok (.iload_n 1, 1) := by decide +kernel
theorem dX8_later_5 : decode cX8_later 5 = .ok (.invokevirtual 109, 3) := by decide +kernel
theorem dX8_later_8 : decode cX8_later 8 = .ok (.astore_n 3, 1) := by decide +kernel
theorem dX8_later_9 : decode cX8_later 9 = .ok (.aload_n 0, 1) := by decide +kernel
theorem dX8_later_10 : decode cX8_later 10 = .ok (.getfield 12, 3) := by decide +kernel
theorem dX8_later_13 : decode cX8_later 13 = .ok (.iload_n 2, 1) := by decide +kernel
theorem dX8_later_14 : decode cX8_later 14 = .ok (.invokevirtual 109, 3) := by decide +kernel
theorem dX8_later_17 : decode cX8_later 17 = .ok (.astore 4, 2) := by decide +kernel
theorem dX8_later_19 : decode cX8_later 19 = .ok (.aload_n 3, 1) := by decide +kernel
theorem dX8_later_20 : decode cX8_later 20 = .ok (.ifnull 21, 3) := by decide +kernel
theorem dX8_later_23 : decode cX8_later 23 = .ok (.aload 4, 2) := by decide +kernel
theorem dX8_later_25 : decode cX8_later 25 = .ok (.ifnull 16, 3) := by decide +kernel
theorem dX8_later_28 : decode cX8_later 28 = .ok (.aload_n 3, 1) := by decide +kernel
theorem dX8_later_29 : decode cX8_later 29 = .ok (.aload 4, 2) := by decide +kernel
theorem dX8_later_31 : decode cX8_later 31 = .ok (.invokevirtual 177, 3) := by decide +kernel
theorem dX8_later_34 : decode cX8_later 34 = .ok (.ifCond .eq 7, 3) := by decide +kernel
theorem dX8_later_37 : decode cX8_later 37 = .ok (.iconst 1, 1) := by decide +kernel
theorem dX8_later_38 : decode cX8_later 38 = .ok (.goto 4, 3) := by decide +kernel
theorem dX8_later_41 : decode cX8_later 41 = .ok (.iconst 0, 1) := by decide +kernel
theorem dX8_later_42 : decode cX8_later 42 = .ok (.ireturn, 1) := by decide +kernel
theorem dX8_length_0 : decode cX8_length 0 = .ok (.aload_n 0, 1) := by decide +kernel
theorem dX8_length_1 : decode cX8_length 1 = .ok (.iload_n 1, 1) := by decide +kernel
theorem dX8_length_2 : decode cX8_length 2 = .ok (.invokevirtual 180, 3) := by decide +kernel
theorem dX8_length_5 : decode cX8_length 5 = .ok (.ifCond .eq 13, 3) := by decide +kernel
theorem dX8_length_8 : decode cX8_length 8 = .ok (.aload_n 0, 1) := by decide +kernel
theorem dX8_length_9 : decode cX8_length 9 = .ok (.getfield 30, 3) := by decide +kernel
theorem dX8_length_12 : decode cX8_length 12 = .ok (.getfield 58, 3) := by decide +kernel
theorem dX8_length_15 : decode cX8_length 15 = .ok (.goto 4, 3) := by decide +kernel
theorem dX8_length_18 : decode cX8_length 18 = .ok (.iconst (-1), 1) := by decide +kernel
theorem dX8_length_19 : decode cX8_length 19 = .ok (.ireturn, 1) := by decide +kernel
theorem dX8_text_0 : decode cX8_text 0 = .ok (.aload_n 0, 1) := by decide +kernel
theorem dX8_text_1 : decode cX8_text 1 = .ok (.iload_n 1, 1) := by decide +kernel
theorem dX8_text_2 : decode cX8_text 2 = .ok (.invokevirtual 180, 3) := by decide +kernel
theorem dX8_text_5 : decode cX8_text 5 = .ok (.ifCond .eq 14, 3) := by decide +kernel
theorem dX8_text_8 : decode cX8_text 8 = .ok (.aload_n 0, 1) := by decide +kernel
theorem dX8_text_9 : decode cX8_text 9 = .ok (.getfield 30, 3) := by decide +kernel
theorem dX8_text_12 : decode cX8_text 12 = .ok (.iload_n 2, 1) := by decide +kernel
theorem dX8_text_13 : decode cX8_text 13 = .ok (.invokevirtual 182, 3) := by decide +kernel
theorem dX8_text_16 : decode cX8_text 16 = .ok (.ifCond .ne 5, 3) := by decide +kernel
theorem dX8_text_19 : decode cX8_text 19 = .ok (.iconst (-1), 1) := by decide +kernel
theorem dX8_text_20 : decode cX8_text 20 = .ok (.ireturn, 1) := by decide +kernel
theorem dX8_text_21 : decode cX8_text 21 = .ok (.iload_n 3, 1) := by decide +kernel
theorem dX8_text_22 : decode cX8_text 22 = .ok (.tableswitch 87 0 3 #[30, 46, 55, 71], 30) := by decide +kernel
theorem dX8_text_52 : decode cX8_text 52 = .ok (.aload_n 0, 1) := by decide +kernel
theorem dX8_text_53 : decode cX8_text 53 = .ok (.getfield 12, 3) := by decide +kernel
theorem dX8_text_56 : decode cX8_text 56 = .ok (.aload_n 0, 1) := by decide +kernel
theorem dX8_text_57 : decode cX8_text 57 = .ok (.getfield 30, 3) := by decide +kernel
theorem dX8_text_60 : decode cX8_text 60 = .ok (.iload_n 2, 1) := by decide +kernel
theorem dX8_text_61 : decode cX8_text 61 = .ok (.invokevirtual 69, 3) := by decide +kernel
theorem dX8_text_64 : decode cX8_text 64 = .ok (.invokevirtual 185, 3) := by decide +kernel
theorem dX8_text_67 : decode cX8_text 67 = .ok (.ireturn, 1) := by decide +kernel
theorem dX8_text_68 : decode cX8_text 68 = .ok (.aload_n 0, 1) := by decide +kernel
theorem dX8_text_69 : decode cX8_text 69 = .ok (.getfield 30, 3) := by decide +kernel
theorem dX8_text_72 : decode cX8_text 72 = .ok (.iload_n 2, 1) := by decide +kernel
theorem dX8_text_73 : decode cX8_text 73 = .ok (.invokevirtual 69, 3) := by decide +kernel
theorem dX8_text_76 : decode cX8_text 76 = .ok (.ireturn, 1) := by decide +kernel
theorem dX8_text_77 : decode cX8_text 77 = .ok (.aload_n 0, 1) := by decide +kernel
theorem dX8_text_78 : decode cX8_text 78 = .ok (.getfield 30, 3) := by decide +kernel
theorem dX8_text_81 : decode cX8_text 81 = .ok (.invokevirtual 188, 3) := by decide +kernel
theorem dX8_text_84 : decode cX8_text 84 = .ok (.aload_n 0, 1) := by decide +kernel
theorem dX8_text_85 : decode cX8_text 85 = .ok (.getfield 30, 3) := by decide +kernel
theorem dX8_text_88 : decode cX8_text 88 = .ok (.iload_n 2, 1) := by decide +kernel
theorem dX8_text_89 : decode cX8_text 89 = .ok (.invokevirtual 191, 3) := by decide +kernel
theorem dX8_text_92 : decode cX8_text 92 = .ok (.ireturn, 1) := by decide +kernel
theorem dX8_text_93 : decode cX8_text 93 = .ok (.aload_n 0, 1) := by decide +kernel
theorem dX8_text_94 : decode cX8_text 94 = .ok (.getfield 12, 3) := by decide +kernel
theorem dX8_text_97 : decode cX8_text 97 = .ok (.aload_n 0, 1) := by decide +kernel
theorem dX8_text_98 : decode cX8_text 98 = .ok (.getfield 30, 3) := by decide +kernel
theorem dX8_text_101 : decode cX8_text 101 = .ok (.iload_n 2, 1) := by decide +kernel
theorem dX8_text_102 : decode cX8_text 102 = .ok (.invokevirtual 69, 3) := by decide +kernel
theorem dX8_text_105 : decode cX8_text 105 = .ok (.invokevirtual 194, 3) := by decide +kernel
theorem dX8_text_108 : decode cX8_text 108 = .ok (.ireturn, 1) := by decide +kernel
theorem dX8_text_109 : decode cX8_text 109 = .ok (.iconst (-1), 1) := by decide +kernel
theorem dX8_text_110 : decode cX8_text 110 = .ok (.ireturn, 1) := by decide +kernel
theorem dX8_signs_0 : decode cX8_signs 0 = .ok (.aload_n 0, 1) := by decide +kernel
theorem dX8_signs_1 : decode cX8_signs 1 = .ok (.iload_n 1, 1) := by decide +kernel
theorem dX8_signs_2 : decode cX8_signs 2 = .ok (.invokevirtual 180, 3) := by decide +kernel
theorem dX8_signs_5 : decode cX8_signs 5 = .ok (.ifCond .eq 13, 3) := by decide +kernel
theorem dX8_signs_8 : decode cX8_signs 8 = .ok (.aload_n 0, 1) := by decide +kernel
theorem dX8_signs_9 : decode cX8_signs 9 = .ok (.getfield 30, 3) := by decide +kernel
theorem dX8_signs_12 : decode cX8_signs 12 = .ok (.getfield 197, 3) := by decide +kernel
theorem dX8_signs_15 : decode cX8_signs 15 = .ok (.goto 4, 3) := by decide +kernel
theorem dX8_signs_18 : decode cX8_signs 18 = .ok (.iconst (-1), 1) := by decide +kernel
theorem dX8_signs_19 : decode cX8_signs 19 = .ok (.ireturn, 1) := by decide +kernel
theorem dX8_order_0 : decode cX8_order 0 = .ok (.aload_n 0, 1) := by decide +kernel
theorem dX8_order_1 : decode cX8_order 1 = .ok (.iload_n 1, 1) := by decide +kernel
theorem dX8_order_2 : decode cX8_order 2 = .ok (.invokevirtual 180, 3) := by decide +kernel
theorem dX8_order_5 : decode cX8_order 5 = .ok (.ifCond .eq 30, 3) := by decide +kernel
theorem dX8_order_8 : decode cX8_order 8 = .ok (.iload_n 2, 1) := by decide +kernel
theorem dX8_order_9 : decode cX8_order 9 = .ok (.ifCond .lt 26, 3) := by decide +kernel
theorem dX8_order_12 : decode cX8_order 12 = .ok (.iload_n 2, 1) := by decide +kernel
theorem dX8_order_13 : decode cX8_order 13 = .ok (.aload_n 0, 1) := by decide +kernel
theorem dX8_order_14 : decode cX8_order 14 = .ok (.getfield 30, 3) := by decide +kernel
theorem dX8_order_17 : decode cX8_order 17 = .ok (.getfield 197, 3) := by decide +kernel
theorem dX8_order_20 : decode cX8_order 20 = .ok (.if_icmp .ge 15, 3) := by decide +kernel
theorem dX8_order_23 : decode cX8_order 23 = .ok (.aload_n 0, 1) := by decide +kernel
theorem dX8_order_24 : decode cX8_order 24 = .ok (.getfield 30, 3) := by decide +kernel
theorem dX8_order_27 : decode cX8_order 27 = .ok (.getfield 200, 3) := by decide +kernel
theorem dX8_order_30 : decode cX8_order 30 = .ok (.iload_n 2, 1) := by decide +kernel
theorem dX8_order_31 : decode cX8_order 31 = .ok (.iaload, 1) := by decide +kernel
theorem dX8_order_32 : decode cX8_order 32 = .ok (.goto 4, 3) := by decide +kernel
theorem dX8_order_35 : decode cX8_order 35 = .ok (.iconst (-1), 1) := by decide +kernel
theorem dX8_order_36 : decode cX8_order 36 = .ok (.ireturn, 1) := by decide +kernel
theorem dX8_place_0 : decode cX8_place 0 = .ok (.aload_n 0, 1) := by decide +kernel
theorem dX8_place_1 : decode cX8_place 1 = .ok (.iload_n 1, 1) := by decide +kernel
theorem dX8_place_2 : decode cX8_place 2 = .ok (.invokevirtual 180, 3) := by decide +kernel
theorem dX8_place_5 : decode cX8_place 5 = .ok (.ifCond .eq 14, 3) := by decide +kernel
theorem dX8_place_8 : decode cX8_place 8 = .ok (.aload_n 0, 1) := by decide +kernel
theorem dX8_place_9 : decode cX8_place 9 = .ok (.getfield 30, 3) := by decide +kernel
theorem dX8_place_12 : decode cX8_place 12 = .ok (.iload_n 2, 1) := by decide +kernel
theorem dX8_place_13 : decode cX8_place 13 = .ok (.invokevirtual 203, 3) := by decide +kernel
theorem dX8_place_16 : decode cX8_place 16 = .ok (.goto 4, 3) := by decide +kernel
theorem dX8_place_19 : decode cX8_place 19 = .ok (.iconst (-1), 1) := by decide +kernel
theorem dX8_place_20 : decode cX8_place 20 = .ok (.istore_n 3, 1) := by decide +kernel
theorem dX8_place_21 : decode cX8_place 21 = .ok (.iload_n 3, 1) := by decide +kernel
theorem dX8_place_22 : decode cX8_place 22 = .ok (.iconst (-1), 1) := by decide +kernel
theorem dX8_place_23 : decode cX8_place 23 = .ok (.if_icmp .ne 6, 3) := by decide +kernel
theorem dX8_place_26 : decode cX8_place 26 = .ok (.bipush (-3), 2) := by decide +kernel
theorem dX8_place_28 : decode cX8_place 28 = .ok (.ireturn, 1) := by decide +kernel
theorem dX8_place_29 : decode cX8_place 29 = .ok (.aload_n 0, 1) := by decide +kernel
theorem dX8_place_30 : decode cX8_place 30 = .ok (.getfield 30, 3) := by decide +kernel
theorem dX8_place_33 : decode cX8_place 33 = .ok (.iload_n 3, 1) := by decide +kernel
theorem dX8_place_34 : decode cX8_place 34 = .ok (.invokevirtual 206, 3) := by decide +kernel
theorem dX8_place_37 : decode cX8_place 37 = .ok (.ifCond .eq 15, 3) := by decide +kernel
theorem dX8_place_40 : decode cX8_place 40 = .ok (.aload_n 0, 1) := by decide +kernel
theorem dX8_place_41 : decode cX8_place 41 = .ok (.getfield 30, 3) := by decide +kernel
theorem dX8_place_44 : decode cX8_place 44 = .ok (.getfield 209, 3) := by decide +kernel
theorem dX8_place_47 : decode cX8_place 47 = .ok (.iload_n 3, 1) := by decide +kernel
theorem dX8_place_48 : decode cX8_place 48 = .ok (.iaload, 1) := by decide +kernel
theorem dX8_place_49 : decode cX8_place 49 = .ok (.goto 5, 3) := by decide +kernel
theorem dX8_place_52 : decode cX8_place 52 = .ok (.bipush (-2), 2) := by decide +kernel
theorem dX8_place_54 : decode cX8_place 54 = .ok (.ireturn, 1) := by decide +kernel
theorem dX8_strikers_0 : decode cX8_strikers 0 = .ok (.aload_n 0, 1) := by decide +kernel
theorem dX8_strikers_1 : decode cX8_strikers 1 = .ok (.iload_n 1, 1) := by decide +kernel
theorem dX8_strikers_2 : decode cX8_strikers 2 = .ok (.invokevirtual 180, 3) := by decide +kernel
theorem dX8_strikers_5 : decode cX8_strikers 5 = .ok (.ifCond .eq 14, 3) := by decide +kernel
theorem dX8_strikers_8 : decode cX8_strikers 8 = .ok (.aload_n 0, 1) := by decide +kernel
theorem dX8_strikers_9 : decode cX8_strikers 9 = .ok (.getfield 30, 3) := by decide +kernel
theorem dX8_strikers_12 : decode cX8_strikers 12 = .ok (.iload_n 2, 1) := by decide +kernel
theorem dX8_strikers_13 : decode cX8_strikers 13 = .ok (.invokevirtual 203, 3) := by decide +kernel
theorem dX8_strikers_16 : decode cX8_strikers 16 = .ok (.goto 4, 3) := by decide +kernel
theorem dX8_strikers_19 : decode cX8_strikers 19 = .ok (.iconst (-1), 1) := by decide +kernel
theorem dX8_strikers_20 : decode cX8_strikers 20 = .ok (.istore_n 3, 1) := by decide +kernel
theorem dX8_strikers_21 : decode cX8_strikers 21 = .ok (.iload_n 3, 1) := by decide +kernel
theorem dX8_strikers_22 : decode cX8_strikers 22 = .ok (.iconst (-1), 1) := by decide +kernel
theorem dX8_strikers_23 : decode cX8_strikers 23 = .ok (.if_icmp .ne 7, 3) := by decide +kernel
theorem dX8_strikers_26 : decode cX8_strikers 26 = .ok (.iconst (-1), 1) := by decide +kernel
theorem dX8_strikers_27 : decode cX8_strikers 27 = .ok (.goto 12, 3) := by decide +kernel
theorem dX8_strikers_30 : decode cX8_strikers 30 = .ok (.aload_n 0, 1) := by decide +kernel
theorem dX8_strikers_31 : decode cX8_strikers 31 = .ok (.getfield 30, 3) := by decide +kernel
theorem dX8_strikers_34 : decode cX8_strikers 34 = .ok (.getfield 212, 3) := by decide +kernel
theorem dX8_strikers_37 : decode cX8_strikers 37 = .ok (.iload_n 3, 1) := by decide +kernel
theorem dX8_strikers_38 : decode cX8_strikers 38 = .ok (.iaload, 1) := by decide +kernel
theorem dX8_strikers_39 : decode cX8_strikers 39 = .ok (.ireturn, 1) := by decide +kernel
theorem dX8_spans_0 : decode cX8_spans 0 = .ok (.iload_n 2, 1) := by decide +kernel
theorem dX8_spans_1 : decode cX8_spans 1 = .ok (.invokestatic 97, 3) := by decide +kernel
theorem dX8_spans_4 : decode cX8_spans 4 = .ok (.ifCond .eq 11, 3) := by decide +kernel
theorem dX8_spans_7 : decode cX8_spans 7 = .ok (.aload_n 0, 1) := by decide +kernel
theorem dX8_spans_8 : decode cX8_spans 8 = .ok (.iload_n 1, 1) := by decide +kernel
theorem dX8_spans_9 : decode cX8_spans 9 = .ok (.invokevirtual 180, 3) := by decide +kernel
theorem dX8_spans_12 : decode cX8_spans 12 = .ok (.ifCond .ne 5, 3) := by decide +kernel
theorem dX8_spans_15 : decode cX8_spans 15 = .ok (.iconst (-1), 1) := by decide +kernel
theorem dX8_spans_16 : decode cX8_spans 16 = .ok (.ireturn, 1) := by decide +kernel
theorem dX8_spans_17 : decode cX8_spans 17 = .ok (.aload_n 0, 1) := by decide +kernel
theorem dX8_spans_18 : decode cX8_spans 18 = .ok (.getfield 30, 3) := by decide +kernel
theorem dX8_spans_21 : decode cX8_spans 21 = .ok (.invokevirtual 188, 3) := by decide +kernel
theorem dX8_spans_24 : decode cX8_spans 24 = .ok (.aload_n 0, 1) := by decide +kernel
theorem dX8_spans_25 : decode cX8_spans 25 = .ok (.getfield 30, 3) := by decide +kernel
theorem dX8_spans_28 : decode cX8_spans 28 = .ok (.iload_n 2, 1) := by decide +kernel
theorem dX8_spans_29 : decode cX8_spans 29 = .ok (.invokevirtual 215, 3) := by decide +kernel
theorem dX8_spans_32 : decode cX8_spans 32 = .ok (.ireturn, 1) := by decide +kernel
theorem dX8_history_0 : decode cX8_history 0 = .ok (.aload_n 0, 1) := by decide +kernel
theorem dX8_history_1 : decode cX8_history 1 = .ok (.iload_n 1, 1) := by decide +kernel
theorem dX8_history_2 : decode cX8_history 2 = .ok (.invokevirtual 42, 3) := by decide +kernel
theorem dX8_history_5 : decode cX8_history 5 = .ok (.astore_n 3, 1) := by decide +kernel
theorem dX8_history_6 : decode cX8_history 6 = .ok (.aload_n 3, 1) := by decide +kernel
theorem dX8_history_7 : decode cX8_history 7 = .ok (.ifnull 7, 3) := by decide +kernel
theorem dX8_history_10 : decode cX8_history 10 = .ok (.iload_n 2, 1) := by decide +kernel
theorem dX8_history_11 : decode cX8_history 11 = .ok (.ifCond .ge 5, 3) := by decide +kernel
theorem dX8_history_14 : decode cX8_history 14 = .ok (.iconst (-1), 1) := by decide +kernel
theorem dX8_history_15 : decode cX8_history 15 = .ok (.ireturn, 1) := by decide +kernel
theorem dX8_history_16 : decode cX8_history 16 = .ok (.iconst 0, 1) := by decide +kernel
theorem dX8_history_17 : decode cX8_history 17 = .ok (.istore 4, 2) := by decide +kernel
theorem dX8_history_19 : decode cX8_history 19 = .ok (.iconst 0, 1) := by decide +kernel
theorem dX8_history_20 : decode cX8_history 20 = .ok (.istore 5, 2) := by decide +kernel
theorem dX8_history_22 : decode cX8_history 22 = .ok (.iload 5, 2) := by decide +kernel
theorem dX8_history_24 : decode cX8_history 24 = .ok (.aload_n 0, 1) := by decide +kernel
theorem dX8_history_25 : decode cX8_history 25 = .ok (.getfield 12, 3) := by decide +kernel
theorem dX8_history_28 : decode cX8_history 28 = .ok (.getfield 74, 3) := by decide +kernel
theorem dX8_history_31 : decode cX8_history 31 = .ok (.if_icmp .ge 45, 3) := by decide +kernel
theorem dX8_history_34 : decode cX8_history 34 = .ok (.aload_n 0, 1) := by decide +kernel
theorem dX8_history_35 : decode cX8_history 35 = .ok (.getfield 12, 3) := by decide +kernel
theorem dX8_history_38 : decode cX8_history 38 = .ok (.getfield 218, 3) := by decide +kernel
theorem dX8_history_41 : decode cX8_history 41 = .ok (.iload 5, 2) := by decide +kernel
theorem dX8_history_43 : decode cX8_history 43 = .ok (.aaload, 1) := by decide +kernel
theorem dX8_history_44 : decode cX8_history 44 = .ok (.astore 6, 2) := by decide +kernel
theorem dX8_history_46 : decode cX8_history 46 = .ok (.aload_n 3, 1) := by decide +kernel
theorem dX8_history_47 : decode cX8_history 47 = .ok (.aload 6, 2) := by decide +kernel
theorem dX8_history_49 : decode cX8_history 49 = .ok (.invokevirtual 145, 3) := by decide +kernel
theorem dX8_history_52 : decode cX8_history 52 = .ok (.ifCond .eq 18, 3) := by decide +kernel
theorem dX8_history_55 : decode cX8_history 55 = .ok (.iload 4, 2) := by decide +kernel
theorem dX8_history_57 : decode cX8_history 57 = .ok (.iload_n 2, 1) := by decide +kernel
theorem dX8_history_58 : decode cX8_history 58 = .ok (.if_icmp .ne 9, 3) := by decide +kernel
theorem dX8_history_61 : decode cX8_history 61 = .ok (.aload 6, 2) := by decide +kernel
theorem dX8_history_63 : decode cX8_history 63 = .ok (.getfield 124, 3) := by decide +kernel
theorem dX8_history_66 : decode cX8_history 66 = .ok (.ireturn, 1) := by decide +kernel
theorem dX8_history_67 : decode cX8_history 67 = .ok (.iinc 4 1, 3) := by decide +kernel
theorem dX8_history_70 : decode cX8_history 70 = .ok (.iinc 5 1, 3) := by decide +kernel
theorem dX8_history_73 : decode cX8_history 73 = .ok (.goto (-51), 3) := by decide +kernel
theorem dX8_history_76 : decode cX8_history 76 = .ok (.iconst (-1), 1) := by decide +kernel
theorem dX8_history_77 : decode cX8_history 77 = .ok (.ireturn, 1) := by decide +kernel
theorem dX8_asOf_0 : decode cX8_asOf 0 = .ok (.aload_n 0, 1) := by decide +kernel
theorem dX8_asOf_1 : decode cX8_asOf 1 = .ok (.iload_n 1, 1) := by decide +kernel
theorem dX8_asOf_2 : decode cX8_asOf 2 = .ok (.invokevirtual 42, 3) := by decide +kernel
theorem dX8_asOf_5 : decode cX8_asOf 5 = .ok (.astore 4, 2) := by decide +kernel
theorem dX8_asOf_7 : decode cX8_asOf 7 = .ok (.aload 4, 2) := by decide +kernel
theorem dX8_asOf_9 : decode cX8_asOf 9 = .ok (.ifnonnull 5, 3) := by decide +kernel
theorem dX8_asOf_12 : decode cX8_asOf 12 = .ok (.iconst (-1), 1) := by decide +kernel
theorem dX8_asOf_13 : decode cX8_asOf 13 = .ok (.ireturn, 1) := by decide +kernel
theorem dX8_asOf_14 : decode cX8_asOf 14 = .ok (.aload_n 0, 1) := by decide +kernel
theorem dX8_asOf_15 : decode cX8_asOf 15 = .ok (.getfield 30, 3) := by decide +kernel
theorem dX8_asOf_18 : decode cX8_asOf 18 = .ok (.aload 4, 2) := by decide +kernel
theorem dX8_asOf_20 : decode cX8_asOf 20 = .ok (.iload_n 2, 1) := by decide +kernel
theorem dX8_asOf_21 : decode cX8_asOf 21 = .ok (.invokevirtual 50, 3) := by decide +kernel
theorem dX8_asOf_24 : decode cX8_asOf 24 = .ok (.aload_n 0, 1) := by decide +kernel
theorem dX8_asOf_25 : decode cX8_asOf 25 = .ok (.getfield 30, 3) := by decide +kernel
theorem dX8_asOf_28 : decode cX8_asOf 28 = .ok (.iload_n 3, 1) := by decide +kernel
theorem dX8_asOf_29 : decode cX8_asOf 29 = .ok (.invokevirtual 182, 3) := by decide +kernel
theorem dX8_asOf_32 : decode cX8_asOf 32 = .ok (.ifCond .eq 21, 3) := by decide +kernel
theorem dX8_asOf_35 : decode cX8_asOf 35 = .ok (.aload_n 0, 1) := by decide +kernel
theorem dX8_asOf_36 : decode cX8_asOf 36 = .ok (.getfield 12, 3) := by decide +kernel
theorem dX8_asOf_39 : decode cX8_asOf 39 = .ok (.aload_n 0, 1) := by decide +kernel
theorem dX8_asOf_40 : decode cX8_asOf 40 = .ok (.getfield 30, 3) := by decide +kernel
theorem dX8_asOf_43 : decode cX8_asOf 43 = .ok (.iload_n 3, 1) := by decide +kernel
theorem dX8_asOf_44 : decode cX8_asOf 44 = .ok (.invokevirtual 69, 3) := by decide +kernel
theorem dX8_asOf_47 : decode cX8_asOf 47 = .ok (.invokevirtual 185, 3) := by decide +kernel
theorem dX8_asOf_50 : decode cX8_asOf 50 = .ok (.goto 4, 3) := by decide +kernel
theorem dX8_asOf_53 : decode cX8_asOf 53 = .ok (.iconst (-1), 1) := by decide +kernel
theorem dX8_asOf_54 : decode cX8_asOf 54 = .ok (.ireturn, 1) := by decide +kernel
theorem dX8_unlike_0 : decode cX8_unlike 0 = .ok (.aload_n 0, 1) := by decide +kernel
theorem dX8_unlike_1 : decode cX8_unlike 1 = .ok (.iload_n 1, 1) := by decide +kernel
theorem dX8_unlike_2 : decode cX8_unlike 2 = .ok (.invokevirtual 42, 3) := by decide +kernel
theorem dX8_unlike_5 : decode cX8_unlike 5 = .ok (.astore_n 3, 1) := by decide +kernel
theorem dX8_unlike_6 : decode cX8_unlike 6 = .ok (.aload_n 0, 1) := by decide +kernel
theorem dX8_unlike_7 : decode cX8_unlike 7 = .ok (.iload_n 2, 1) := by decide +kernel
theorem dX8_unlike_8 : decode cX8_unlike 8 = .ok (.invokevirtual 42, 3) := by decide +kernel
theorem dX8_unlike_11 : decode cX8_unlike 11 = .ok (.astore 4, 2) := by decide +kernel
theorem dX8_unlike_13 : decode cX8_unlike 13 = .ok (.aload_n 3, 1) := by decide +kernel
theorem dX8_unlike_14 : decode cX8_unlike 14 = .ok (.ifnull 8, 3) := by decide +kernel
theorem dX8_unlike_17 : decode cX8_unlike 17 = .ok (.aload 4, 2) := by decide +kernel
theorem dX8_unlike_19 : decode cX8_unlike 19 = .ok (.ifnonnull 5, 3) := by decide +kernel
theorem dX8_unlike_22 : decode cX8_unlike 22 = .ok (.iconst (-1), 1) := by decide +kernel
theorem dX8_unlike_23 : decode cX8_unlike 23 = .ok (.ireturn, 1) := by decide +kernel
theorem dX8_unlike_24 : decode cX8_unlike 24 = .ok (.aload_n 0, 1) := by decide +kernel
theorem dX8_unlike_25 : decode cX8_unlike 25 = .ok (.aload_n 3, 1) := by decide +kernel
theorem dX8_unlike_26 : decode cX8_unlike 26 = .ok (.aload 4, 2) := by decide +kernel
theorem dX8_unlike_28 : decode cX8_unlike 28 = .ok (.invokevirtual 221, 3) := by decide +kernel
theorem dX8_unlike_31 : decode cX8_unlike 31 = .ok (.ifCond .eq 7, 3) := by decide +kernel
theorem dX8_unlike_34 : decode cX8_unlike 34 = .ok (.iconst 0, 1) := by decide +kernel
theorem dX8_unlike_35 : decode cX8_unlike 35 = .ok (.goto 12, 3) := by decide +kernel
theorem dX8_unlike_38 : decode cX8_unlike 38 = .ok (.iconst 1, 1) := by decide +kernel
theorem dX8_unlike_39 : decode cX8_unlike 39 = .ok (.aload_n 0, 1) := by decide +kernel
theorem dX8_unlike_40 : decode cX8_unlike 40 = .ok (.aload_n 3, 1) := by decide +kernel
theorem dX8_unlike_41 : decode cX8_unlike 41 = .ok (.aload 4, 2) := by decide +kernel
theorem dX8_unlike_43 : decode cX8_unlike 43 = .ok (.invokevirtual 225, 3) := by decide +kernel
theorem dX8_unlike_46 : decode cX8_unlike 46 = .ok (.iadd, 1) := by decide +kernel
theorem dX8_unlike_47 : decode cX8_unlike 47 = .ok (.ireturn, 1) := by decide +kernel
theorem dX8_cursor_0 : decode cX8_cursor 0 = .ok (.aload_n 0, 1) := by decide +kernel
theorem dX8_cursor_1 : decode cX8_cursor 1 = .ok (.iload_n 1, 1) := by decide +kernel
theorem dX8_cursor_2 : decode cX8_cursor 2 = .ok (.invokevirtual 42, 3) := by decide +kernel
theorem dX8_cursor_5 : decode cX8_cursor 5 = .ok (.astore 5, 2) := by decide +kernel
theorem dX8_cursor_7 : decode cX8_cursor 7 = .ok (.aload 5, 2) := by decide +kernel
theorem dX8_cursor_9 : decode cX8_cursor 9 = .ok (.ifnull 21, 3) := by decide +kernel
theorem dX8_cursor_12 : decode cX8_cursor 12 = .ok (.iload_n 2, 1) := by decide +kernel
theorem dX8_cursor_13 : decode cX8_cursor 13 = .ok (.invokestatic 229, 3) := by decide +kernel
theorem dX8_cursor_16 : decode cX8_cursor 16 = .ok (.ifCond .eq 14, 3) := by decide +kernel
theorem dX8_cursor_19 : decode cX8_cursor 19 = .ok (.iload 4, 2) := by decide +kernel
theorem dX8_cursor_21 : decode cX8_cursor 21 = .ok (.ifCond .lt 9, 3) := by decide +kernel
theorem dX8_cursor_24 : decode cX8_cursor 24 = .ok (.iload 4, 2) := by decide +kernel
theorem dX8_cursor_26 : decode cX8_cursor 26 = .ok (.iconst 1, 1) := by decide +kernel
theorem dX8_cursor_27 : decode cX8_cursor 27 = .ok (.if_icmp .le 9, 3) := by decide +kernel
theorem dX8_cursor_30 : decode cX8_cursor 30 = .ok (.aload_n 0, 1) := by decide +kernel
theorem dX8_cursor_31 : decode cX8_cursor 31 = .ok (.iconst 1, 1) := by decide +kernel
theorem dX8_cursor_32 : decode cX8_cursor 32 = .ok (.invokevirtual 46, 3) := by decide +kernel
theorem dX8_cursor_35 : decode cX8_cursor 35 = .ok (.ireturn, 1) := by decide +kernel
theorem dX8_cursor_36 : decode cX8_cursor 36 = .ok (.aload_n 0, 1) := by decide +kernel
theorem dX8_cursor_37 : decode cX8_cursor 37 = .ok (.getfield 30, 3) := by decide +kernel
theorem dX8_cursor_40 : decode cX8_cursor 40 = .ok (.aload 5, 2) := by decide +kernel
theorem dX8_cursor_42 : decode cX8_cursor 42 = .ok (.sipush 256, 3) := by decide +kernel
theorem dX8_cursor_45 : decode cX8_cursor 45 = .ok (.invokevirtual 50, 3) := by decide +kernel
theorem dX8_cursor_48 : decode cX8_cursor 48 = .ok (.iload_n 3, 1) := by decide +kernel
theorem dX8_cursor_49 : decode cX8_cursor 49 = .ok (.ifCond .lt 14, 3) := by decide +kernel
theorem dX8_cursor_52 : decode cX8_cursor 52 = .ok (.iload_n 3, 1) := by decide +kernel
theorem dX8_cursor_53 : decode cX8_cursor 53 = .ok (.aload_n 0, 1) := by decide +kernel
theorem dX8_cursor_54 : decode cX8_cursor 54 = .ok (.getfield 30, 3) := by decide +kernel
theorem dX8_cursor_57 : decode cX8_cursor 57 = .ok (.getfield 58, 3) := by decide +kernel
theorem dX8_cursor_60 : decode cX8_cursor 60 = .ok (.if_icmp .le 9, 3) := by decide +kernel
theorem dX8_cursor_63 : decode cX8_cursor 63 = .ok (.aload_n 0, 1) := by decide +kernel
theorem dX8_cursor_64 : decode cX8_cursor 64 = .ok (.iconst 1, 1) := by decide +kernel
theorem dX8_cursor_65 : decode cX8_cursor 65 = .ok (.invokevirtual 46, 3) := by decide +kernel
theorem dX8_cursor_68 : decode cX8_cursor 68 = .ok (.ireturn, 1) := by decide +kernel
theorem dX8_cursor_69 : decode cX8_cursor 69 = .ok (.iload 4, 2) := by decide +kernel
theorem dX8_cursor_71 : decode cX8_cursor 71 = .ok (.ifCond .ne 9, 3) := by decide +kernel
theorem dX8_cursor_74 : decode cX8_cursor 74 = .ok (.iload_n 3, 1) := by decide +kernel
theorem dX8_cursor_75 : decode cX8_cursor 75 = .ok (.iconst 1, 1) := by decide +kernel
theorem dX8_cursor_76 : decode cX8_cursor 76 = .ok (.isub, 1) := by decide +kernel
theorem dX8_cursor_77 : decode cX8_cursor 77 = .ok (.goto 4, 3) := by decide +kernel
theorem dX8_cursor_80 : decode cX8_cursor 80 = .ok (.iload_n 3, 1) := by decide +kernel
theorem dX8_cursor_81 : decode cX8_cursor 81 = .ok (.istore 6, 2) := by decide +kernel
theorem dX8_cursor_83 : decode cX8_cursor 83 = .ok (.aload 5, 2) := by decide +kernel
theorem dX8_cursor_85 : decode cX8_cursor 85 = .ok (.getfield 232, 3) := by decide +kernel
theorem dX8_cursor_88 : decode cX8_cursor 88 = .ok (.iload_n 2, 1) := by decide +kernel
theorem dX8_cursor_89 : decode cX8_cursor 89 = .ok (.aload_n 0, 1) := by decide +kernel
theorem dX8_cursor_90 : decode cX8_cursor 90 = .ok (.getfield 30, 3) := by decide +kernel
theorem dX8_cursor_93 : decode cX8_cursor 93 = .ok (.iload 6, 2) := by decide +kernel
theorem dX8_cursor_95 : decode cX8_cursor 95 = .ok (.invokevirtual 182, 3) := by decide +kernel
theorem dX8_cursor_98 : decode cX8_cursor 98 = .ok (.ifCond .eq 15, 3) := by decide +kernel
theorem dX8_cursor_101 : decode cX8_cursor 101 = .ok (.aload_n 0, 1) := by decide +kernel
theorem dX8_cursor_102 : decode cX8_cursor 102 = .ok (.getfield 30, 3) := by decide +kernel
theorem dX8_cursor_105 : decode cX8_cursor 105 = .ok (.iload 6, 2) := by decide +kernel
theorem dX8_cursor_107 : decode cX8_cursor 107 = .ok (.invokevirtual 69, 3) := by decide +kernel
theorem dX8_cursor_110 : decode cX8_cursor 110 = .ok (.goto 5, 3) := by decide +kernel
theorem dX8_cursor_113 : decode cX8_cursor 113 = .ok (.bipush (-2), 2) := by decide +kernel
theorem dX8_cursor_115 : decode cX8_cursor 115 = .ok (.iastore, 1) := by decide +kernel
theorem dX8_cursor_116 : decode cX8_cursor 116 = .ok (.aload 5, 2) := by decide +kernel
theorem dX8_cursor_118 : decode cX8_cursor 118 = .ok (.getfield 235, 3) := by decide +kernel
theorem dX8_cursor_121 : decode cX8_cursor 121 = .ok (.iload_n 2, 1) := by decide +kernel
theorem dX8_cursor_122 : decode cX8_cursor 122 = .ok (.iload 4, 2) := by decide +kernel
theorem dX8_cursor_124 : decode cX8_cursor 124 = .ok (.iastore, 1) := by decide +kernel
theorem dX8_cursor_125 : decode cX8_cursor 125 = .ok (.aload_n 0, 1) := by decide +kernel
theorem dX8_cursor_126 : decode cX8_cursor 126 = .ok (.iconst 1, 1) := by decide +kernel
theorem dX8_cursor_127 : decode cX8_cursor 127 = .ok (.invokevirtual 138, 3) := by decide +kernel
theorem dX8_cursor_130 : decode cX8_cursor 130 = .ok (.ireturn, 1) := by decide +kernel
theorem dX8_where_0 : decode cX8_where 0 = .ok (.aload_n 0, 1) := by decide +kernel
theorem dX8_where_1 : decode cX8_where 1 = .ok (.iload_n 1, 1) := by decide +kernel
theorem dX8_where_2 : decode cX8_where 2 = .ok (.invokevirtual 42, 3) := by decide +kernel
theorem dX8_where_5 : decode cX8_where 5 = .ok (.astore_n 3, 1) := by decide +kernel
theorem dX8_where_6 : decode cX8_where 6 = .ok (.aload_n 3, 1) := by decide +kernel
theorem dX8_where_7 : decode cX8_where 7 = .ok (.ifnull 20, 3) := by decide +kernel
theorem dX8_where_10 : decode cX8_where 10 = .ok (.iload_n 2, 1) := by decide +kernel
theorem dX8_where_11 : decode cX8_where 11 = .ok (.invokestatic 229, 3) := by decide +kernel
theorem dX8_where_14 : decode cX8_where 14 = .ok (.ifCond .eq 13, 3) := by decide +kernel
theorem dX8_where_17 : decode cX8_where 17 = .ok (.aload_n 3, 1) := by decide +kernel
theorem dX8_where_18 : decode cX8_where 18 = .ok (.getfield 235, 3) := by decide +kernel
theorem dX8_where_21 : decode cX8_where 21 = .ok (.iload_n 2, 1) := by decide +kernel
theorem dX8_where_22 : decode cX8_where 22 = .ok (.iaload, 1) := by decide +kernel
theorem dX8_where_23 : decode cX8_where 23 = .ok (.iconst (-1), 1) := by decide +kernel
theorem dX8_where_24 : decode cX8_where 24 = .ok (.if_icmp .ne 5, 3) := by decide +kernel
theorem dX8_where_27 : decode cX8_where 27 = .ok (.iconst (-1), 1) := by decide +kernel
theorem dX8_where_28 : decode cX8_where 28 = .ok (.ireturn, 1) := by decide +kernel
theorem dX8_where_29 : decode cX8_where 29 = .ok (.aload_n 0, 1) := by decide +kernel
theorem dX8_where_30 : decode cX8_where 30 = .ok (.getfield 30, 3) := by decide +kernel
theorem dX8_where_33 : decode cX8_where 33 = .ok (.aload_n 3, 1) := by decide +kernel
theorem dX8_where_34 : decode cX8_where 34 = .ok (.sipush 256, 3) := by decide +kernel
theorem dX8_where_37 : decode cX8_where 37 = .ok (.invokevirtual 50, 3) := by decide +kernel
theorem dX8_where_40 : decode cX8_where 40 = .ok (.aload_n 3, 1) := by decide +kernel
theorem dX8_where_41 : decode cX8_where 41 = .ok (.getfield 235, 3) := by decide +kernel
theorem dX8_where_44 : decode cX8_where 44 = .ok (.iload_n 2, 1) := by decide +kernel
theorem dX8_where_45 : decode cX8_where 45 = .ok (.iaload, 1) := by decide +kernel
theorem dX8_where_46 : decode cX8_where 46 = .ok (.ifCond .ne 7, 3) := by decide +kernel
theorem dX8_where_49 : decode cX8_where 49 = .ok (.iconst 1, 1) := by decide +kernel
theorem dX8_where_50 : decode cX8_where 50 = .ok (.goto 4, 3) := by decide +kernel
theorem dX8_where_53 : decode cX8_where 53 = .ok (.iconst 0, 1) := by decide +kernel
theorem dX8_where_54 : decode cX8_where 54 = .ok (.istore 4, 2) := by decide +kernel
theorem dX8_where_56 : decode cX8_where 56 = .ok (.aload_n 0, 1) := by decide +kernel
theorem dX8_where_57 : decode cX8_where 57 = .ok (.getfield 30, 3) := by decide +kernel
theorem dX8_where_60 : decode cX8_where 60 = .ok (.aload_n 3, 1) := by decide +kernel
theorem dX8_where_61 : decode cX8_where 61 = .ok (.getfield 232, 3) := by decide +kernel
theorem dX8_where_64 : decode cX8_where 64 = .ok (.iload_n 2, 1) := by decide +kernel
theorem dX8_where_65 : decode cX8_where 65 = .ok (.iaload, 1) := by decide +kernel
theorem dX8_where_66 : decode cX8_where 66 = .ok (.invokevirtual 203, 3) := by decide +kernel
theorem dX8_where_69 : decode cX8_where 69 = .ok (.istore 5, 2) := by decide +kernel
theorem dX8_where_71 : decode cX8_where 71 = .ok (.iload 5, 2) := by decide +kernel
theorem dX8_where_73 : decode cX8_where 73 = .ok (.iconst (-1), 1) := by decide +kernel
theorem dX8_where_74 : decode cX8_where 74 = .ok (.if_icmp .ne 20, 3) := by decide +kernel
theorem dX8_where_77 : decode cX8_where 77 = .ok (.iload 4, 2) := by decide +kernel
theorem dX8_where_79 : decode cX8_where 79 = .ok (.ifCond .eq 7, 3) := by decide +kernel
theorem dX8_where_82 : decode cX8_where 82 = .ok (.iconst 0, 1) := by decide +kernel
theorem dX8_where_83 : decode cX8_where 83 = .ok (.goto 10, 3) := by decide +kernel
theorem dX8_where_86 : decode cX8_where 86 = .ok (.aload_n 0, 1) := by decide +kernel
theorem dX8_where_87 : decode cX8_where 87 = .ok (.getfield 30, 3) := by decide +kernel
theorem dX8_where_90 : decode cX8_where 90 = .ok (.getfield 58, 3) := by decide +kernel
theorem dX8_where_93 : decode cX8_where 93 = .ok (.ireturn, 1) := by decide +kernel
theorem dX8_where_94 : decode cX8_where 94 = .ok (.iload 4, 2) := by decide +kernel
theorem dX8_where_96 : decode cX8_where 96 = .ok (.ifCond .eq 18, 3) := by decide +kernel
theorem dX8_where_99 : decode cX8_where 99 = .ok (.aload_n 0, 1) := by decide +kernel
theorem dX8_where_100 : decode cX8_where 100 = .ok (.getfield 30, 3) := by decide +kernel
theorem dX8_where_103 : decode cX8_where 103 = .ok (.getfield 209, 3) := by decide +kernel
theorem dX8_where_106 : decode cX8_where 106 = .ok (.iload 5, 2) := by decide +kernel
theorem dX8_where_108 : decode cX8_where 108 = .ok (.iconst 1, 1) := by decide +kernel
theorem dX8_where_109 : decode cX8_where 109 = .ok (.iadd, 1) := by decide +kernel
theorem dX8_where_110 : decode cX8_where 110 = .ok (.iaload, 1) := by decide +kernel
theorem dX8_where_111 : decode cX8_where 111 = .ok (.goto 13, 3) := by decide +kernel
theorem dX8_where_114 : decode cX8_where 114 = .ok (.aload_n 0, 1) := by decide +kernel
theorem dX8_where_115 : decode cX8_where 115 = .ok (.getfield 30, 3) := by decide +kernel
theorem dX8_where_118 : decode cX8_where 118 = .ok (.getfield 209, 3) := by decide +kernel
theorem dX8_where_121 : decode cX8_where 121 = .ok (.iload 5, 2) := by decide +kernel
theorem dX8_where_123 : decode cX8_where 123 = .ok (.iaload, 1) := by decide +kernel
theorem dX8_where_124 : decode cX8_where 124 = .ok (.ireturn, 1) := by decide +kernel
theorem dX8_status_0 : decode cX8_status 0 = .ok (.aload_n 0, 1) := by decide +kernel
theorem dX8_status_1 : decode cX8_status 1 = .ok (.getfield 38, 3) := by decide +kernel
theorem dX8_status_4 : decode cX8_status 4 = .ok (.ireturn, 1) := by decide +kernel
theorem dX8_refuse_0 : decode cX8_refuse 0 = .ok (.aload_n 0, 1) := by decide +kernel
theorem dX8_refuse_1 : decode cX8_refuse 1 = .ok (.iload_n 1, 1) := by decide +kernel
theorem dX8_refuse_2 : decode cX8_refuse 2 = .ok (.putfield 38, 3) := by decide +kernel
theorem dX8_refuse_5 : decode cX8_refuse 5 = .ok (.iconst (-1), 1) := by decide +kernel
theorem dX8_refuse_6 : decode cX8_refuse 6 = .ok (.ireturn, 1) := by decide +kernel
theorem dX8_done_0 : decode cX8_done 0 = .ok (.aload_n 0, 1) := by decide +kernel
theorem dX8_done_1 : decode cX8_done 1 = .ok (.iconst 0, 1) := by decide +kernel
theorem dX8_done_2 : decode cX8_done 2 = .ok (.putfield 38, 3) := by decide +kernel
theorem dX8_done_5 : decode cX8_done 5 = .ok (.iload_n 1, 1) := by decide +kernel
theorem dX8_done_6 : decode cX8_done 6 = .ok (.ireturn, 1) := by decide +kernel
theorem dX8_enter_0 : decode cX8_enter 0 = .ok (.aload_n 0, 1) := by decide +kernel
theorem dX8_enter_1 : decode cX8_enter 1 = .ok (.getfield 12, 3) := by decide +kernel
theorem dX8_enter_4 : decode cX8_enter 4 = .ok (.aload_n 2, 1) := by decide +kernel
theorem dX8_enter_5 : decode cX8_enter 5 = .ok (.invokevirtual 238, 3) := by decide +kernel
theorem dX8_enter_8 : decode cX8_enter 8 = .ok (.aload_n 1, 1) := by decide +kernel
theorem dX8_enter_9 : decode cX8_enter 9 = .ok (.aload_n 2, 1) := by decide +kernel
theorem dX8_enter_10 : decode cX8_enter 10 = .ok (.invokevirtual 241, 3) := by decide +kernel
theorem dX8_enter_13 : decode cX8_enter 13 = .ok (.aload_n 0, 1) := by decide +kernel
theorem dX8_enter_14 : decode cX8_enter 14 = .ok (.aload_n 2, 1) := by decide +kernel
theorem dX8_enter_15 : decode cX8_enter 15 = .ok (.getfield 124, 3) := by decide +kernel
theorem dX8_enter_18 : decode cX8_enter 18 = .ok (.invokevirtual 138, 3) := by decide +kernel
theorem dX8_enter_21 : decode cX8_enter 21 = .ok (.ireturn, 1) := by decide +kernel
theorem dX8_sheetOf_0 : decode cX8_sheetOf 0 = .ok (.iload_n 1, 1) := by decide +kernel
theorem dX8_sheetOf_1 : decode cX8_sheetOf 1 = .ok (.ifCond .lt 18, 3) := by decide +kernel
theorem dX8_sheetOf_4 : decode cX8_sheetOf 4 = .ok (.iload_n 1, 1) := by decide +kernel
theorem dX8_sheetOf_5 : decode cX8_sheetOf 5 = .ok (.bipush 6, 2) := by decide +kernel
theorem dX8_sheetOf_7 : decode cX8_sheetOf 7 = .ok (.if_icmp .ge 12, 3) := by decide +kernel
theorem dX8_sheetOf_10 : decode cX8_sheetOf 10 = .ok (.aload_n 0, 1) := by decide +kernel
theorem dX8_sheetOf_11 : decode cX8_sheetOf 11 = .ok (.getfield 18, 3) := by decide +kernel
theorem dX8_sheetOf_14 : decode cX8_sheetOf 14 = .ok (.iload_n 1, 1) := by decide +kernel
theorem dX8_sheetOf_15 : decode cX8_sheetOf 15 = .ok (.aaload, 1) := by decide +kernel
theorem dX8_sheetOf_16 : decode cX8_sheetOf 16 = .ok (.goto 4, 3) := by decide +kernel
theorem dX8_sheetOf_19 : decode cX8_sheetOf 19 = .ok (.aconst_null, 1) := by decide +kernel
theorem dX8_sheetOf_20 : decode cX8_sheetOf 20 = .ok (.areturn, 1) := by decide +kernel
theorem dX8_read_0 : decode cX8_read 0 = .ok (.aload_n 0, 1) := by decide +kernel
theorem dX8_read_1 : decode cX8_read 1 = .ok (.iload_n 1, 1) := by decide +kernel
theorem dX8_read_2 : decode cX8_read 2 = .ok (.invokevirtual 42, 3) := by decide +kernel
theorem dX8_read_5 : decode cX8_read 5 = .ok (.astore_n 2, 1) := by decide +kernel
theorem dX8_read_6 : decode cX8_read 6 = .ok (.aload_n 2, 1) := by decide +kernel
theorem dX8_read_7 : decode cX8_read 7 = .ok (.ifnonnull 5, 3) := by decide +kernel
theorem dX8_read_10 : decode cX8_read 10 = .ok (.iconst 0, 1) := by decide +kernel
theorem dX8_read_11 : decode cX8_read 11 = .ok (.ireturn, 1) := by decide +kernel
theorem dX8_read_12 : decode cX8_read 12 = .ok (.aload_n 0, 1) := by decide +kernel
theorem dX8_read_13 : decode cX8_read 13 = .ok (.getfield 30, 3) := by decide +kernel
theorem dX8_read_16 : decode cX8_read 16 = .ok (.aload_n 2, 1) := by decide +kernel
theorem dX8_read_17 : decode cX8_read 17 = .ok (.sipush 256, 3) := by decide +kernel
theorem dX8_read_20 : decode cX8_read 20 = .ok (.invokevirtual 50, 3) := by decide +kernel
theorem dX8_read_23 : decode cX8_read 23 = .ok (.iconst 1, 1) := by decide +kernel
theorem dX8_read_24 : decode cX8_read 24 = .ok (.ireturn, 1) := by decide +kernel
theorem dX8_haveSameTaken_0 : decode cX8_haveSameTaken 0 = .ok (.iconst 0, 1) := by decide +kernel
theorem dX8_haveSameTaken_1 : decode cX8_haveSameTaken 1 = .ok (.istore_n 3, 1) := by decide +kernel
theorem dX8_haveSameTaken_2 : decode cX8_haveSameTaken 2 = .ok (.iload_n 3, 1) := by decide +kernel
theorem dX8_haveSameTaken_3 : decode cX8_haveSameTaken 3 = .ok (.aload_n 0, 1) := by decide +kernel
theorem dX8_haveSameTaken_4 : decode cX8_haveSameTaken 4 = .ok (.getfield 12, 3) := by decide +kernel
theorem dX8_haveSameTaken_7 : decode cX8_haveSameTaken 7 = .ok (.getfield 74, 3) := by decide +kernel
theorem dX8_haveSameTaken_10 : decode cX8_haveSameTaken 10 = .ok (.if_icmp .ge 40, 3) := by decide +kernel
theorem dX8_haveSameTaken_13 : decode cX8_haveSameTaken 13 = .ok (.aload_n 1, 1) := by decide +kernel
theorem dX8_haveSameTaken_14 : decode cX8_haveSameTaken 14 = .ok (.aload_n 0, 1) := by decide +kernel
theorem dX8_haveSameTaken_15 : decode cX8_haveSameTaken 15 = .ok (.getfield 12, 3) := by decide +kernel
theorem dX8_haveSameTaken_18 : decode cX8_haveSameTaken 18 = .ok (.getfield 141, 3) := by decide +kernel
theorem dX8_haveSameTaken_21 : decode cX8_haveSameTaken 21 = .ok (.iload_n 3, 1) := by decide +kernel
theorem dX8_haveSameTaken_22 : decode cX8_haveSameTaken 22 = .ok (.aaload, 1) := by decide +kernel
theorem dX8_haveSameTaken_23 : decode cX8_haveSameTaken 23 = .ok (.invokevirtual 145, 3) := by decide +kernel
theorem dX8_haveSameTaken_26 : decode cX8_haveSameTaken 26 = .ok (.aload_n 2, 1) := by decide +kernel
theorem dX8_haveSameTaken_27 : decode cX8_haveSameTaken 27 = .ok (.aload_n 0, 1) := by decide +kernel
theorem dX8_haveSameTaken_28 : decode cX8_haveSameTaken 28 = .ok (.getfield 12, 3) := by decide +kernel
theorem dX8_haveSameTaken_31 : decode cX8_haveSameTaken 31 = .ok (.getfield 141, 3) := by decide +kernel
theorem dX8_haveSameTaken_34 : decode cX8_haveSameTaken 34 = .ok (.iload_n 3, 1) := by decide +kernel
theorem dX8_haveSameTaken_35 : decode cX8_haveSameTaken 35 = .ok (.aaload, 1) := by decide +kernel
theorem dX8_haveSameTaken_36 : decode cX8_haveSameTaken 36 = .ok (.invokevirtual 145, 3) := by decide +kernel
theorem dX8_haveSameTaken_39 : decode cX8_haveSameTaken 39 = .ok (.if_icmp .eq 5, 3) := by decide +kernel
theorem dX8_haveSameTaken_42 : decode cX8_haveSameTaken 42 = .ok (.iconst 0, 1) := by decide +kernel
theorem dX8_haveSameTaken_43 : decode cX8_haveSameTaken 43 = .ok (.ireturn, 1) := by decide +kernel
theorem dX8_haveSameTaken_44 : decode cX8_haveSameTaken 44 = .ok (.iinc 3 1, 3) := by decide +kernel
theorem dX8_haveSameTaken_47 : decode cX8_haveSameTaken 47 = .ok (.goto (-45), 3) := by decide +kernel
theorem dX8_haveSameTaken_50 : decode cX8_haveSameTaken 50 = .ok (.iconst 1, 1) := by decide +kernel
theorem dX8_haveSameTaken_51 : decode cX8_haveSameTaken 51 = .ok (.ireturn, 1) := by decide +kernel
theorem dX8_placesAlike_0 : decode cX8_placesAlike 0 = .ok (.aload_n 0, 1) := by decide +kernel
theorem dX8_placesAlike_1 : decode cX8_placesAlike 1 = .ok (.getfield 30, 3) := by decide +kernel
theorem dX8_placesAlike_4 : decode cX8_placesAlike 4 = .ok (.aload_n 1, 1) := by decide +kernel
theorem dX8_placesAlike_5 : decode cX8_placesAlike 5 = .ok (.sipush 256, 3) := by decide +kernel
theorem dX8_placesAlike_8 : decode cX8_placesAlike 8 = .ok (.invokevirtual 50, 3) := by decide +kernel
theorem dX8_placesAlike_11 : decode cX8_placesAlike 11 = .ok (.aload_n 0, 1) := by decide +kernel
theorem dX8_placesAlike_12 : decode cX8_placesAlike 12 = .ok (.getfield 30, 3) := by decide +kernel
theorem dX8_placesAlike_15 : decode cX8_placesAlike 15 = .ok (.invokevirtual 188, 3) := by decide +kernel
theorem dX8_placesAlike_18 : decode cX8_placesAlike 18 = .ok (.aload_n 0, 1) := by decide +kernel
theorem dX8_placesAlike_19 : decode cX8_placesAlike 19 = .ok (.getfield 30, 3) := by decide +kernel
theorem dX8_placesAlike_22 : decode cX8_placesAlike 22 = .ok (.getfield 58, 3) := by decide +kernel
theorem dX8_placesAlike_25 : decode cX8_placesAlike 25 = .ok (.istore_n 3, 1) := by decide +kernel
theorem dX8_placesAlike_26 : decode cX8_placesAlike 26 = .ok (.iconst 0, 1) := by decide +kernel
theorem dX8_placesAlike_27 : decode cX8_placesAlike 27 = .ok (.istore 4, 2) := by decide +kernel
theorem dX8_placesAlike_29 : decode cX8_placesAlike 29 = .ok (.iload 4, 2) := by decide +kernel
theorem dX8_placesAlike_31 : decode cX8_placesAlike 31 = .ok (.iload_n 3, 1) := by decide +kernel
theorem dX8_placesAlike_32 : decode cX8_placesAlike 32 = .ok (.if_icmp .ge 25, 3) := by decide +kernel
theorem dX8_placesAlike_35 : decode cX8_placesAlike 35 = .ok (.aload_n 0, 1) := by decide +kernel
theorem dX8_placesAlike_36 : decode cX8_placesAlike 36 = .ok (.getfield 34, 3) := by decide +kernel
theorem dX8_placesAlike_39 : decode cX8_placesAlike 39 = .ok (.iload 4, 2) := by decide +kernel
theorem dX8_placesAlike_41 : decode cX8_placesAlike 41 = .ok (.aload_n 0, 1) := by decide +kernel
theorem dX8_placesAlike_42 : decode cX8_placesAlike 42 = .ok (.getfield 30, 3) := by decide +kernel
theorem dX8_placesAlike_45 : decode cX8_placesAlike 45 = .ok (.iload 4, 2) := by decide +kernel
theorem dX8_placesAlike_47 : decode cX8_placesAlike 47 = .ok (.invokevirtual 244, 3) := by decide +kernel
theorem dX8_placesAlike_50 : decode cX8_placesAlike 50 = .ok (.iastore, 1) := by decide +kernel
theorem dX8_placesAlike_51 : decode cX8_placesAlike 51 = .ok (.iinc 4 1, 3) := by decide +kernel
theorem dX8_placesAlike_54 : decode cX8_placesAlike 54 = .ok (.goto (-25), 3) := by decide +kernel
theorem dX8_placesAlike_57 : decode cX8_placesAlike 57 = .ok (.aload_n 0, 1) := by decide +kernel
theorem dX8_placesAlike_58 : decode cX8_placesAlike 58 = .ok (.getfield 30, 3) := by decide +kernel
theorem dX8_placesAlike_61 : decode cX8_placesAlike 61 = .ok (.aload_n 2, 1) := by decide +kernel
theorem dX8_placesAlike_62 : decode cX8_placesAlike 62 = .ok (.sipush 256, 3) := by decide +kernel
theorem dX8_placesAlike_65 : decode cX8_placesAlike 65 = .ok (.invokevirtual 50, 3) := by decide +kernel
theorem dX8_placesAlike_68 : decode cX8_placesAlike 68 = .ok (.aload_n 0, 1) := by decide +kernel
theorem dX8_placesAlike_69 : decode cX8_placesAlike 69 = .ok (.getfield 30, 3) := by decide +kernel
theorem dX8_placesAlike_72 : decode cX8_placesAlike 72 = .ok (.invokevirtual 188, 3) := by decide +kernel
theorem dX8_placesAlike_75 : decode cX8_placesAlike 75 = .ok (.iload_n 3, 1) := by decide +kernel
theorem dX8_placesAlike_76 : decode cX8_placesAlike 76 = .ok (.aload_n 0, 1) := by decide +kernel
theorem dX8_placesAlike_77 : decode cX8_placesAlike 77 = .ok (.getfield 30, 3) := by decide +kernel
theorem dX8_placesAlike_80 : decode cX8_placesAlike 80 = .ok (.getfield 58, 3) := by decide +kernel
theorem dX8_placesAlike_83 : decode cX8_placesAlike 83 = .ok (.invokestatic 247, 3) := by decide +kernel
theorem dX8_placesAlike_86 : decode cX8_placesAlike 86 = .ok (.istore_n 3, 1) := by decide +kernel
theorem dX8_placesAlike_87 : decode cX8_placesAlike 87 = .ok (.iconst 0, 1) := by decide +kernel
theorem dX8_placesAlike_88 : decode cX8_placesAlike 88 = .ok (.istore 4, 2) := by decide +kernel
theorem dX8_placesAlike_90 : decode cX8_placesAlike 90 = .ok (.iload 4, 2) := by decide +kernel
theorem dX8_placesAlike_92 : decode cX8_placesAlike 92 = .ok (.iload_n 3, 1) := by decide +kernel
theorem dX8_placesAlike_93 : decode cX8_placesAlike 93 = .ok (.if_icmp .ge 28, 3) := by decide +kernel
theorem dX8_placesAlike_96 : decode cX8_placesAlike 96 = .ok (.aload_n 0, 1) := by decide +kernel
theorem dX8_placesAlike_97 : decode cX8_placesAlike 97 = .ok (.getfield 34, 3) := by decide +kernel
theorem dX8_placesAlike_100 : decode cX8_placesAlike 100 = .ok (.iload 4, 2) := by decide +kernel
theorem dX8_placesAlike_102 : decode cX8_placesAlike 102 = .ok (.iaload, 1) := by decide +kernel
theorem dX8_placesAlike_103 : decode cX8_placesAlike 103 = .ok (.aload_n 0, 1) := by decide +kernel
theorem dX8_placesAlike_104 : decode cX8_placesAlike 104 = .ok (.getfield 30, 3) := by decide +kernel
theorem dX8_placesAlike_107 : decode cX8_placesAlike 107 = .ok (.iload 4, 2) := by decide +kernel
theorem dX8_placesAlike_109 : decode cX8_placesAlike 109 = .ok (.invokevirtual 244, 3) := by decide +kernel
theorem dX8_placesAlike_112 : decode cX8_placesAlike 112 = .ok (.if_icmp .ne 9, 3) := by decide +kernel
theorem dX8_placesAlike_115 : decode cX8_placesAlike 115 = .ok (.iinc 4 1, 3) := by decide +kernel
theorem dX8_placesAlike_118 : decode cX8_placesAlike 118 = .ok (.goto (-28), 3) := by decide +kernel
theorem dX8_placesAlike_121 : decode cX8_placesAlike 121 = .ok (.iload 4, 2) := by decide +kernel
theorem dX8_placesAlike_123 : decode cX8_placesAlike 123 = .ok (.ireturn, 1) := by decide +kernel
theorem dX8_codesAheadOfNone_0 : decode cX8_codesAheadOfNone 0 = .ok (.iconst 3, 1) := by decide +kernel
theorem dX8_codesAheadOfNone_1 : decode cX8_codesAheadOfNone 1 = .ok (.newarray .int, 2) := by decide +kernel
theorem dX8_codesAheadOfNone_3 : decode cX8_codesAheadOfNone 3 = .ok (.dup, 1) := by decide +kernel
theorem dX8_codesAheadOfNone_4 : decode cX8_codesAheadOfNone 4 = .ok (.iconst 0, 1) := by decide +kernel
theorem dX8_codesAheadOfNone_5 : decode cX8_codesAheadOfNone 5 = .ok (.iload_n 0, 1) := by decide +kernel
theorem dX8_codesAheadOfNone_6 : decode cX8_codesAheadOfNone 6 = .ok (.iastore, 1) := by decide +kernel
theorem dX8_codesAheadOfNone_7 : decode cX8_codesAheadOfNone 7 = .ok (.dup, 1) := by decide +kernel
theorem dX8_codesAheadOfNone_8 : decode cX8_codesAheadOfNone 8 = .ok (.iconst 1, 1) := by decide +kernel
theorem dX8_codesAheadOfNone_9 : decode cX8_codesAheadOfNone 9 = .ok (.iload_n 1, 1) := by decide +kernel
theorem dX8_codesAheadOfNone_10 : decode cX8_codesAheadOfNone 10 = .ok (.iastore, 1) := by decide +kernel
theorem dX8_codesAheadOfNone_11 : decode cX8_codesAheadOfNone 11 = .ok (.dup, 1) := by decide +kernel
theorem dX8_codesAheadOfNone_12 : decode cX8_codesAheadOfNone 12 = .ok (.iconst 2, 1) := by decide +kernel
theorem dX8_codesAheadOfNone_13 : decode cX8_codesAheadOfNone 13 = .ok (.iload_n 2, 1) := by decide +kernel
theorem dX8_codesAheadOfNone_14 : decode cX8_codesAheadOfNone 14 = .ok (.iastore, 1) := by decide +kernel
theorem dX8_codesAheadOfNone_15 : decode cX8_codesAheadOfNone 15 = .ok (.astore_n 3, 1) := by decide +kernel
theorem dX8_codesAheadOfNone_16 : decode cX8_codesAheadOfNone 16 = .ok (.iconst 0, 1) := by decide +kernel
theorem dX8_codesAheadOfNone_17 : decode cX8_codesAheadOfNone 17 = .ok (.istore 4, 2) := by decide +kernel
theorem dX8_codesAheadOfNone_19 : decode cX8_codesAheadOfNone 19 = .ok (.iload 4, 2) := by decide +kernel
theorem dX8_codesAheadOfNone_21 : decode cX8_codesAheadOfNone 21 = .ok (.aload_n 3, 1) := by decide +kernel
theorem dX8_codesAheadOfNone_22 : decode cX8_codesAheadOfNone 22 = .ok (.arraylength, 1) := by decide +kernel
theorem dX8_codesAheadOfNone_23 : decode cX8_codesAheadOfNone 23 = .ok (.if_icmp .ge 17, 3) := by decide +kernel
theorem dX8_codesAheadOfNone_26 : decode cX8_codesAheadOfNone 26 = .ok (.aload_n 3, 1) := by decide +kernel
theorem dX8_codesAheadOfNone_27 : decode cX8_codesAheadOfNone 27 = .ok (.iload 4, 2) := by decide +kernel
theorem dX8_codesAheadOfNone_29 : decode cX8_codesAheadOfNone 29 = .ok (.iaload, 1) := by decide +kernel
theorem dX8_codesAheadOfNone_30 : decode cX8_codesAheadOfNone 30 = .ok (.iconst (-1), 1) := by decide +kernel
theorem dX8_codesAheadOfNone_31 : decode cX8_codesAheadOfNone 31 = .ok (.if_icmp .eq 9, 3) := by decide +kernel
theorem dX8_codesAheadOfNone_34 : decode cX8_codesAheadOfNone 34 = .ok (.iinc 4 1, 3) := by decide +kernel
theorem dX8_codesAheadOfNone_37 : decode cX8_codesAheadOfNone 37 = .ok (.goto (-18), 3) := by decide +kernel
theorem dX8_codesAheadOfNone_40 : decode cX8_codesAheadOfNone 40 = .ok (.aload_n 3, 1) := by decide +kernel
theorem dX8_codesAheadOfNone_41 : decode cX8_codesAheadOfNone 41 = .ok (.iload 4, 2) := by decide +kernel
theorem dX8_codesAheadOfNone_43 : decode cX8_codesAheadOfNone 43 = .ok (.invokestatic 253, 3) := by decide +kernel
theorem dX8_codesAheadOfNone_46 : decode cX8_codesAheadOfNone 46 = .ok (.areturn, 1) := by decide +kernel
theorem dX8_arePutCodes_0 : decode cX8_arePutCodes 0 = .ok (.iconst 0, 1) := by decide +kernel
theorem dX8_arePutCodes_1 : decode cX8_arePutCodes 1 = .ok (.istore_n 1, 1) := by decide +kernel
theorem dX8_arePutCodes_2 : decode cX8_arePutCodes 2 = .ok (.iload_n 1, 1) := by decide +kernel
theorem dX8_arePutCodes_3 : decode cX8_arePutCodes 3 = .ok (.aload_n 0, 1) := by decide +kernel
theorem dX8_arePutCodes_4 : decode cX8_arePutCodes 4 = .ok (.arraylength, 1) := by decide +kernel
theorem dX8_arePutCodes_5 : decode cX8_arePutCodes 5 = .ok (.if_icmp .ge 26, 3) := by decide +kernel
theorem dX8_arePutCodes_8 : decode cX8_arePutCodes 8 = .ok (.aload_n 0, 1) := by decide +kernel
theorem dX8_arePutCodes_9 : decode cX8_arePutCodes 9 = .ok (.iload_n 1, 1) := by decide +kernel
theorem dX8_arePutCodes_10 : decode cX8_arePutCodes 10 = .ok (.iaload, 1) := by decide +kernel
theorem dX8_arePutCodes_11 : decode cX8_arePutCodes 11 = .ok (.ifCond .lt 12, 3) := by decide +kernel
theorem dX8_arePutCodes_14 : decode cX8_arePutCodes 14 = .ok (.aload_n 0, 1) := by decide +kernel
theorem dX8_arePutCodes_15 : decode cX8_arePutCodes 15 = .ok (.iload_n 1, 1) := by decide +kernel
theorem dX8_arePutCodes_16 : decode cX8_arePutCodes 16 = .ok (.iaload, 1) := by decide +kernel
theorem dX8_arePutCodes_17 : decode cX8_arePutCodes 17 = .ok (.sipush 255, 3) := by decide +kernel
theorem dX8_arePutCodes_20 : decode cX8_arePutCodes 20 = .ok (.if_icmp .le 5, 3) := by decide +kernel
theorem dX8_arePutCodes_23 : decode cX8_arePutCodes 23 = .ok (.iconst 0, 1) := by decide +kernel
theorem dX8_arePutCodes_24 : decode cX8_arePutCodes 24 = .ok (.ireturn, 1) := by decide +kernel
theorem dX8_arePutCodes_25 : decode cX8_arePutCodes 25 = .ok (.iinc 1 1, 3) := by decide +kernel
theorem dX8_arePutCodes_28 : decode cX8_arePutCodes 28 = .ok (.goto (-26), 3) := by decide +kernel
theorem dX8_arePutCodes_31 : decode cX8_arePutCodes 31 = .ok (.aload_n 0, 1) := by decide +kernel
theorem dX8_arePutCodes_32 : decode cX8_arePutCodes 32 = .ok (.arraylength, 1) := by decide +kernel
theorem dX8_arePutCodes_33 : decode cX8_arePutCodes 33 = .ok (.ifCond .le 7, 3) := by decide +kernel
theorem dX8_arePutCodes_36 : decode cX8_arePutCodes 36 = .ok (.iconst 1, 1) := by decide +kernel
theorem dX8_arePutCodes_37 : decode cX8_arePutCodes 37 = .ok (.goto 4, 3) := by decide +kernel
theorem dX8_arePutCodes_40 : decode cX8_arePutCodes 40 = .ok (.iconst 0, 1) := by decide +kernel
theorem dX8_arePutCodes_41 : decode cX8_arePutCodes 41 = .ok (.ireturn, 1) := by decide +kernel
theorem dX8_isTint_0 : decode cX8_isTint 0 = .ok (.iload_n 0, 1) := by decide +kernel
theorem dX8_isTint_1 : decode cX8_isTint 1 = .ok (.ifCond .lt 12, 3) := by decide +kernel
theorem dX8_isTint_4 : decode cX8_isTint 4 = .ok (.iload_n 0, 1) := by decide +kernel
theorem dX8_isTint_5 : decode cX8_isTint 5 = .ok (.iconst 4, 1) := by decide +kernel
theorem dX8_isTint_6 : decode cX8_isTint 6 = .ok (.if_icmp .ge 7, 3) := by decide +kernel
theorem dX8_isTint_9 : decode cX8_isTint 9 = .ok (.iconst 1, 1) := by decide +kernel
theorem dX8_isTint_10 : decode cX8_isTint 10 = .ok (.goto 4, 3) := by decide +kernel
theorem dX8_isTint_13 : decode cX8_isTint 13 = .ok (.iconst 0, 1) := by decide +kernel
theorem dX8_isTint_14 : decode cX8_isTint 14 = .ok (.ireturn, 1) := by decide +kernel
theorem dX8_isCursor_0 : decode cX8_isCursor 0 = .ok (.iload_n 0, 1) := by decide +kernel
theorem dX8_isCursor_1 : decode cX8_isCursor 1 = .ok (.ifCond .lt 12, 3) := by decide +kernel
theorem dX8_isCursor_4 : decode cX8_isCursor 4 = .ok (.iload_n 0, 1) := by decide +kernel
theorem dX8_isCursor_5 : decode cX8_isCursor 5 = .ok (.iconst 3, 1) := by decide +kernel
theorem dX8_isCursor_6 : decode cX8_isCursor 6 = .ok (.if_icmp .ge 7, 3) := by decide +kernel
theorem dX8_isCursor_9 : decode cX8_isCursor 9 = .ok (.iconst 1, 1) := by decide +kernel
theorem dX8_isCursor_10 : decode cX8_isCursor 10 = .ok (.goto 4, 3) := by decide +kernel
theorem dX8_isCursor_13 : decode cX8_isCursor 13 = .ok (.iconst 0, 1) := by decide +kernel
theorem dX8_isCursor_14 : decode cX8_isCursor 14 = .ok (.ireturn, 1) := by decide +kernel
theorem dX8_putOf_0 : decode cX8_putOf 0 = .ok (.iload_n 0, 1) := by decide +kernel
theorem dX8_putOf_1 : decode cX8_putOf 1 = .ok (.ifCond .ge 7, 3) := by decide +kernel
theorem dX8_putOf_4 : decode cX8_putOf 4 = .ok (.iconst (-1), 1) := by decide +kernel
theorem dX8_putOf_5 : decode cX8_putOf 5 = .ok (.goto 6, 3) := by decide +kernel
theorem dX8_putOf_8 : decode cX8_putOf 8 = .ok (.iload_n 0, 1) := by decide +kernel
theorem dX8_putOf_9 : decode cX8_putOf 9 = .ok (.iconst 4, 1) := by decide +kernel
theorem dX8_putOf_10 : decode cX8_putOf 10 = .ok (.idiv, 1) := by decide +kernel
theorem dX8_putOf_11 : decode cX8_putOf 11 = .ok (.ireturn, 1) := by decide +kernel
