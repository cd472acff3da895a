theorem dX0_init_0 : decode cX0_init 0 = .ok (.aload_n 0, 1) := by decide +kernel
theorem dX0_init_1 : decode cX0_init 1 = .ok (.invokespecial 3, 3) := by decide +kernel
theorem dX0_init_4 : decode cX0_init 4 = .ok (.aload_n 0, 1) := by decide +kernel
theorem dX0_init_5 : decode cX0_init 5 = .ok (.bipush 16, 2) := by decide +kernel
theorem dX0_init_7 : decode cX0_init 7 = .ok (.newarray .int, 2) := by decide +kernel
theorem dX0_init_9 : decode cX0_init 9 = .ok (.putfield 9, 3) := by decide +kernel
theorem dX0_init_12 : decode cX0_init 12 = .ok (.return_, 1) := by decide +kernel
theorem dX0_clear_0 : decode cX0_clear 0 = .ok (.iconst 0, 1) := by decide +kernel
theorem dX0_clear_1 : decode cX0_clear 1 = .ok (.istore_n 1, 1) := by decide +kernel
theorem dX0_clear_2 : decode cX0_clear 2 = .ok (.iload_n 1, 1) := by decide +kernel
theorem dX0_clear_3 : decode cX0_clear 3 = .ok (.aload_n 0, 1) := by decide +kernel
theorem dX0_clear_4 : decode cX0_clear 4 = .ok (.getfield 9, 3) := by decide +kernel
theorem dX0_clear_7 : decode cX0_clear 7 = .ok (.arraylength, 1) := by decide +kernel
theorem dX0_clear_8 : decode cX0_clear 8 = .ok (.if_icmp .ge 16, 3) := by decide +kernel
theorem dX0_clear_11 : decode cX0_clear 11 = .ok (.aload_n 0, 1) := by decide +kernel
theorem dX0_clear_12 : decode cX0_clear 12 = .ok (.getfield 9, 3) := by decide +kernel
theorem dX0_clear_15 : decode cX0_clear 15 = .ok (.iload_n 1, 1) := by decide +kernel
theorem dX0_clear_16 : decode cX0_clear 16 = .ok (.iconst 0, 1) := by decide +kernel
theorem dX0_clear_17 : decode cX0_clear 17 = .ok (.iastore, 1) := by decide +kernel
theorem dX0_clear_18 : decode cX0_clear 18 = .ok (.iinc 1 1, 3) := by decide +kernel
theorem dX0_clear_21 : decode cX0_clear 21 = .ok (.goto (-19), 3) := by decide +kernel
theorem dX0_clear_24 : decode cX0_clear 24 = .ok (.return_, 1) := by decide +kernel
theorem dX0_isOver_0 : decode cX0_isOver 0 = .ok (.iload_n 1, 1) := by decide +kernel
theorem dX0_isOver_1 : decode cX0_isOver 1 = .ok (.invokestatic 15, 3) := by decide +kernel
theorem dX0_isOver_4 : decode cX0_isOver 4 = .ok (.ifCond .eq 21, 3) := by decide +kernel
theorem dX0_isOver_7 : decode cX0_isOver 7 = .ok (.aload_n 0, 1) := by decide +kernel
theorem dX0_isOver_8 : decode cX0_isOver 8 = .ok (.getfield 9, 3) := by decide +kernel
theorem dX0_isOver_11 : decode cX0_isOver 11 = .ok (.iload_n 1, 1) := by decide +kernel
theorem dX0_isOver_12 : decode cX0_isOver 12 = .ok (.iaload, 1) := by decide +kernel
theorem dX0_isOver_13 : decode cX0_isOver 13 = .ok (.iload_n 2, 1) := by decide +kernel
theorem dX0_isOver_14 : decode cX0_isOver 14 = .ok (.ishr, 1) := by decide +kernel
theorem dX0_isOver_15 : decode cX0_isOver 15 = .ok (.iconst 1, 1) := by decide +kernel
theorem dX0_isOver_16 : decode cX0_isOver 16 = .ok (.iand, 1) := by decide +kernel
theorem dX0_isOver_17 : decode cX0_isOver 17 = .ok (.iconst 1, 1) := by decide +kernel
theorem dX0_isOver_18 : decode cX0_isOver 18 = .ok (.if_icmp .ne 7, 3) := by decide +kernel
theorem dX0_isOver_21 : decode cX0_isOver 21 = .ok (.iconst 1, 1) := by decide +kernel
theorem dX0_isOver_22 : decode cX0_isOver 22 = .ok (.goto 4, 3) := by decide +kernel
theorem dX0_isOver_25 : decode cX0_isOver 25 = .ok (.iconst 0, 1) := by decide +kernel
theorem dX0_isOver_26 : decode cX0_isOver 26 = .ok (.ireturn, 1) := by decide +kernel
theorem dX0_take_0 : decode cX0_take 0 = .ok (.iload_n 1, 1) := by decide +kernel
theorem dX0_take_1 : decode cX0_take 1 = .ok (.invokestatic 15, 3) := by decide +kernel
theorem dX0_take_4 : decode cX0_take 4 = .ok (.ifCond .eq 24, 3) := by decide +kernel
theorem dX0_take_7 : decode cX0_take 7 = .ok (.iload_n 2, 1) := by decide +kernel
theorem dX0_take_8 : decode cX0_take 8 = .ok (.invokestatic 15, 3) := by decide +kernel
theorem dX0_take_11 : decode cX0_take 11 = .ok (.ifCond .eq 17, 3) := by decide +kernel
theorem dX0_take_14 : decode cX0_take 14 = .ok (.iload_n 1, 1) := by decide +kernel
theorem dX0_take_15 : decode cX0_take 15 = .ok (.iload_n 2, 1) := by decide +kernel
theorem dX0_take_16 : decode cX0_take 16 = .ok (.if_icmp .eq 12, 3) := by decide +kernel
theorem dX0_take_19 : decode cX0_take 19 = .ok (.aload_n 0, 1) := by decide +kernel
theorem dX0_take_20 : decode cX0_take 20 = .ok (.iload_n 2, 1) := by decide +kernel
theorem dX0_take_21 : decode cX0_take 21 = .ok (.iload_n 1, 1) := by decide +kernel
theorem dX0_take_22 : decode cX0_take 22 = .ok (.invokevirtual 19, 3) := by decide +kernel
theorem dX0_take_25 : decode cX0_take 25 = .ok (.ifCond .eq 5, 3) := by decide +kernel
theorem dX0_take_28 : decode cX0_take 28 = .ok (.iconst 0, 1) := by decide +kernel
theorem dX0_take_29 : decode cX0_take 29 = .ok (.ireturn, 1) := by decide +kernel
theorem dX0_take_30 : decode cX0_take 30 = .ok (.aload_n 0, 1) := by decide +kernel
theorem dX0_take_31 : decode cX0_take 31 = .ok (.getfield 9, 3) := by decide +kernel
theorem dX0_take_34 : decode cX0_take 34 = .ok (.iload_n 2, 1) := by decide +kernel
theorem dX0_take_35 : decode cX0_take 35 = .ok (.iaload, 1) := by decide +kernel
theorem dX0_take_36 : decode cX0_take 36 = .ok (.iconst 1, 1) := by decide +kernel
theorem dX0_take_37 : decode cX0_take 37 = .ok (.iload_n 2, 1) := by decide +kernel
theorem dX0_take_38 : decode cX0_take 38 = .ok (.ishl, 1) := by decide +kernel
theorem dX0_take_39 : decode cX0_take 39 = .ok (.ior, 1) := by decide +kernel
theorem dX0_take_40 : decode cX0_take 40 = .ok (.istore_n 3, 1) := by decide +kernel
theorem dX0_take_41 : decode cX0_take 41 = .ok (.iconst 0, 1) := by decide +kernel
theorem dX0_take_42 : decode cX0_take 42 = .ok (.istore 4, 2) := by decide +kernel
theorem dX0_take_44 : decode cX0_take 44 = .ok (.iload 4, 2) := by decide +kernel
theorem dX0_take_46 : decode cX0_take 46 = .ok (.aload_n 0, 1) := by decide +kernel
theorem dX0_take_47 : decode cX0_take 47 = .ok (.getfield 9, 3) := by decide +kernel
theorem dX0_take_50 : decode cX0_take 50 = .ok (.arraylength, 1) := by decide +kernel
theorem dX0_take_51 : decode cX0_take 51 = .ok (.if_icmp .ge 36, 3) := by decide +kernel
theorem dX0_take_54 : decode cX0_take 54 = .ok (.iload 4, 2) := by decide +kernel
theorem dX0_take_56 : decode cX0_take 56 = .ok (.iload_n 1, 1) := by decide +kernel
theorem dX0_take_57 : decode cX0_take 57 = .ok (.if_icmp .eq 13, 3) := by decide +kernel
theorem dX0_take_60 : decode cX0_take 60 = .ok (.aload_n 0, 1) := by decide +kernel
theorem dX0_take_61 : decode cX0_take 61 = .ok (.iload 4, 2) := by decide +kernel
theorem dX0_take_63 : decode cX0_take 63 = .ok (.iload_n 1, 1) := by decide +kernel
theorem dX0_take_64 : decode cX0_take 64 = .ok (.invokevirtual 19, 3) := by decide +kernel
theorem dX0_take_67 : decode cX0_take 67 = .ok (.ifCond .eq 14, 3) := by decide +kernel
theorem dX0_take_70 : decode cX0_take 70 = .ok (.aload_n 0, 1) := by decide +kernel
theorem dX0_take_71 : decode cX0_take 71 = .ok (.getfield 9, 3) := by decide +kernel
theorem dX0_take_74 : decode cX0_take 74 = .ok (.iload 4, 2) := by decide +kernel
theorem dX0_take_76 : decode cX0_take 76 = .ok (.dup2, 1) := by decide +kernel
theorem dX0_take_77 : decode cX0_take 77 = .ok (.iaload, 1) := by decide +kernel
theorem dX0_take_78 : decode cX0_take 78 = .ok (.iload_n 3, 1) := by decide +kernel
theorem dX0_take_79 : decode cX0_take 79 = .ok (.ior, 1) := by decide +kernel
theorem dX0_take_80 : decode cX0_take 80 = .ok (.iastore, 1) := by decide +kernel
theorem dX0_take_81 : decode cX0_take 81 = .ok (.iinc 4 1, 3) := by decide +kernel
theorem dX0_take_84 : decode cX0_take 84 = .ok (.goto (-40), 3) := by decide +kernel
theorem dX0_take_87 : decode cX0_take 87 = .ok (.iconst 1, 1) := by decide +kernel
theorem dX0_take_88 : decode cX0_take 88 = .ok (.ireturn, 1) := by decide +kernel
theorem dX0_isContext_0 : decode cX0_isContext 0 = .ok (.iload_n 0, 1) := by decide +kernel
theorem dX0_isContext_1 : decode cX0_isContext 1 = .ok (.ifCond .lt 13, 3) := by decide +kernel
theorem dX0_isContext_4 : decode cX0_isContext 4 = .ok (.iload_n 0, 1) := by decide +kernel
theorem dX0_isContext_5 : decode cX0_isContext 5 = .ok (.bipush 16, 2) := by decide +kernel
theorem dX0_isContext_7 : decode cX0_isContext 7 = .ok (.if_icmp .ge 7, 3) := by decide +kernel
theorem dX0_isContext_10 : decode cX0_isContext 10 = .ok (.iconst 1, 1) := by decide +kernel
theorem dX0_isContext_11 : decode cX0_isContext 11 = .ok (.goto 4, 3) := by decide +kernel
theorem dX0_isContext_14 : decode cX0_isContext 14 = .ok (.iconst 0, 1) := by decide +kernel
theorem dX0_isContext_15 : decode cX0_isContext 15 = .ok (.ireturn, 1) := by decide +kernel
theorem dX1_init_0 : decode cX1_init 0 = .ok (.aload_n 0, 1) := by decide +kernel
theorem dX1_init_1 : decode cX1_init 1 = .ok (.invokespecial 1, 3) := by decide +kernel
theorem dX1_init_4 : decode cX1_init 4 = .ok (.aload_n 0, 1) := by decide +kernel
theorem dX1_init_5 : decode cX1_init 5 = .ok (.iload_n 1, 1) := by decide +kernel
theorem dX1_init_6 : decode cX1_init 6 = .ok (.putfield 7, 3) := by decide +kernel
theorem dX1_init_9 : decode cX1_init 9 = .ok (.aload_n 0, 1) := by decide +kernel
theorem dX1_init_10 : decode cX1_init 10 = .ok (.iload_n 2, 1) := by decide +kernel
theorem dX1_init_11 : decode cX1_init 11 = .ok (.putfield 13, 3) := by decide +kernel
theorem dX1_init_14 : decode cX1_init 14 = .ok (.aload_n 0, 1) := by decide +kernel
theorem dX1_init_15 : decode cX1_init 15 = .ok (.iload_n 3, 1) := by decide +kernel
theorem dX1_init_16 : decode cX1_init 16 = .ok (.putfield 16, 3) := by decide +kernel
theorem dX1_init_19 : decode cX1_init 19 = .ok (.aload_n 0, 1) := by decide +kernel
theorem dX1_init_20 : decode cX1_init 20 = .ok (.iload 4, 2) := by decide +kernel
theorem dX1_init_22 : decode cX1_init 22 = .ok (.putfield 19, 3) := by decide +kernel
theorem dX1_init_25 : decode cX1_init 25 = .ok (.aload_n 0, 1) := by decide +kernel
theorem dX1_init_26 : decode cX1_init 26 = .ok (.iload 5, 2) := by decide +kernel
theorem dX1_init_28 : decode cX1_init 28 = .ok (.putfield 22, 3) := by decide +kernel
theorem dX1_init_31 : decode cX1_init 31 = .ok (.aload_n 0, 1) := by decide +kernel
theorem dX1_init_32 : decode cX1_init 32 = .ok (.iload 6, 2) := by decide +kernel
theorem dX1_init_34 : decode cX1_init 34 = .ok (.putfield 25, 3) := by decide +kernel
theorem dX1_init_37 : decode cX1_init 37 = .ok (.aload_n 0, 1) := by decide +kernel
theorem dX1_init_38 : decode cX1_init 38 = .ok (.iconst 1, 1) := by decide +kernel
theorem dX1_init_39 : decode cX1_init 39 = .ok (.iload_n 2, 1) := by decide +kernel
theorem dX1_init_40 : decode cX1_init 40 = .ok (.ishl, 1) := by decide +kernel
theorem dX1_init_41 : decode cX1_init 41 = .ok (.putfield 28, 3) := by decide +kernel
theorem dX1_init_44 : decode cX1_init 44 = .ok (.aload_n 0, 1) := by decide +kernel
theorem dX1_init_45 : decode cX1_init 45 = .ok (.iconst 0, 1) := by decide +kernel
theorem dX1_init_46 : decode cX1_init 46 = .ok (.putfield 31, 3) := by decide +kernel
theorem dX1_init_49 : decode cX1_init 49 = .ok (.aload_n 0, 1) := by decide +kernel
theorem dX1_init_50 : decode cX1_init 50 = .ok (.iconst 0, 1) := by decide +kernel
theorem dX1_init_51 : decode cX1_init 51 = .ok (.putfield 34, 3) := by decide +kernel
theorem dX1_init_54 : decode cX1_init 54 = .ok (.aload_n 0, 1) := by decide +kernel
theorem dX1_init_55 : decode cX1_init 55 = .ok (.aconst_null, 1) := by decide +kernel
theorem dX1_init_56 : decode cX1_init 56 = .ok (.putfield 38, 3) := by decide +kernel
theorem dX1_init_59 : decode cX1_init 59 = .ok (.aload_n 0, 1) := by decide +kernel
theorem dX1_init_60 : decode cX1_init 60 = .ok (.aconst_null, 1) := by decide +kernel
theorem dX1_init_61 : decode cX1_init 61 = .ok (.putfield 42, 3) := by decide +kernel
theorem dX1_init_64 : decode cX1_init 64 = .ok (.return_, 1) := by decide +kernel
theorem dX1_isLaterThan_0 : decode cX1_isLaterThan 0 = .ok (.aload_n 0, 1) := by decide +kernel
theorem dX1_isLaterThan_1 : decode cX1_isLaterThan 1 = .ok (.getfield 16, 3) := by decide +kernel
theorem dX1_isLaterThan_4 : decode cX1_isLaterThan 4 = .ok (.aload_n 1, 1) := by decide +kernel
theorem dX1_isLaterThan_5 : decode cX1_isLaterThan 5 = .ok (.getfield 16, 3) := by decide +kernel
theorem dX1_isLaterThan_8 : decode cX1_isLaterThan 8 = .ok (.if_icmp .eq 22, 3) := by decide +kernel
theorem dX1_isLaterThan_11 : decode cX1_isLaterThan 11 = .ok (.aload_n 0, 1) := by decide +kernel
theorem dX1_isLaterThan_12 : decode cX1_isLaterThan 12 = .ok (.getfield 16, 3) := by decide +kernel
theorem dX1_isLaterThan_15 : decode cX1_isLaterThan 15 = .ok (.aload_n 1, 1) := by decide +kernel
theorem dX1_isLaterThan_16 : decode cX1_isLaterThan 16 = .ok (.getfield 16, 3) := by decide +kernel
theorem dX1_isLaterThan_19 : decode cX1_isLaterThan 19 = .ok (.if_icmp .le 7, 3) := by decide +kernel
theorem dX1_isLaterThan_22 : decode cX1_isLaterThan 22 = .ok (.iconst 1, 1) := by decide +kernel
theorem dX1_isLaterThan_23 : decode cX1_isLaterThan 23 = .ok (.goto 23, 3) := by decide +kernel
theorem dX1_isLaterThan_26 : decode cX1_isLaterThan 26 = .ok (.iconst 0, 1) := by decide +kernel
theorem dX1_isLaterThan_27 : decode cX1_isLaterThan 27 = .ok (.goto 19, 3) := by decide +kernel
theorem dX1_isLaterThan_30 : decode cX1_isLaterThan 30 = .ok (.aload_n 0, 1) := by decide +kernel
theorem dX1_isLaterThan_31 : decode cX1_isLaterThan 31 = .ok (.getfield 13, 3) := by decide +kernel
theorem dX1_isLaterThan_34 : decode cX1_isLaterThan 34 = .ok (.aload_n 1, 1) := by decide +kernel
theorem dX1_isLaterThan_35 : decode cX1_isLaterThan 35 = .ok (.getfield 13, 3) := by decide +kernel
theorem dX1_isLaterThan_38 : decode cX1_isLaterThan 38 = .ok (.if_icmp .le 7, 3) := by decide +kernel
theorem dX1_isLaterThan_41 : decode cX1_isLaterThan 41 = .ok (.iconst 1, 1) := by decide +kernel
theorem dX1_isLaterThan_42 : decode cX1_isLaterThan 42 = .ok (.goto 4, 3) := by decide +kernel
theorem dX1_isLaterThan_45 : decode cX1_isLaterThan 45 = .ok (.iconst 0, 1) := by decide +kernel
theorem dX1_isLaterThan_46 : decode cX1_isLaterThan 46 = .ok (.ireturn, 1) := by decide +kernel
theorem dX1_isOfField_0 : decode cX1_isOfField 0 = .ok (.aload_n 0, 1) := by decide +kernel
theorem dX1_isOfField_1 : decode cX1_isOfField 1 = .ok (.getfield 22, 3) := by decide +kernel
theorem dX1_isOfField_4 : decode cX1_isOfField 4 = .ok (.iload_n 1, 1) := by decide +kernel
theorem dX1_isOfField_5 : decode cX1_isOfField 5 = .ok (.if_icmp .ne 15, 3) := by decide +kernel
theorem dX1_isOfField_8 : decode cX1_isOfField 8 = .ok (.aload_n 0, 1) := by decide +kernel
theorem dX1_isOfField_9 : decode cX1_isOfField 9 = .ok (.getfield 19, 3) := by decide +kernel
theorem dX1_isOfField_12 : decode cX1_isOfField 12 = .ok (.iload_n 2, 1) := by decide +kernel
theorem dX1_isOfField_13 : decode cX1_isOfField 13 = .ok (.if_icmp .ne 7, 3) := by decide +kernel
theorem dX1_isOfField_16 : decode cX1_isOfField 16 = .ok (.iconst 1, 1) := by decide +kernel
theorem dX1_isOfField_17 : decode cX1_isOfField 17 = .ok (.goto 4, 3) := by decide +kernel
theorem dX1_isOfField_20 : decode cX1_isOfField 20 = .ok (.iconst 0, 1) := by decide +kernel
theorem dX1_isOfField_21 : decode cX1_isOfField 21 = .ok (.ireturn, 1) := by decide +kernel
theorem dX1_isKnownAt_0 : decode cX1_isKnownAt 0 = .ok (.aload_n 0, 1) := by decide +kernel
theorem dX1_isKnownAt_1 : decode cX1_isKnownAt 1 = .ok (.getfield 28, 3) := by decide +kernel
theorem dX1_isKnownAt_4 : decode cX1_isKnownAt 4 = .ok (.iload_n 1, 1) := by decide +kernel
theorem dX1_isKnownAt_5 : decode cX1_isKnownAt 5 = .ok (.ishr, 1) := by decide +kernel
theorem dX1_isKnownAt_6 : decode cX1_isKnownAt 6 = .ok (.iconst 1, 1) := by decide +kernel
theorem dX1_isKnownAt_7 : decode cX1_isKnownAt 7 = .ok (.iand, 1) := by decide +kernel
theorem dX1_isKnownAt_8 : decode cX1_isKnownAt 8 = .ok (.iconst 1, 1) := by decide +kernel
theorem dX1_isKnownAt_9 : decode cX1_isKnownAt 9 = .ok (.if_icmp .ne 7, 3) := by decide +kernel
theorem dX1_isKnownAt_12 : decode cX1_isKnownAt 12 = .ok (.iconst 1, 1) := by decide +kernel
theorem dX1_isKnownAt_13 : decode cX1_isKnownAt 13 = .ok (.goto 4, 3) := by decide +kernel
theorem dX1_isKnownAt_16 : decode cX1_isKnownAt 16 = .ok (.iconst 0, 1) := by decide +kernel
theorem dX1_isKnownAt_17 : decode cX1_isKnownAt 17 = .ok (.ireturn, 1) := by decide +kernel
theorem dX1_isEndedAt_0 : decode cX1_isEndedAt 0 = .ok (.aload_n 0, 1) := by decide +kernel
theorem dX1_isEndedAt_1 : decode cX1_isEndedAt 1 = .ok (.getfield 31, 3) := by decide +kernel
theorem dX1_isEndedAt_4 : decode cX1_isEndedAt 4 = .ok (.iload_n 1, 1) := by decide +kernel
theorem dX1_isEndedAt_5 : decode cX1_isEndedAt 5 = .ok (.ishr, 1) := by decide +kernel
theorem dX1_isEndedAt_6 : decode cX1_isEndedAt 6 = .ok (.iconst 1, 1) := by decide +kernel
theorem dX1_isEndedAt_7 : decode cX1_isEndedAt 7 = .ok (.iand, 1) := by decide +kernel
theorem dX1_isEndedAt_8 : decode cX1_isEndedAt 8 = .ok (.iconst 1, 1) := by decide +kernel
theorem dX1_isEndedAt_9 : decode cX1_isEndedAt 9 = .ok (.if_icmp .ne 7, 3) := by decide +kernel
theorem dX1_isEndedAt_12 : decode cX1_isEndedAt 12 = .ok (.iconst 1, 1) := by decide +kernel
theorem dX1_isEndedAt_13 : decode cX1_isEndedAt 13 = .ok (.goto 4, 3) := by decide +kernel
theorem dX1_isEndedAt_16 : decode cX1_isEndedAt 16 = .ok (.iconst 0, 1) := by decide +kernel
theorem dX1_isEndedAt_17 : decode cX1_isEndedAt 17 = .ok (.ireturn, 1) := by decide +kernel
theorem dX1_endAt_0 : decode cX1_endAt 0 = .ok (.aload_n 0, 1) := by decide +kernel
theorem dX1_endAt_1 : decode cX1_endAt 1 = .ok (.dup, 1) := by decide +kernel
theorem dX1_endAt_2 : decode cX1_endAt 2 = .ok (.getfield 31, 3) := by decide +kernel
theorem dX1_endAt_5 : decode cX1_endAt 5 = .ok (.iconst 1, 1) := by decide +kernel
theorem dX1_endAt_6 : decode cX1_endAt 6 = .ok (.iload_n 1, 1) := by decide +kernel
theorem dX1_endAt_7 : decode cX1_endAt 7 = .ok (.ishl, 1) := by decide +kernel
theorem dX1_endAt_8 : decode cX1_endAt 8 = .ok (.ior, 1) := by decide +kernel
theorem dX1_endAt_9 : decode cX1_endAt 9 = .ok (.putfield 31, 3) := by decide +kernel
theorem dX1_endAt_12 : decode cX1_endAt 12 = .ok (.return_, 1) := by decide +kernel
theorem dX1_pass_0 : decode cX1_pass 0 = .ok (.aload_n 0, 1) := by decide +kernel
theorem dX1_pass_1 : decode cX1_pass 1 = .ok (.dup, 1) := by decide +kernel
theorem dX1_pass_2 : decode cX1_pass 2 = .ok (.getfield 28, 3) := by decide +kernel
theorem dX1_pass_5 : decode cX1_pass 5 = .ok (.aload_n 0, 1) := by decide +kernel
theorem dX1_pass_6 : decode cX1_pass 6 = .ok (.getfield 28, 3) := by decide +kernel
theorem dX1_pass_9 : decode cX1_pass 9 = .ok (.iload_n 1, 1) := by decide +kernel
theorem dX1_pass_10 : decode cX1_pass 10 = .ok (.ishr, 1) := by decide +kernel
theorem dX1_pass_11 : decode cX1_pass 11 = .ok (.iconst 1, 1) := by decide +kernel
theorem dX1_pass_12 : decode cX1_pass 12 = .ok (.iand, 1) := by decide +kernel
theorem dX1_pass_13 : decode cX1_pass 13 = .ok (.iload_n 2, 1) := by decide +kernel
theorem dX1_pass_14 : decode cX1_pass 14 = .ok (.ishl, 1) := by decide +kernel
theorem dX1_pass_15 : decode cX1_pass 15 = .ok (.ior, 1) := by decide +kernel
theorem dX1_pass_16 : decode cX1_pass 16 = .ok (.putfield 28, 3) := by decide +kernel
theorem dX1_pass_19 : decode cX1_pass 19 = .ok (.aload_n 0, 1) := by decide +kernel
theorem dX1_pass_20 : decode cX1_pass 20 = .ok (.dup, 1) := by decide +kernel
theorem dX1_pass_21 : decode cX1_pass 21 = .ok (.getfield 31, 3) := by decide +kernel
theorem dX1_pass_24 : decode cX1_pass 24 = .ok (.aload_n 0, 1) := by decide +kernel
theorem dX1_pass_25 : decode cX1_pass 25 = .ok (.getfield 31, 3) := by decide +kernel
theorem dX1_pass_28 : decode cX1_pass 28 = .ok (.iload_n 1, 1) := by decide +kernel
theorem dX1_pass_29 : decode cX1_pass 29 = .ok (.ishr, 1) := by decide +kernel
theorem dX1_pass_30 : decode cX1_pass 30 = .ok (.iconst 1, 1) := by decide +kernel
theorem dX1_pass_31 : decode cX1_pass 31 = .ok (.iand, 1) := by decide +kernel
theorem dX1_pass_32 : decode cX1_pass 32 = .ok (.iload_n 2, 1) := by decide +kernel
theorem dX1_pass_33 : decode cX1_pass 33 = .ok (.ishl, 1) := by decide +kernel
theorem dX1_pass_34 : decode cX1_pass 34 = .ok (.ior, 1) := by decide +kernel
theorem dX1_pass_35 : decode cX1_pass 35 = .ok (.putfield 31, 3) := by decide +kernel
theorem dX1_pass_38 : decode cX1_pass 38 = .ok (.return_, 1) := by decide +kernel
theorem dX1_isForgotten_0 : decode cX1_isForgotten 0 = .ok (.aload_n 0, 1) := by decide +kernel
theorem dX1_isForgotten_1 : decode cX1_isForgotten 1 = .ok (.getfield 28, 3) := by decide +kernel
theorem dX1_isForgotten_4 : decode cX1_isForgotten 4 = .ok (.ifCond .ne 7, 3) := by decide +kernel
theorem dX1_isForgotten_7 : decode cX1_isForgotten 7 = .ok (.iconst 1, 1) := by decide +kernel
theorem dX1_isForgotten_8 : decode cX1_isForgotten 8 = .ok (.goto 4, 3) := by decide +kernel
theorem dX1_isForgotten_11 : decode cX1_isForgotten 11 = .ok (.iconst 0, 1) := by decide +kernel
theorem dX1_isForgotten_12 : decode cX1_isForgotten 12 = .ok (.ireturn, 1) := by decide +kernel
theorem dX1_forget_0 : decode cX1_forget 0 = .ok (.aload_n 0, 1) := by decide +kernel
theorem dX1_forget_1 : decode cX1_forget 1 = .ok (.iconst 0, 1) := by decide +kernel
theorem dX1_forget_2 : decode cX1_forget 2 = .ok (.putfield 28, 3) := by decide +kernel
theorem dX1_forget_5 : decode cX1_forget 5 = .ok (.return_, 1) := by decide +kernel
theorem dX2_init_0 : decode cX2_init 0 = .ok (.aload_n 0, 1) := by decide +kernel
theorem dX2_init_1 : decode cX2_init 1 = .ok (.invokespecial 3, 3) := by decide +kernel
theorem dX2_init_4 : decode cX2_init 4 = .ok (.aload_n 0, 1) := by decide +kernel
theorem dX2_init_5 : decode cX2_init 5 = .ok (.bipush 120, 2) := by decide +kernel
theorem dX2_init_7 : decode cX2_init 7 = .ok (.anewarray 9, 3) := by decide +kernel
theorem dX2_init_10 : decode cX2_init 10 = .ok (.putfield 11, 3) := by decide +kernel
theorem dX2_init_13 : decode cX2_init 13 = .ok (.aload_n 0, 1) := by decide +kernel
theorem dX2_init_14 : decode cX2_init 14 = .ok (.bipush 16, 2) := by decide +kernel
theorem dX2_init_16 : decode cX2_init 16 = .ok (.anewarray 9, 3) := by decide +kernel
theorem dX2_init_19 : decode cX2_init 19 = .ok (.putfield 15, 3) := by decide +kernel
theorem dX2_init_22 : decode cX2_init 22 = .ok (.aload_n 0, 1) := by decide +kernel
theorem dX2_init_23 : decode cX2_init 23 = .ok (.bipush 6, 2) := by decide +kernel
theorem dX2_init_25 : decode cX2_init 25 = .ok (.newarray .int, 2) := by decide +kernel
theorem dX2_init_27 : decode cX2_init 27 = .ok (.putfield 18, 3) := by decide +kernel
theorem dX2_init_30 : decode cX2_init 30 = .ok (.aload_n 0, 1) := by decide +kernel
theorem dX2_init_31 : decode cX2_init 31 = .ok (.new 22, 3) := by decide +kernel
theorem dX2_init_34 : decode cX2_init 34 = .ok (.dup, 1) := by decide +kernel
theorem dX2_init_35 : decode cX2_init 35 = .ok (.invokespecial 24, 3) := by decide +kernel
theorem dX2_init_38 : decode cX2_init 38 = .ok (.putfield 25, 3) := by decide +kernel
theorem dX2_init_41 : decode cX2_init 41 = .ok (.aload_n 0, 1) := by decide +kernel
theorem dX2_init_42 : decode cX2_init 42 = .ok (.aconst_null, 1) := by decide +kernel
theorem dX2_init_43 : decode cX2_init 43 = .ok (.putfield 29, 3) := by decide +kernel
theorem dX2_init_46 : decode cX2_init 46 = .ok (.aload_n 0, 1) := by decide +kernel
theorem dX2_init_47 : decode cX2_init 47 = .ok (.iconst 0, 1) := by decide +kernel
theorem dX2_init_48 : decode cX2_init 48 = .ok (.putfield 33, 3) := by decide +kernel
theorem dX2_init_51 : decode cX2_init 51 = .ok (.return_, 1) := by decide +kernel
theorem dX2_tell_0 : decode cX2_tell 0 = .ok (.iload_n 1, 1) := by decide +kernel
theorem dX2_tell_1 : decode cX2_tell 1 = .ok (.invokestatic 37, 3) := by decide +kernel
theorem dX2_tell_4 : decode cX2_tell 4 = .ok (.iload_n 2, 1) := by decide +kernel
theorem dX2_tell_5 : decode cX2_tell 5 = .ok (.invokestatic 41, 3) := by decide +kernel
theorem dX2_tell_8 : decode cX2_tell 8 = .ok (.iload_n 3, 1) := by decide +kernel
theorem dX2_tell_9 : decode cX2_tell 9 = .ok (.iconst 2, 1) := by decide +kernel
theorem dX2_tell_10 : decode cX2_tell 10 = .ok (.invokestatic 44, 3) := by decide +kernel
theorem dX2_tell_13 : decode cX2_tell 13 = .ok (.iload 4, 2) := by decide +kernel
theorem dX2_tell_15 : decode cX2_tell 15 = .ok (.iload_n 3, 1) := by decide +kernel
theorem dX2_tell_16 : decode cX2_tell 16 = .ok (.iconst 2, 1) := by decide +kernel
theorem dX2_tell_17 : decode cX2_tell 17 = .ok (.if_icmp .ne 8, 3) := by decide +kernel
theorem dX2_tell_20 : decode cX2_tell 20 = .ok (.bipush 32, 2) := by decide +kernel
theorem dX2_tell_22 : decode cX2_tell 22 = .ok (.goto 6, 3) := by decide +kernel
theorem dX2_tell_25 : decode cX2_tell 25 = .ok (.sipush 1000, 3) := by decide +kernel
theorem dX2_tell_28 : decode cX2_tell 28 = .ok (.invokestatic 48, 3) := by decide +kernel
theorem dX2_tell_31 : decode cX2_tell 31 = .ok (.aload_n 0, 1) := by decide +kernel
theorem dX2_tell_32 : decode cX2_tell 32 = .ok (.iload_n 1, 1) := by decide +kernel
theorem dX2_tell_33 : decode cX2_tell 33 = .ok (.iload_n 3, 1) := by decide +kernel
theorem dX2_tell_34 : decode cX2_tell 34 = .ok (.iload_n 2, 1) := by decide +kernel
theorem dX2_tell_35 : decode cX2_tell 35 = .ok (.iload 4, 2) := by decide +kernel
theorem dX2_tell_37 : decode cX2_tell 37 = .ok (.invokevirtual 51, 3) := by decide +kernel
theorem dX2_tell_40 : decode cX2_tell 40 = .ok (.getfield 55, 3) := by decide +kernel
theorem dX2_tell_43 : decode cX2_tell 43 = .ok (.ireturn, 1) := by decide +kernel
theorem dX2_insert_0 : decode cX2_insert 0 = .ok (.iload_n 1, 1) := by decide +kernel
theorem dX2_insert_1 : decode cX2_insert 1 = .ok (.invokestatic 37, 3) := by decide +kernel
theorem dX2_insert_4 : decode cX2_insert 4 = .ok (.iload_n 2, 1) := by decide +kernel
theorem dX2_insert_5 : decode cX2_insert 5 = .ok (.invokestatic 41, 3) := by decide +kernel
theorem dX2_insert_8 : decode cX2_insert 8 = .ok (.iload_n 3, 1) := by decide +kernel
theorem dX2_insert_9 : decode cX2_insert 9 = .ok (.iconst (-1), 1) := by decide +kernel
theorem dX2_insert_10 : decode cX2_insert 10 = .ok (.if_icmp .ne 7, 3) := by decide +kernel
theorem dX2_insert_13 : decode cX2_insert 13 = .ok (.aconst_null, 1) := by decide +kernel
theorem dX2_insert_14 : decode cX2_insert 14 = .ok (.goto 9, 3) := by decide +kernel
theorem dX2_insert_17 : decode cX2_insert 17 = .ok (.aload_n 0, 1) := by decide +kernel
theorem dX2_insert_18 : decode cX2_insert 18 = .ok (.iload_n 1, 1) := by decide +kernel
theorem dX2_insert_19 : decode cX2_insert 19 = .ok (.iload_n 3, 1) := by decide +kernel
theorem dX2_insert_20 : decode cX2_insert 20 = .ok (.invokevirtual 58, 3) := by decide +kernel
theorem dX2_insert_23 : decode cX2_insert 23 = .ok (.astore 5, 2) := by decide +kernel
theorem dX2_insert_25 : decode cX2_insert 25 = .ok (.aload 5, 2) := by decide +kernel
theorem dX2_insert_27 : decode cX2_insert 27 = .ok (.ifnull 31, 3) := by decide +kernel
theorem dX2_insert_30 : decode cX2_insert 30 = .ok (.aload 5, 2) := by decide +kernel
theorem dX2_insert_32 : decode cX2_insert 32 = .ok (.getfield 62, 3) := by decide +kernel
theorem dX2_insert_35 : decode cX2_insert 35 = .ok (.iconst 3, 1) := by decide +kernel
theorem dX2_insert_36 : decode cX2_insert 36 = .ok (.if_icmp .ne 12, 3) := by decide +kernel
theorem dX2_insert_39 : decode cX2_insert 39 = .ok (.aload 5, 2) := by decide +kernel
theorem dX2_insert_41 : decode cX2_insert 41 = .ok (.getfield 65, 3) := by decide +kernel
theorem dX2_insert_44 : decode cX2_insert 44 = .ok (.iload_n 2, 1) := by decide +kernel
theorem dX2_insert_45 : decode cX2_insert 45 = .ok (.if_icmp .eq 13, 3) := by decide +kernel
theorem dX2_insert_48 : decode cX2_insert 48 = .ok (.new 68, 3) := by decide +kernel
theorem dX2_insert_51 : decode cX2_insert 51 = .ok (.dup, 1) := by decide +kernel
theorem dX2_insert_52 : decode cX2_insert 52 = .ok (.ldc 70, 2) := by decide +kernel
theorem dX2_insert_54 : decode cX2_insert 54 = .ok (.invokespecial 72, 3) := by decide +kernel
theorem dX2_insert_57 : decode cX2_insert 57 = .ok (.athrow, 1) := by decide +kernel
theorem dX2_insert_58 : decode cX2_insert 58 = .ok (.iload 4, 2) := by decide +kernel
theorem dX2_insert_60 : decode cX2_insert 60 = .ok (.sipush 1000, 3) := by decide +kernel
theorem dX2_insert_63 : decode cX2_insert 63 = .ok (.invokestatic 48, 3) := by decide +kernel
theorem dX2_insert_66 : decode cX2_insert 66 = .ok (.aload_n 0, 1) := by decide +kernel
theorem dX2_insert_67 : decode cX2_insert 67 = .ok (.iload_n 1, 1) := by decide +kernel
theorem dX2_insert_68 : decode cX2_insert 68 = .ok (.iconst 3, 1) := by decide +kernel
theorem dX2_insert_69 : decode cX2_insert 69 = .ok (.iload_n 2, 1) := by decide +kernel
theorem dX2_insert_70 : decode cX2_insert 70 = .ok (.iload 4, 2) := by decide +kernel
theorem dX2_insert_72 : decode cX2_insert 72 = .ok (.invokevirtual 51, 3) := by decide +kernel
theorem dX2_insert_75 : decode cX2_insert 75 = .ok (.astore 6, 2) := by decide +kernel
theorem dX2_insert_77 : decode cX2_insert 77 = .ok (.aload_n 0, 1) := by decide +kernel
theorem dX2_insert_78 : decode cX2_insert 78 = .ok (.iload_n 2, 1) := by decide +kernel
theorem dX2_insert_79 : decode cX2_insert 79 = .ok (.aload 5, 2) := by decide +kernel
theorem dX2_insert_81 : decode cX2_insert 81 = .ok (.aload 6, 2) := by decide +kernel
theorem dX2_insert_83 : decode cX2_insert 83 = .ok (.invokevirtual 75, 3) := by decide +kernel
theorem dX2_insert_86 : decode cX2_insert 86 = .ok (.aload 6, 2) := by decide +kernel
theorem dX2_insert_88 : decode cX2_insert 88 = .ok (.getfield 55, 3) := by decide +kernel
theorem dX2_insert_91 : decode cX2_insert 91 = .ok (.ireturn, 1) := by decide +kernel
theorem dX2_remove_0 : decode cX2_remove 0 = .ok (.aload_n 0, 1) := by decide +kernel
theorem dX2_remove_1 : decode cX2_remove 1 = .ok (.iload_n 1, 1) := by decide +kernel
theorem dX2_remove_2 : decode cX2_remove 2 = .ok (.iload_n 2, 1) := by decide +kernel
theorem dX2_remove_3 : decode cX2_remove 3 = .ok (.iconst 3, 1) := by decide +kernel
theorem dX2_remove_4 : decode cX2_remove 4 = .ok (.iconst 4, 1) := by decide +kernel
theorem dX2_remove_5 : decode cX2_remove 5 = .ok (.invokevirtual 79, 3) := by decide +kernel
theorem dX2_remove_8 : decode cX2_remove 8 = .ok (.ireturn, 1) := by decide +kernel
theorem dX2_relate_0 : decode cX2_relate 0 = .ok (.iload_n 1, 1) := by decide +kernel
theorem dX2_relate_1 : decode cX2_relate 1 = .ok (.invokestatic 37, 3) := by decide +kernel
theorem dX2_relate_4 : decode cX2_relate 4 = .ok (.iload_n 2, 1) := by decide +kernel
theorem dX2_relate_5 : decode cX2_relate 5 = .ok (.invokestatic 83, 3) := by decide +kernel
theorem dX2_relate_8 : decode cX2_relate 8 = .ok (.iload_n 3, 1) := by decide +kernel
theorem dX2_relate_9 : decode cX2_relate 9 = .ok (.invokestatic 83, 3) := by decide +kernel
theorem dX2_relate_12 : decode cX2_relate 12 = .ok (.iload_n 2, 1) := by decide +kernel
theorem dX2_relate_13 : decode cX2_relate 13 = .ok (.iload_n 3, 1) := by decide +kernel
theorem dX2_relate_14 : decode cX2_relate 14 = .ok (.if_icmp .ne 13, 3) := by decide +kernel
theorem dX2_relate_17 : decode cX2_relate 17 = .ok (.new 68, 3) := by decide +kernel
theorem dX2_relate_20 : decode cX2_relate 20 = .ok (.dup, 1) := by decide +kernel
theorem dX2_relate_21 : decode cX2_relate 21 = .ok (.ldc 86, 2) := by decide +kernel
theorem dX2_relate_23 : decode cX2_relate 23 = .ok (.invokespecial 72, 3) := by decide +kernel
theorem dX2_relate_26 : decode cX2_relate 26 = .ok (.athrow, 1) := by decide +kernel
theorem dX2_relate_27 : decode cX2_relate 27 = .ok (.aload_n 0, 1) := by decide +kernel
theorem dX2_relate_28 : decode cX2_relate 28 = .ok (.iload_n 1, 1) := by decide +kernel
theorem dX2_relate_29 : decode cX2_relate 29 = .ok (.iconst 5, 1) := by decide +kernel
theorem dX2_relate_30 : decode cX2_relate 30 = .ok (.iconst (-1), 1) := by decide +kernel
theorem dX2_relate_31 : decode cX2_relate 31 = .ok (.bipush 16, 2) := by decide +kernel
theorem dX2_relate_33 : decode cX2_relate 33 = .ok (.iload_n 2, 1) := by decide +kernel
theorem dX2_relate_34 : decode cX2_relate 34 = .ok (.imul, 1) := by decide +kernel
theorem dX2_relate_35 : decode cX2_relate 35 = .ok (.iload_n 3, 1) := by decide +kernel
theorem dX2_relate_36 : decode cX2_relate 36 = .ok (.iadd, 1) := by decide +kernel
theorem dX2_relate_37 : decode cX2_relate 37 = .ok (.invokevirtual 51, 3) := by decide +kernel
theorem dX2_relate_40 : decode cX2_relate 40 = .ok (.getfield 55, 3) := by decide +kernel
theorem dX2_relate_43 : decode cX2_relate 43 = .ok (.ireturn, 1) := by decide +kernel
theorem dX2_drop_0 : decode cX2_drop 0 = .ok (.aload_n 0, 1) := by decide +kernel
theorem dX2_drop_1 : decode cX2_drop 1 = .ok (.iload_n 1, 1) := by decide +kernel
theorem dX2_drop_2 : decode cX2_drop 2 = .ok (.iload_n 2, 1) := by decide +kernel
theorem dX2_drop_3 : decode cX2_drop 3 = .ok (.iconst 5, 1) := by decide +kernel
theorem dX2_drop_4 : decode cX2_drop 4 = .ok (.bipush 6, 2) := by decide +kernel
theorem dX2_drop_6 : decode cX2_drop 6 = .ok (.invokevirtual 79, 3) := by decide +kernel
theorem dX2_drop_9 : decode cX2_drop 9 = .ok (.ireturn, 1) := by decide +kernel
theorem dX2_join_0 : decode cX2_join 0 = .ok (.iload_n 1, 1) := by decide +kernel
theorem dX2_join_1 : decode cX2_join 1 = .ok (.invokestatic 37, 3) := by decide +kernel
theorem dX2_join_4 : decode cX2_join 4 = .ok (.iload_n 2, 1) := by decide +kernel
theorem dX2_join_5 : decode cX2_join 5 = .ok (.invokestatic 37, 3) := by decide +kernel
theorem dX2_join_8 : decode cX2_join 8 = .ok (.iconst 0, 1) := by decide +kernel
theorem dX2_join_9 : decode cX2_join 9 = .ok (.istore_n 3, 1) := by decide +kernel
theorem dX2_join_10 : decode cX2_join 10 = .ok (.aload_n 0, 1) := by decide +kernel
theorem dX2_join_11 : decode cX2_join 11 = .ok (.getfield 29, 3) := by decide +kernel
theorem dX2_join_14 : decode cX2_join 14 = .ok (.astore 4, 2) := by decide +kernel
theorem dX2_join_16 : decode cX2_join 16 = .ok (.aload 4, 2) := by decide +kernel
theorem dX2_join_18 : decode cX2_join 18 = .ok (.ifnull 41, 3) := by decide +kernel
theorem dX2_join_21 : decode cX2_join 21 = .ok (.aload 4, 2) := by decide +kernel
theorem dX2_join_23 : decode cX2_join 23 = .ok (.iload_n 2, 1) := by decide +kernel
theorem dX2_join_24 : decode cX2_join 24 = .ok (.invokevirtual 88, 3) := by decide +kernel
theorem dX2_join_27 : decode cX2_join 27 = .ok (.ifCond .eq 15, 3) := by decide +kernel
theorem dX2_join_30 : decode cX2_join 30 = .ok (.aload 4, 2) := by decide +kernel
theorem dX2_join_32 : decode cX2_join 32 = .ok (.iload_n 1, 1) := by decide +kernel
theorem dX2_join_33 : decode cX2_join 33 = .ok (.invokevirtual 88, 3) := by decide +kernel
theorem dX2_join_36 : decode cX2_join 36 = .ok (.ifCond .ne 6, 3) := by decide +kernel
theorem dX2_join_39 : decode cX2_join 39 = .ok (.iinc 3 1, 3) := by decide +kernel
theorem dX2_join_42 : decode cX2_join 42 = .ok (.aload 4, 2) := by decide +kernel
theorem dX2_join_44 : decode cX2_join 44 = .ok (.iload_n 2, 1) := by decide +kernel
theorem dX2_join_45 : decode cX2_join 45 = .ok (.iload_n 1, 1) := by decide +kernel
theorem dX2_join_46 : decode cX2_join 46 = .ok (.invokevirtual 92, 3) := by decide +kernel
theorem dX2_join_49 : decode cX2_join 49 = .ok (.aload 4, 2) := by decide +kernel
theorem dX2_join_51 : decode cX2_join 51 = .ok (.getfield 95, 3) := by decide +kernel
theorem dX2_join_54 : decode cX2_join 54 = .ok (.astore 4, 2) := by decide +kernel
theorem dX2_join_56 : decode cX2_join 56 = .ok (.goto (-40), 3) := by decide +kernel
theorem dX2_join_59 : decode cX2_join 59 = .ok (.iload_n 3, 1) := by decide +kernel
theorem dX2_join_60 : decode cX2_join 60 = .ok (.ireturn, 1) := by decide +kernel
theorem dX2_number_0 : decode cX2_number 0 = .ok (.iload_n 1, 1) := by decide +kernel
theorem dX2_number_1 : decode cX2_number 1 = .ok (.invokestatic 37, 3) := by decide +kernel
theorem dX2_number_4 : decode cX2_number 4 = .ok (.aload_n 0, 1) := by decide +kernel
theorem dX2_number_5 : decode cX2_number 5 = .ok (.getfield 18, 3) := by decide +kernel
theorem dX2_number_8 : decode cX2_number 8 = .ok (.iload_n 1, 1) := by decide +kernel
theorem dX2_number_9 : decode cX2_number 9 = .ok (.iaload, 1) := by decide +kernel
theorem dX2_number_10 : decode cX2_number 10 = .ok (.istore_n 2, 1) := by decide +kernel
theorem dX2_number_11 : decode cX2_number 11 = .ok (.iload_n 2, 1) := by decide +kernel
theorem dX2_number_12 : decode cX2_number 12 = .ok (.sipush 1000, 3) := by decide +kernel
theorem dX2_number_15 : decode cX2_number 15 = .ok (.if_icmp .lt 13, 3) := by decide +kernel
theorem dX2_number_18 : decode cX2_number 18 = .ok (.new 98, 3) := by decide +kernel
theorem dX2_number_21 : decode cX2_number 21 = .ok (.dup, 1) := by decide +kernel
theorem dX2_number_22 : decode cX2_number 22 = .ok (.ldc 100, 2) := by decide +kernel
theorem dX2_number_24 : decode cX2_number 24 = .ok (.invokespecial 102, 3) := by decide +kernel
theorem dX2_number_27 : decode cX2_number 27 = .ok (.athrow, 1) := by decide +kernel
theorem dX2_number_28 : decode cX2_number 28 = .ok (.aload_n 0, 1) := by decide +kernel
theorem dX2_number_29 : decode cX2_number 29 = .ok (.getfield 18, 3) := by decide +kernel
theorem dX2_number_32 : decode cX2_number 32 = .ok (.iload_n 1, 1) := by decide +kernel
theorem dX2_number_33 : decode cX2_number 33 = .ok (.iload_n 2, 1) := by decide +kernel
theorem dX2_number_34 : decode cX2_number 34 = .ok (.iconst 1, 1) := by decide +kernel
theorem dX2_number_35 : decode cX2_number 35 = .ok (.iadd, 1) := by decide +kernel
theorem dX2_number_36 : decode cX2_number 36 = .ok (.iastore, 1) := by decide +kernel
theorem dX2_number_37 : decode cX2_number 37 = .ok (.sipush 1000, 3) := by decide +kernel
theorem dX2_number_40 : decode cX2_number 40 = .ok (.iload_n 1, 1) := by decide +kernel
theorem dX2_number_41 : decode cX2_number 41 = .ok (.imul, 1) := by decide +kernel
theorem dX2_number_42 : decode cX2_number 42 = .ok (.iload_n 2, 1) := by decide +kernel
theorem dX2_number_43 : decode cX2_number 43 = .ok (.iadd, 1) := by decide +kernel
theorem dX2_number_44 : decode cX2_number 44 = .ok (.ireturn, 1) := by decide +kernel
theorem dX2_at_0 : decode cX2_at 0 = .ok (.iload_n 1, 1) := by decide +kernel
theorem dX2_at_1 : decode cX2_at 1 = .ok (.invokestatic 37, 3) := by decide +kernel
theorem dX2_at_4 : decode cX2_at 4 = .ok (.iload_n 2, 1) := by decide +kernel
theorem dX2_at_5 : decode cX2_at 5 = .ok (.invokestatic 41, 3) := by decide +kernel
theorem dX2_at_8 : decode cX2_at 8 = .ok (.iload_n 3, 1) := by decide +kernel
theorem dX2_at_9 : decode cX2_at 9 = .ok (.iconst 3, 1) := by decide +kernel
theorem dX2_at_10 : decode cX2_at 10 = .ok (.invokestatic 44, 3) := by decide +kernel
theorem dX2_at_13 : decode cX2_at 13 = .ok (.iload 4, 2) := by decide +kernel
theorem dX2_at_15 : decode cX2_at 15 = .ok (.invokestatic 103, 3) := by decide +kernel
theorem dX2_at_18 : decode cX2_at 18 = .ok (.iload_n 3, 1) := by decide +kernel
theorem dX2_at_19 : decode cX2_at 19 = .ok (.tableswitch 66 0 2 #[25, 41, 57], 25) := by decide +kernel
theorem dX2_at_44 : decode cX2_at 44 = .ok (.iload 4, 2) := by decide +kernel
theorem dX2_at_46 : decode cX2_at 46 = .ok (.ifCond .ne 12, 3) := by decide +kernel
theorem dX2_at_49 : decode cX2_at 49 = .ok (.aload_n 0, 1) := by decide +kernel
theorem dX2_at_50 : decode cX2_at 50 = .ok (.iload_n 1, 1) := by decide +kernel
theorem dX2_at_51 : decode cX2_at 51 = .ok (.iload_n 2, 1) := by decide +kernel
theorem dX2_at_52 : decode cX2_at 52 = .ok (.invokevirtual 106, 3) := by decide +kernel
theorem dX2_at_55 : decode cX2_at 55 = .ok (.goto 4, 3) := by decide +kernel
theorem dX2_at_58 : decode cX2_at 58 = .ok (.iconst (-1), 1) := by decide +kernel
theorem dX2_at_59 : decode cX2_at 59 = .ok (.ireturn, 1) := by decide +kernel
theorem dX2_at_60 : decode cX2_at 60 = .ok (.iload 4, 2) := by decide +kernel
theorem dX2_at_62 : decode cX2_at 62 = .ok (.ifCond .ne 12, 3) := by decide +kernel
theorem dX2_at_65 : decode cX2_at 65 = .ok (.aload_n 0, 1) := by decide +kernel
theorem dX2_at_66 : decode cX2_at 66 = .ok (.iload_n 1, 1) := by decide +kernel
theorem dX2_at_67 : decode cX2_at 67 = .ok (.iload_n 2, 1) := by decide +kernel
theorem dX2_at_68 : decode cX2_at 68 = .ok (.invokevirtual 110, 3) := by decide +kernel
theorem dX2_at_71 : decode cX2_at 71 = .ok (.goto 4, 3) := by decide +kernel
theorem dX2_at_74 : decode cX2_at 74 = .ok (.iconst (-1), 1) := by decide +kernel
theorem dX2_at_75 : decode cX2_at 75 = .ok (.ireturn, 1) := by decide +kernel
theorem dX2_at_76 : decode cX2_at 76 = .ok (.aload_n 0, 1) := by decide +kernel
theorem dX2_at_77 : decode cX2_at 77 = .ok (.iload_n 1, 1) := by decide +kernel
theorem dX2_at_78 : decode cX2_at 78 = .ok (.iload_n 2, 1) := by decide +kernel
theorem dX2_at_79 : decode cX2_at 79 = .ok (.iload 4, 2) := by decide +kernel
theorem dX2_at_81 : decode cX2_at 81 = .ok (.invokevirtual 113, 3) := by decide +kernel
theorem dX2_at_84 : decode cX2_at 84 = .ok (.ireturn, 1) := by decide +kernel
theorem dX2_at_85 : decode cX2_at 85 = .ok (.aload_n 0, 1) := by decide +kernel
theorem dX2_at_86 : decode cX2_at 86 = .ok (.iload_n 1, 1) := by decide +kernel
theorem dX2_at_87 : decode cX2_at 87 = .ok (.iload_n 2, 1) := by decide +kernel
theorem dX2_at_88 : decode cX2_at 88 = .ok (.iload 4, 2) := by decide +kernel
theorem dX2_at_90 : decode cX2_at 90 = .ok (.invokevirtual 117, 3) := by decide +kernel
theorem dX2_at_93 : decode cX2_at 93 = .ok (.astore 5, 2) := by decide +kernel
theorem dX2_at_95 : decode cX2_at 95 = .ok (.aload 5, 2) := by decide +kernel
theorem dX2_at_97 : decode cX2_at 97 = .ok (.ifnonnull 7, 3) := by decide +kernel
theorem dX2_at_100 : decode cX2_at 100 = .ok (.iconst (-1), 1) := by decide +kernel
theorem dX2_at_101 : decode cX2_at 101 = .ok (.goto 8, 3) := by decide +kernel
theorem dX2_at_104 : decode cX2_at 104 = .ok (.aload 5, 2) := by decide +kernel
theorem dX2_at_106 : decode cX2_at 106 = .ok (.getfield 121, 3) := by decide +kernel
theorem dX2_at_109 : decode cX2_at 109 = .ok (.ireturn, 1) := by decide +kernel
theorem dX2_place_0 : decode cX2_place 0 = .ok (.iload_n 1, 1) := by decide +kernel
theorem dX2_place_1 : decode cX2_place 1 = .ok (.invokestatic 37, 3) := by decide +kernel
theorem dX2_place_4 : decode cX2_place 4 = .ok (.iload_n 2, 1) := by decide +kernel
theorem dX2_place_5 : decode cX2_place 5 = .ok (.invokestatic 41, 3) := by decide +kernel
theorem dX2_place_8 : decode cX2_place 8 = .ok (.iload_n 3, 1) := by decide +kernel
theorem dX2_place_9 : decode cX2_place 9 = .ok (.invokestatic 103, 3) := by decide +kernel
theorem dX2_place_12 : decode cX2_place 12 = .ok (.aload_n 0, 1) := by decide +kernel
theorem dX2_place_13 : decode cX2_place 13 = .ok (.iload_n 1, 1) := by decide +kernel
theorem dX2_place_14 : decode cX2_place 14 = .ok (.iload_n 2, 1) := by decide +kernel
theorem dX2_place_15 : decode cX2_place 15 = .ok (.iload_n 3, 1) := by decide +kernel
theorem dX2_place_16 : decode cX2_place 16 = .ok (.invokevirtual 117, 3) := by decide +kernel
theorem dX2_place_19 : decode cX2_place 19 = .ok (.astore 4, 2) := by decide +kernel
theorem dX2_place_21 : decode cX2_place 21 = .ok (.aload 4, 2) := by decide +kernel
theorem dX2_place_23 : decode cX2_place 23 = .ok (.ifnonnull 7, 3) := by decide +kernel
theorem dX2_place_26 : decode cX2_place 26 = .ok (.iconst (-1), 1) := by decide +kernel
theorem dX2_place_27 : decode cX2_place 27 = .ok (.goto 8, 3) := by decide +kernel
theorem dX2_place_30 : decode cX2_place 30 = .ok (.aload 4, 2) := by decide +kernel
theorem dX2_place_32 : decode cX2_place 32 = .ok (.getfield 55, 3) := by decide +kernel
theorem dX2_place_35 : decode cX2_place 35 = .ok (.ireturn, 1) := by decide +kernel
theorem dX2_order_0 : decode cX2_order 0 = .ok (.iload_n 1, 1) := by decide +kernel
theorem dX2_order_1 : decode cX2_order 1 = .ok (.invokestatic 37, 3) := by decide +kernel
theorem dX2_order_4 : decode cX2_order 4 = .ok (.iload_n 2, 1) := by decide +kernel
theorem dX2_order_5 : decode cX2_order 5 = .ok (.invokestatic 83, 3) := by decide +kernel
theorem dX2_order_8 : decode cX2_order 8 = .ok (.iload_n 3, 1) := by decide +kernel
theorem dX2_order_9 : decode cX2_order 9 = .ok (.invokestatic 83, 3) := by decide +kernel
theorem dX2_order_12 : decode cX2_order 12 = .ok (.aload_n 0, 1) := by decide +kernel
theorem dX2_order_13 : decode cX2_order 13 = .ok (.iload_n 1, 1) := by decide +kernel
theorem dX2_order_14 : decode cX2_order 14 = .ok (.invokevirtual 124, 3) := by decide +kernel
theorem dX2_order_17 : decode cX2_order 17 = .ok (.aload_n 0, 1) := by decide +kernel
theorem dX2_order_18 : decode cX2_order 18 = .ok (.getfield 25, 3) := by decide +kernel
theorem dX2_order_21 : decode cX2_order 21 = .ok (.iload_n 2, 1) := by decide +kernel
theorem dX2_order_22 : decode cX2_order 22 = .ok (.iload_n 3, 1) := by decide +kernel
theorem dX2_order_23 : decode cX2_order 23 = .ok (.invokevirtual 127, 3) := by decide +kernel
theorem dX2_order_26 : decode cX2_order 26 = .ok (.ifCond .eq 5, 3) := by decide +kernel
theorem dX2_order_29 : decode cX2_order 29 = .ok (.iconst 1, 1) := by decide +kernel
theorem dX2_order_30 : decode cX2_order 30 = .ok (.ireturn, 1) := by decide +kernel
theorem dX2_order_31 : decode cX2_order 31 = .ok (.aload_n 0, 1) := by decide +kernel
theorem dX2_order_32 : decode cX2_order 32 = .ok (.getfield 25, 3) := by decide +kernel
theorem dX2_order_35 : decode cX2_order 35 = .ok (.iload_n 3, 1) := by decide +kernel
theorem dX2_order_36 : decode cX2_order 36 = .ok (.iload_n 2, 1) := by decide +kernel
theorem dX2_order_37 : decode cX2_order 37 = .ok (.invokevirtual 127, 3) := by decide +kernel
theorem dX2_order_40 : decode cX2_order 40 = .ok (.ifCond .eq 7, 3) := by decide +kernel
theorem dX2_order_43 : decode cX2_order 43 = .ok (.iconst (-1), 1) := by decide +kernel
theorem dX2_order_44 : decode cX2_order 44 = .ok (.goto 4, 3) := by decide +kernel
theorem dX2_order_47 : decode cX2_order 47 = .ok (.iconst 0, 1) := by decide +kernel
theorem dX2_order_48 : decode cX2_order 48 = .ok (.ireturn, 1) := by decide +kernel
theorem dX2_open_0 : decode cX2_open 0 = .ok (.iload_n 1, 1) := by decide +kernel
theorem dX2_open_1 : decode cX2_open 1 = .ok (.invokestatic 37, 3) := by decide +kernel
theorem dX2_open_4 : decode cX2_open 4 = .ok (.iload_n 2, 1) := by decide +kernel
theorem dX2_open_5 : decode cX2_open 5 = .ok (.invokestatic 103, 3) := by decide +kernel
theorem dX2_open_8 : decode cX2_open 8 = .ok (.aload_n 0, 1) := by decide +kernel
theorem dX2_open_9 : decode cX2_open 9 = .ok (.iload_n 1, 1) := by decide +kernel
theorem dX2_open_10 : decode cX2_open 10 = .ok (.invokevirtual 124, 3) := by decide +kernel
theorem dX2_open_13 : decode cX2_open 13 = .ok (.iconst 0, 1) := by decide +kernel
theorem dX2_open_14 : decode cX2_open 14 = .ok (.istore_n 3, 1) := by decide +kernel
theorem dX2_open_15 : decode cX2_open 15 = .ok (.aload_n 0, 1) := by decide +kernel
theorem dX2_open_16 : decode cX2_open 16 = .ok (.getfield 29, 3) := by decide +kernel
theorem dX2_open_19 : decode cX2_open 19 = .ok (.astore 4, 2) := by decide +kernel
theorem dX2_open_21 : decode cX2_open 21 = .ok (.aload 4, 2) := by decide +kernel
theorem dX2_open_23 : decode cX2_open 23 = .ok (.ifnull 35, 3) := by decide +kernel
theorem dX2_open_26 : decode cX2_open 26 = .ok (.aload 4, 2) := by decide +kernel
theorem dX2_open_28 : decode cX2_open 28 = .ok (.getfield 131, 3) := by decide +kernel
theorem dX2_open_31 : decode cX2_open 31 = .ok (.ifCond .eq 17, 3) := by decide +kernel
theorem dX2_open_34 : decode cX2_open 34 = .ok (.iload_n 3, 1) := by decide +kernel
theorem dX2_open_35 : decode cX2_open 35 = .ok (.iload_n 2, 1) := by decide +kernel
theorem dX2_open_36 : decode cX2_open 36 = .ok (.if_icmp .ne 9, 3) := by decide +kernel
theorem dX2_open_39 : decode cX2_open 39 = .ok (.aload 4, 2) := by decide +kernel
theorem dX2_open_41 : decode cX2_open 41 = .ok (.getfield 55, 3) := by decide +kernel
theorem dX2_open_44 : decode cX2_open 44 = .ok (.ireturn, 1) := by decide +kernel
theorem dX2_open_45 : decode cX2_open 45 = .ok (.iinc 3 1, 3) := by decide +kernel
theorem dX2_open_48 : decode cX2_open 48 = .ok (.aload 4, 2) := by decide +kernel
theorem dX2_open_50 : decode cX2_open 50 = .ok (.getfield 95, 3) := by decide +kernel
theorem dX2_open_53 : decode cX2_open 53 = .ok (.astore 4, 2) := by decide +kernel
theorem dX2_open_55 : decode cX2_open 55 = .ok (.goto (-34), 3) := by decide +kernel
theorem dX2_open_58 : decode cX2_open 58 = .ok (.iconst (-1), 1) := by decide +kernel
theorem dX2_open_59 : decode cX2_open 59 = .ok (.ireturn, 1) := by decide +kernel
theorem dX2_knows_0 : decode cX2_knows 0 = .ok (.iload_n 1, 1) := by decide +kernel
theorem dX2_knows_1 : decode cX2_knows 1 = .ok (.invokestatic 37, 3) := by decide +kernel
theorem dX2_knows_4 : decode cX2_knows 4 = .ok (.aload_n 0, 1) := by decide +kernel
theorem dX2_knows_5 : decode cX2_knows 5 = .ok (.iload_n 2, 1) := by decide +kernel
theorem dX2_knows_6 : decode cX2_knows 6 = .ok (.invokevirtual 135, 3) := by decide +kernel
theorem dX2_knows_9 : decode cX2_knows 9 = .ok (.iload_n 1, 1) := by decide +kernel
theorem dX2_knows_10 : decode cX2_knows 10 = .ok (.invokevirtual 88, 3) := by decide +kernel
theorem dX2_knows_13 : decode cX2_knows 13 = .ok (.ireturn, 1) := by decide +kernel
theorem dX2_equal_0 : decode cX2_equal 0 = .ok (.iload_n 1, 1) := by decide +kernel
theorem dX2_equal_1 : decode cX2_equal 1 = .ok (.invokestatic 37, 3) := by decide +kernel
theorem dX2_equal_4 : decode cX2_equal 4 = .ok (.iload_n 2, 1) := by decide +kernel
theorem dX2_equal_5 : decode cX2_equal 5 = .ok (.invokestatic 37, 3) := by decide +kernel
theorem dX2_equal_8 : decode cX2_equal 8 = .ok (.aload_n 0, 1) := by decide +kernel
theorem dX2_equal_9 : decode cX2_equal 9 = .ok (.getfield 29, 3) := by decide +kernel
theorem dX2_equal_12 : decode cX2_equal 12 = .ok (.astore_n 3, 1) := by decide +kernel
theorem dX2_equal_13 : decode cX2_equal 13 = .ok (.aload_n 3, 1) := by decide +kernel
theorem dX2_equal_14 : decode cX2_equal 14 = .ok (.ifnull 26, 3) := by decide +kernel
theorem dX2_equal_17 : decode cX2_equal 17 = .ok (.aload_n 3, 1) := by decide +kernel
theorem dX2_equal_18 : decode cX2_equal 18 = .ok (.iload_n 1, 1) := by decide +kernel
theorem dX2_equal_19 : decode cX2_equal 19 = .ok (.invokevirtual 88, 3) := by decide +kernel
theorem dX2_equal_22 : decode cX2_equal 22 = .ok (.aload_n 3, 1) := by decide +kernel
theorem dX2_equal_23 : decode cX2_equal 23 = .ok (.iload_n 2, 1) := by decide +kernel
theorem dX2_equal_24 : decode cX2_equal 24 = .ok (.invokevirtual 88, 3) := by decide +kernel
theorem dX2_equal_27 : decode cX2_equal 27 = .ok (.if_icmp .eq 5, 3) := by decide +kernel
theorem dX2_equal_30 : decode cX2_equal 30 = .ok (.iconst 0, 1) := by decide +kernel
theorem dX2_equal_31 : decode cX2_equal 31 = .ok (.ireturn, 1) := by decide +kernel
theorem dX2_equal_32 : decode cX2_equal 32 = .ok (.aload_n 3, 1) := by decide +kernel
theorem dX2_equal_33 : decode cX2_equal 33 = .ok (.getfield 95, 3) := by decide +kernel
theorem dX2_equal_36 : decode cX2_equal 36 = .ok (.astore_n 3, 1) := by decide +kernel
theorem dX2_equal_37 : decode cX2_equal 37 = .ok (.goto (-24), 3) := by decide +kernel
theorem dX2_equal_40 : decode cX2_equal 40 = .ok (.iconst 1, 1) := by decide +kernel
theorem dX2_equal_41 : decode cX2_equal 41 = .ok (.ireturn, 1) := by decide +kernel
theorem dX2_compact_0 : decode cX2_compact 0 = .ok (.iconst 0, 1) := by decide +kernel
theorem dX2_compact_1 : decode cX2_compact 1 = .ok (.istore_n 1, 1) := by decide +kernel
theorem dX2_compact_2 : decode cX2_compact 2 = .ok (.aload_n 0, 1) := by decide +kernel
theorem dX2_compact_3 : decode cX2_compact 3 = .ok (.getfield 29, 3) := by decide +kernel
theorem dX2_compact_6 : decode cX2_compact 6 = .ok (.astore_n 2, 1) := by decide +kernel
theorem dX2_compact_7 : decode cX2_compact 7 = .ok (.aload_n 2, 1) := by decide +kernel
theorem dX2_compact_8 : decode cX2_compact 8 = .ok (.ifnull 25, 3) := by decide +kernel
theorem dX2_compact_11 : decode cX2_compact 11 = .ok (.aload_n 2, 1) := by decide +kernel
theorem dX2_compact_12 : decode cX2_compact 12 = .ok (.invokestatic 139, 3) := by decide +kernel
theorem dX2_compact_15 : decode cX2_compact 15 = .ok (.ifCond .eq 10, 3) := by decide +kernel
theorem dX2_compact_18 : decode cX2_compact 18 = .ok (.aload_n 2, 1) := by decide +kernel
theorem dX2_compact_19 : decode cX2_compact 19 = .ok (.invokevirtual 143, 3) := by decide +kernel
theorem dX2_compact_22 : decode cX2_compact 22 = .ok (.iinc 1 1, 3) := by decide +kernel
theorem dX2_compact_25 : decode cX2_compact 25 = .ok (.aload_n 2, 1) := by decide +kernel
theorem dX2_compact_26 : decode cX2_compact 26 = .ok (.getfield 95, 3) := by decide +kernel
theorem dX2_compact_29 : decode cX2_compact 29 = .ok (.astore_n 2, 1) := by decide +kernel
theorem dX2_compact_30 : decode cX2_compact 30 = .ok (.goto (-23), 3) := by decide +kernel
theorem dX2_compact_33 : decode cX2_compact 33 = .ok (.iload_n 1, 1) := by decide +kernel
theorem dX2_compact_34 : decode cX2_compact 34 = .ok (.ireturn, 1) := by decide +kernel
theorem dX2_about_0 : decode cX2_about 0 = .ok (.iload_n 1, 1) := by decide +kernel
theorem dX2_about_1 : decode cX2_about 1 = .ok (.invokestatic 37, 3) := by decide +kernel
theorem dX2_about_4 : decode cX2_about 4 = .ok (.aload_n 0, 1) := by decide +kernel
theorem dX2_about_5 : decode cX2_about 5 = .ok (.iload_n 1, 1) := by decide +kernel
theorem dX2_about_6 : decode cX2_about 6 = .ok (.iload_n 2, 1) := by decide +kernel
theorem dX2_about_7 : decode cX2_about 7 = .ok (.invokevirtual 58, 3) := by decide +kernel
theorem dX2_about_10 : decode cX2_about 10 = .ok (.astore 4, 2) := by decide +kernel
theorem dX2_about_12 : decode cX2_about 12 = .ok (.iload_n 3, 1) := by decide +kernel
theorem dX2_about_13 : decode cX2_about 13 = .ok (.tableswitch 55 0 3 #[31, 37, 43, 49], 31) := by decide +kernel
theorem dX2_about_44 : decode cX2_about 44 = .ok (.aload 4, 2) := by decide +kernel
theorem dX2_about_46 : decode cX2_about 46 = .ok (.getfield 146, 3) := by decide +kernel
theorem dX2_about_49 : decode cX2_about 49 = .ok (.ireturn, 1) := by decide +kernel
theorem dX2_about_50 : decode cX2_about 50 = .ok (.aload 4, 2) := by decide +kernel
theorem dX2_about_52 : decode cX2_about 52 = .ok (.getfield 149, 3) := by decide +kernel
theorem dX2_about_55 : decode cX2_about 55 = .ok (.ireturn, 1) := by decide +kernel
theorem dX2_about_56 : decode cX2_about 56 = .ok (.aload 4, 2) := by decide +kernel
theorem dX2_about_58 : decode cX2_about 58 = .ok (.getfield 62, 3) := by decide +kernel
theorem dX2_about_61 : decode cX2_about 61 = .ok (.ireturn, 1) := by decide +kernel
theorem dX2_about_62 : decode cX2_about 62 = .ok (.aload 4, 2) := by decide +kernel
theorem dX2_about_64 : decode cX2_about 64 = .ok (.getfield 121, 3) := by decide +kernel
theorem dX2_about_67 : decode cX2_about 67 = .ok (.ireturn, 1) := by decide +kernel
theorem dX2_about_68 : decode cX2_about 68 = .ok (.new 68, 3) := by decide +kernel
theorem dX2_about_71 : decode cX2_about 71 = .ok (.dup, 1) := by decide +kernel
theorem dX2_about_72 : decode cX2_about 72 = .ok (.ldc 152, 2) := by decide +kernel
theorem dX2_about_74 : decode cX2_about 74 = .ok (.invokespecial 72, 3) := by decide +kernel
theorem dX2_about_77 : decode cX2_about 77 = .ok (.athrow, 1) := by decide +kernel
theorem dX2_count_0 : decode cX2_count 0 = .ok (.iload_n 1, 1) := by decide +kernel
theorem dX2_count_1 : decode cX2_count 1 = .ok (.tableswitch 42 0 2 #[27, 32, 37], 27) := by decide +kernel
theorem dX2_count_28 : decode cX2_count 28 = .ok (.aload_n 0, 1) := by decide +kernel
theorem dX2_count_29 : decode cX2_count 29 = .ok (.getfield 33, 3) := by decide +kernel
theorem dX2_count_32 : decode cX2_count 32 = .ok (.ireturn, 1) := by decide +kernel
theorem dX2_count_33 : decode cX2_count 33 = .ok (.aload_n 0, 1) := by decide +kernel
theorem dX2_count_34 : decode cX2_count 34 = .ok (.invokevirtual 154, 3) := by decide +kernel
theorem dX2_count_37 : decode cX2_count 37 = .ok (.ireturn, 1) := by decide +kernel
theorem dX2_count_38 : decode cX2_count 38 = .ok (.aload_n 0, 1) := by decide +kernel
theorem dX2_count_39 : decode cX2_count 39 = .ok (.invokevirtual 158, 3) := by decide +kernel
theorem dX2_count_42 : decode cX2_count 42 = .ok (.ireturn, 1) := by decide +kernel
theorem dX2_count_43 : decode cX2_count 43 = .ok (.new 68, 3) := by decide +kernel
theorem dX2_count_46 : decode cX2_count 46 = .ok (.dup, 1) := by decide +kernel
theorem dX2_count_47 : decode cX2_count 47 = .ok (.ldc 161, 2) := by decide +kernel
theorem dX2_count_49 : decode cX2_count 49 = .ok (.invokespecial 72, 3) := by decide +kernel
theorem dX2_count_52 : decode cX2_count 52 = .ok (.athrow, 1) := by decide +kernel
theorem dX2_requireDesk_0 : decode cX2_requireDesk 0 = .ok (.iload_n 0, 1) := by decide +kernel
theorem dX2_requireDesk_1 : decode cX2_requireDesk 1 = .ok (.ifCond .lt 9, 3) := by decide +kernel
theorem dX2_requireDesk_4 : decode cX2_requireDesk 4 = .ok (.iload_n 0, 1) := by decide +kernel
theorem dX2_requireDesk_5 : decode cX2_requireDesk 5 = .ok (.bipush 6, 2) := by decide +kernel
theorem dX2_requireDesk_7 : decode cX2_requireDesk 7 = .ok (.if_icmp .lt 13, 3) := by decide +kernel
theorem dX2_requireDesk_10 : decode cX2_requireDesk 10 = .ok (.new 163, 3) := by decide +kernel
theorem dX2_requireDesk_13 : decode cX2_requireDesk 13 = .ok (.dup, 1) := by decide +kernel
theorem dX2_requireDesk_14 : decode cX2_requireDesk 14 = .ok (.ldc 165, 2) := by decide +kernel
theorem dX2_requireDesk_16 : decode cX2_requireDesk 16 = .ok (.invokespecial 167, 3) := by decide +kernel
theorem dX2_requireDesk_19 : decode cX2_requireDesk 19 = .ok (.athrow, 1) := by decide +kernel
theorem dX2_requireDesk_20 : decode cX2_requireDesk 20 = .ok (.return_, 1) := by decide +kernel
theorem dX2_requireThing_0 : decode cX2_requireThing 0 = .ok (.iload_n 0, 1) := by decide +kernel
theorem dX2_requireThing_1 : decode cX2_requireThing 1 = .ok (.ifCond .lt 9, 3) := by decide +kernel
theorem dX2_requireThing_4 : decode cX2_requireThing 4 = .ok (.iload_n 0, 1) := by decide +kernel
theorem dX2_requireThing_5 : decode cX2_requireThing 5 = .ok (.bipush 16, 2) := by decide +kernel
theorem dX2_requireThing_7 : decode cX2_requireThing 7 = .ok (.if_icmp .lt 13, 3) := by decide +kernel
theorem dX2_requireThing_10 : decode cX2_requireThing 10 = .ok (.new 163, 3) := by decide +kernel
theorem dX2_requireThing_13 : decode cX2_requireThing 13 = .ok (.dup, 1) := by decide +kernel
theorem dX2_requireThing_14 : decode cX2_requireThing 14 = .ok (.ldc 168, 2) := by decide +kernel
theorem dX2_requireThing_16 : decode cX2_requireThing 16 = .ok (.invokespecial 167, 3) := by decide +kernel
theorem dX2_requireThing_19 : decode cX2_requireThing 19 = .ok (.athrow, 1) := by decide +kernel
theorem dX2_requireThing_20 : decode cX2_requireThing 20 = .ok (.return_, 1) := by decide +kernel
theorem dX2_requireField_0 : decode cX2_requireField 0 = .ok (.iload_n 0, 1) := by decide +kernel
theorem dX2_requireField_1 : decode cX2_requireField 1 = .ok (.ifCond .lt 8, 3) := by decide +kernel
theorem dX2_requireField_4 : decode cX2_requireField 4 = .ok (.iload_n 0, 1) := by decide +kernel
theorem dX2_requireField_5 : decode cX2_requireField 5 = .ok (.iload_n 1, 1) := by decide +kernel
theorem dX2_requireField_6 : decode cX2_requireField 6 = .ok (.if_icmp .le 13, 3) := by decide +kernel
theorem dX2_requireField_9 : decode cX2_requireField 9 = .ok (.new 163, 3) := by decide +kernel
theorem dX2_requireField_12 : decode cX2_requireField 12 = .ok (.dup, 1) := by decide +kernel
theorem dX2_requireField_13 : decode cX2_requireField 13 = .ok (.ldc 170, 2) := by decide +kernel
theorem dX2_requireField_15 : decode cX2_requireField 15 = .ok (.invokespecial 167, 3) := by decide +kernel
theorem dX2_requireField_18 : decode cX2_requireField 18 = .ok (.athrow, 1) := by decide +kernel
theorem dX2_requireField_19 : decode cX2_requireField 19 = .ok (.return_, 1) := by decide +kernel
theorem dX2_requireContext_0 : decode cX2_requireContext 0 = .ok (.iload_n 0, 1) := by decide +kernel
theorem dX2_requireContext_1 : decode cX2_requireContext 1 = .ok (.ifCond .lt 9, 3) := by decide +kernel
theorem dX2_requireContext_4 : decode cX2_requireContext 4 = .ok (.iload_n 0, 1) := by decide +kernel
theorem dX2_requireContext_5 : decode cX2_requireContext 5 = .ok (.bipush 16, 2) := by decide +kernel
theorem dX2_requireContext_7 : decode cX2_requireContext 7 = .ok (.if_icmp .lt 13, 3) := by decide +kernel
theorem dX2_requireContext_10 : decode cX2_requireContext 10 = .ok (.new 163, 3) := by decide +kernel
theorem dX2_requireContext_13 : decode cX2_requireContext 13 = .ok (.dup, 1) := by decide +kernel
theorem dX2_requireContext_14 : decode cX2_requireContext 14 = .ok (.ldc 172, 2) := by decide +kernel
theorem dX2_requireContext_16 : decode cX2_requireContext 16 = .ok (.invokespecial 167, 3) := by decide +kernel
theorem dX2_requireContext_19 : decode cX2_requireContext 19 = .ok (.athrow, 1) := by decide +kernel
theorem dX2_requireContext_20 : decode cX2_requireContext 20 = .ok (.return_, 1) := by decide +kernel
theorem dX2_requireOrdinal_0 : decode cX2_requireOrdinal 0 = .ok (.iload_n 0, 1) := by decide +kernel
theorem dX2_requireOrdinal_1 : decode cX2_requireOrdinal 1 = .ok (.ifCond .ge 13, 3) := by decide +kernel
theorem dX2_requireOrdinal_4 : decode cX2_requireOrdinal 4 = .ok (.new 163, 3) := by decide +kernel
theorem dX2_requireOrdinal_7 : decode cX2_requireOrdinal 7 = .ok (.dup, 1) := by decide +kernel
theorem dX2_requireOrdinal_8 : decode cX2_requireOrdinal 8 = .ok (.ldc 174, 2) := by decide +kernel
theorem dX2_requireOrdinal_10 : decode cX2_requireOrdinal 10 = .ok (.invokespecial 167, 3) := by decide +kernel
theorem dX2_requireOrdinal_13 : decode cX2_requireOrdinal 13 = .ok (.athrow, 1) := by decide +kernel
theorem dX2_requireOrdinal_14 : decode cX2_requireOrdinal 14 = .ok (.return_, 1) := by decide +kernel
theorem dX2_requireValue_0 : decode cX2_requireValue 0 = .ok (.iload_n 0, 1) := by decide +kernel
theorem dX2_requireValue_1 : decode cX2_requireValue 1 = .ok (.ifCond .lt 8, 3) := by decide +kernel
theorem dX2_requireValue_4 : decode cX2_requireValue 4 = .ok (.iload_n 0, 1) := by decide +kernel
theorem dX2_requireValue_5 : decode cX2_requireValue 5 = .ok (.iload_n 1, 1) := by decide +kernel
theorem dX2_requireValue_6 : decode cX2_requireValue 6 = .ok (.if_icmp .lt 13, 3) := by decide +kernel
theorem dX2_requireValue_9 : decode cX2_requireValue 9 = .ok (.new 68, 3) := by decide +kernel
theorem dX2_requireValue_12 : decode cX2_requireValue 12 = .ok (.dup, 1) := by decide +kernel
theorem dX2_requireValue_13 : decode cX2_requireValue 13 = .ok (.ldc 176, 2) := by decide +kernel
theorem dX2_requireValue_15 : decode cX2_requireValue 15 = .ok (.invokespecial 72, 3) := by decide +kernel
theorem dX2_requireValue_18 : decode cX2_requireValue 18 = .ok (.athrow, 1) := by decide +kernel
theorem dX2_requireValue_19 : decode cX2_requireValue 19 = .ok (.return_, 1) := by decide +kernel
theorem dX2_findMade_0 : decode cX2_findMade 0 = .ok (.iload_n 1, 1) := by decide +kernel
theorem dX2_findMade_1 : decode cX2_findMade 1 = .ok (.ifCond .lt 11, 3) := by decide +kernel
theorem dX2_findMade_4 : decode cX2_findMade 4 = .ok (.iload_n 1, 1) := by decide +kernel
theorem dX2_findMade_5 : decode cX2_findMade 5 = .ok (.aload_n 0, 1) := by decide +kernel
theorem dX2_findMade_6 : decode cX2_findMade 6 = .ok (.getfield 33, 3) := by decide +kernel
theorem dX2_findMade_9 : decode cX2_findMade 9 = .ok (.if_icmp .lt 7, 3) := by decide +kernel
theorem dX2_findMade_12 : decode cX2_findMade 12 = .ok (.aconst_null, 1) := by decide +kernel
theorem dX2_findMade_13 : decode cX2_findMade 13 = .ok (.goto 9, 3) := by decide +kernel
theorem dX2_findMade_16 : decode cX2_findMade 16 = .ok (.aload_n 0, 1) := by decide +kernel
theorem dX2_findMade_17 : decode cX2_findMade 17 = .ok (.getfield 11, 3) := by decide +kernel
theorem dX2_findMade_20 : decode cX2_findMade 20 = .ok (.iload_n 1, 1) := by decide +kernel
theorem dX2_findMade_21 : decode cX2_findMade 21 = .ok (.aaload, 1) := by decide +kernel
theorem dX2_findMade_22 : decode cX2_findMade 22 = .ok (.astore_n 2, 1) := by decide +kernel
theorem dX2_findMade_23 : decode cX2_findMade 23 = .ok (.aload_n 2, 1) := by decide +kernel
theorem dX2_findMade_24 : decode cX2_findMade 24 = .ok (.ifnonnull 13, 3) := by decide +kernel
theorem dX2_findMade_27 : decode cX2_findMade 27 = .ok (.new 163, 3) := by decide +kernel
theorem dX2_findMade_30 : decode cX2_findMade 30 = .ok (.dup, 1) := by decide +kernel
theorem dX2_findMade_31 : decode cX2_findMade 31 = .ok (.ldc 178, 2) := by decide +kernel
theorem dX2_findMade_33 : decode cX2_findMade 33 = .ok (.invokespecial 167, 3) := by decide +kernel
theorem dX2_findMade_36 : decode cX2_findMade 36 = .ok (.athrow, 1) := by decide +kernel
theorem dX2_findMade_37 : decode cX2_findMade 37 = .ok (.aload_n 2, 1) := by decide +kernel
theorem dX2_findMade_38 : decode cX2_findMade 38 = .ok (.areturn, 1) := by decide +kernel
theorem dX2_findKnown_0 : decode cX2_findKnown 0 = .ok (.aload_n 0, 1) := by decide +kernel
theorem dX2_findKnown_1 : decode cX2_findKnown 1 = .ok (.iload_n 2, 1) := by decide +kernel
theorem dX2_findKnown_2 : decode cX2_findKnown 2 = .ok (.invokevirtual 135, 3) := by decide +kernel
theorem dX2_findKnown_5 : decode cX2_findKnown 5 = .ok (.astore_n 3, 1) := by decide +kernel
theorem dX2_findKnown_6 : decode cX2_findKnown 6 = .ok (.aload_n 3, 1) := by decide +kernel
theorem dX2_findKnown_7 : decode cX2_findKnown 7 = .ok (.iload_n 1, 1) := by decide +kernel
theorem dX2_findKnown_8 : decode cX2_findKnown 8 = .ok (.invokevirtual 88, 3) := by decide +kernel
theorem dX2_findKnown_11 : decode cX2_findKnown 11 = .ok (.ifCond .ne 13, 3) := by decide +kernel
theorem dX2_findKnown_14 : decode cX2_findKnown 14 = .ok (.new 163, 3) := by decide +kernel
theorem dX2_findKnown_17 : decode cX2_findKnown 17 = .ok (.dup, 1) := by decide +kernel
theorem dX2_findKnown_18 : decode cX2_findKnown 18 = .ok (.ldc 180, 2) := by decide +kernel
theorem dX2_findKnown_20 : decode cX2_findKnown 20 = .ok (.invokespecial 167, 3) := by decide +kernel
theorem dX2_findKnown_23 : decode cX2_findKnown 23 = .ok (.athrow, 1) := by decide +kernel
theorem dX2_findKnown_24 : decode cX2_findKnown 24 = .ok (.aload_n 3, 1) := by decide +kernel
theorem dX2_findKnown_25 : decode cX2_findKnown 25 = .ok (.areturn, 1) := by decide +kernel
theorem dX2_enter_0 : decode cX2_enter 0 = .ok (.aload_n 0, 1) := by decide +kernel
theorem dX2_enter_1 : decode cX2_enter 1 = .ok (.getfield 33, 3) := by decide +kernel
theorem dX2_enter_4 : decode cX2_enter 4 = .ok (.bipush 120, 2) := by decide +kernel
theorem dX2_enter_6 : decode cX2_enter 6 = .ok (.if_icmp .lt 13, 3) := by decide +kernel
theorem dX2_enter_9 : decode cX2_enter 9 = .ok (.new 98, 3) := by decide +kernel
theorem dX2_enter_12 : decode cX2_enter 12 = .ok (.dup, 1) := by decide +kernel
theorem dX2_enter_13 : decode cX2_enter 13 = .ok (.ldc 182, 2) := by decide +kernel
theorem dX2_enter_15 : decode cX2_enter 15 = .ok (.invokespecial 102, 3) := by decide +kernel
theorem dX2_enter_18 : decode cX2_enter 18 = .ok (.athrow, 1) := by decide +kernel
theorem dX2_enter_19 : decode cX2_enter 19 = .ok (.new 9, 3) := by decide +kernel
theorem dX2_enter_22 : decode cX2_enter 22 = .ok (.dup, 1) := by decide +kernel
theorem dX2_enter_23 : decode cX2_enter 23 = .ok (.aload_n 0, 1) := by decide +kernel
theorem dX2_enter_24 : decode cX2_enter 24 = .ok (.getfield 33, 3) := by decide +kernel
theorem dX2_enter_27 : decode cX2_enter 27 = .ok (.iload_n 1, 1) := by decide +kernel
theorem dX2_enter_28 : decode cX2_enter 28 = .ok (.aload_n 0, 1) := by decide +kernel
theorem dX2_enter_29 : decode cX2_enter 29 = .ok (.iload_n 1, 1) := by decide +kernel
theorem dX2_enter_30 : decode cX2_enter 30 = .ok (.invokevirtual 184, 3) := by decide +kernel
theorem dX2_enter_33 : decode cX2_enter 33 = .ok (.iconst 1, 1) := by decide +kernel
theorem dX2_enter_34 : decode cX2_enter 34 = .ok (.iadd, 1) := by decide +kernel
theorem dX2_enter_35 : decode cX2_enter 35 = .ok (.iload_n 2, 1) := by decide +kernel
theorem dX2_enter_36 : decode cX2_enter 36 = .ok (.iload_n 3, 1) := by decide +kernel
theorem dX2_enter_37 : decode cX2_enter 37 = .ok (.iload 4, 2) := by decide +kernel
theorem dX2_enter_39 : decode cX2_enter 39 = .ok (.invokespecial 188, 3) := by decide +kernel
theorem dX2_enter_42 : decode cX2_enter 42 = .ok (.astore 5, 2) := by decide +kernel
theorem dX2_enter_44 : decode cX2_enter 44 = .ok (.aload_n 0, 1) := by decide +kernel
theorem dX2_enter_45 : decode cX2_enter 45 = .ok (.getfield 11, 3) := by decide +kernel
theorem dX2_enter_48 : decode cX2_enter 48 = .ok (.aload_n 0, 1) := by decide +kernel
theorem dX2_enter_49 : decode cX2_enter 49 = .ok (.getfield 33, 3) := by decide +kernel
theorem dX2_enter_52 : decode cX2_enter 52 = .ok (.aload 5, 2) := by decide +kernel
theorem dX2_enter_54 : decode cX2_enter 54 = .ok (.aastore, 1) := by decide +kernel
theorem dX2_enter_55 : decode cX2_enter 55 = .ok (.aload_n 0, 1) := by decide +kernel
theorem dX2_enter_56 : decode cX2_enter 56 = .ok (.dup, 1) := by decide +kernel
theorem dX2_enter_57 : decode cX2_enter 57 = .ok (.getfield 33, 3) := by decide +kernel
theorem dX2_enter_60 : decode cX2_enter 60 = .ok (.iconst 1, 1) := by decide +kernel
theorem dX2_enter_61 : decode cX2_enter 61 = .ok (.iadd, 1) := by decide +kernel
theorem dX2_enter_62 : decode cX2_enter 62 = .ok (.putfield 33, 3) := by decide +kernel
theorem dX2_enter_65 : decode cX2_enter 65 = .ok (.aload_n 0, 1) := by decide +kernel
theorem dX2_enter_66 : decode cX2_enter 66 = .ok (.aload 5, 2) := by decide +kernel
theorem dX2_enter_68 : decode cX2_enter 68 = .ok (.invokevirtual 191, 3) := by decide +kernel
theorem dX2_enter_71 : decode cX2_enter 71 = .ok (.aload 5, 2) := by decide +kernel
theorem dX2_enter_73 : decode cX2_enter 73 = .ok (.areturn, 1) := by decide +kernel
theorem dX2_end_0 : decode cX2_end 0 = .ok (.iload_n 1, 1) := by decide +kernel
theorem dX2_end_1 : decode cX2_end 1 = .ok (.invokestatic 37, 3) := by decide +kernel
theorem dX2_end_4 : decode cX2_end 4 = .ok (.aload_n 0, 1) := by decide +kernel
theorem dX2_end_5 : decode cX2_end 5 = .ok (.iload_n 1, 1) := by decide +kernel
theorem dX2_end_6 : decode cX2_end 6 = .ok (.iload_n 2, 1) := by decide +kernel
theorem dX2_end_7 : decode cX2_end 7 = .ok (.invokevirtual 58, 3) := by decide +kernel
theorem dX2_end_10 : decode cX2_end 10 = .ok (.astore 5, 2) := by decide +kernel
theorem dX2_end_12 : decode cX2_end 12 = .ok (.aload 5, 2) := by decide +kernel
theorem dX2_end_14 : decode cX2_end 14 = .ok (.getfield 62, 3) := by decide +kernel
theorem dX2_end_17 : decode cX2_end 17 = .ok (.iload_n 3, 1) := by decide +kernel
theorem dX2_end_18 : decode cX2_end 18 = .ok (.if_icmp .eq 13, 3) := by decide +kernel
theorem dX2_end_21 : decode cX2_end 21 = .ok (.new 68, 3) := by decide +kernel
theorem dX2_end_24 : decode cX2_end 24 = .ok (.dup, 1) := by decide +kernel
theorem dX2_end_25 : decode cX2_end 25 = .ok (.ldc 195, 2) := by decide +kernel
theorem dX2_end_27 : decode cX2_end 27 = .ok (.invokespecial 72, 3) := by decide +kernel
theorem dX2_end_30 : decode cX2_end 30 = .ok (.athrow, 1) := by decide +kernel
theorem dX2_end_31 : decode cX2_end 31 = .ok (.aload_n 0, 1) := by decide +kernel
theorem dX2_end_32 : decode cX2_end 32 = .ok (.iload_n 1, 1) := by decide +kernel
theorem dX2_end_33 : decode cX2_end 33 = .ok (.iload 4, 2) := by decide +kernel
theorem dX2_end_35 : decode cX2_end 35 = .ok (.iconst (-1), 1) := by decide +kernel
theorem dX2_end_36 : decode cX2_end 36 = .ok (.aload 5, 2) := by decide +kernel
theorem dX2_end_38 : decode cX2_end 38 = .ok (.getfield 55, 3) := by decide +kernel
theorem dX2_end_41 : decode cX2_end 41 = .ok (.invokevirtual 51, 3) := by decide +kernel
theorem dX2_end_44 : decode cX2_end 44 = .ok (.astore 6, 2) := by decide +kernel
theorem dX2_end_46 : decode cX2_end 46 = .ok (.aload 5, 2) := by decide +kernel
theorem dX2_end_48 : decode cX2_end 48 = .ok (.iload_n 1, 1) := by decide +kernel
theorem dX2_end_49 : decode cX2_end 49 = .ok (.invokevirtual 197, 3) := by decide +kernel
theorem dX2_end_52 : decode cX2_end 52 = .ok (.aload 6, 2) := by decide +kernel
theorem dX2_end_54 : decode cX2_end 54 = .ok (.getfield 55, 3) := by decide +kernel
theorem dX2_end_57 : decode cX2_end 57 = .ok (.ireturn, 1) := by decide +kernel
theorem dX2_greatestStamp_0 : decode cX2_greatestStamp 0 = .ok (.iconst 0, 1) := by decide +kernel
theorem dX2_greatestStamp_1 : decode cX2_greatestStamp 1 = .ok (.istore_n 2, 1) := by decide +kernel
theorem dX2_greatestStamp_2 : decode cX2_greatestStamp 2 = .ok (.aload_n 0, 1) := by decide +kernel
theorem dX2_greatestStamp_3 : decode cX2_greatestStamp 3 = .ok (.getfield 29, 3) := by decide +kernel
theorem dX2_greatestStamp_6 : decode cX2_greatestStamp 6 = .ok (.astore_n 3, 1) := by decide +kernel
theorem dX2_greatestStamp_7 : decode cX2_greatestStamp 7 = .ok (.aload_n 3, 1) := by decide +kernel
theorem dX2_greatestStamp_8 : decode cX2_greatestStamp 8 = .ok (.ifnull 24, 3) := by decide +kernel
theorem dX2_greatestStamp_11 : decode cX2_greatestStamp 11 = .ok (.aload_n 3, 1) := by decide +kernel
theorem dX2_greatestStamp_12 : decode cX2_greatestStamp 12 = .ok (.iload_n 1, 1) := by decide +kernel
theorem dX2_greatestStamp_13 : decode cX2_greatestStamp 13 = .ok (.invokevirtual 88, 3) := by decide +kernel
theorem dX2_greatestStamp_16 : decode cX2_greatestStamp 16 = .ok (.ifCond .eq 8, 3) := by decide +kernel
theorem dX2_greatestStamp_19 : decode cX2_greatestStamp 19 = .ok (.aload_n 3, 1) := by decide +kernel
theorem dX2_greatestStamp_20 : decode cX2_greatestStamp 20 = .ok (.getfield 146, 3) := by decide +kernel
theorem dX2_greatestStamp_23 : decode cX2_greatestStamp 23 = .ok (.istore_n 2, 1) := by decide +kernel
theorem dX2_greatestStamp_24 : decode cX2_greatestStamp 24 = .ok (.aload_n 3, 1) := by decide +kernel
theorem dX2_greatestStamp_25 : decode cX2_greatestStamp 25 = .ok (.getfield 95, 3) := by decide +kernel
theorem dX2_greatestStamp_28 : decode cX2_greatestStamp 28 = .ok (.astore_n 3, 1) := by decide +kernel
theorem dX2_greatestStamp_29 : decode cX2_greatestStamp 29 = .ok (.goto (-22), 3) := by decide +kernel
theorem dX2_greatestStamp_32 : decode cX2_greatestStamp 32 = .ok (.iload_n 2, 1) := by decide +kernel
theorem dX2_greatestStamp_33 : decode cX2_greatestStamp 33 = .ok (.ireturn, 1) := by decide +kernel
theorem dX2_putByRank_0 : decode cX2_putByRank 0 = .ok (.aconst_null, 1) := by decide +kernel
theorem dX2_putByRank_1 : decode cX2_putByRank 1 = .ok (.astore_n 2, 1) := by decide +kernel
theorem dX2_putByRank_2 : decode cX2_putByRank 2 = .ok (.aload_n 0, 1) := by decide +kernel
theorem dX2_putByRank_3 : decode cX2_putByRank 3 = .ok (.getfield 29, 3) := by decide +kernel
theorem dX2_putByRank_6 : decode cX2_putByRank 6 = .ok (.astore_n 3, 1) := by decide +kernel
theorem dX2_putByRank_7 : decode cX2_putByRank 7 = .ok (.aload_n 3, 1) := by decide +kernel
theorem dX2_putByRank_8 : decode cX2_putByRank 8 = .ok (.ifnull 21, 3) := by decide +kernel
theorem dX2_putByRank_11 : decode cX2_putByRank 11 = .ok (.aload_n 1, 1) := by decide +kernel
theorem dX2_putByRank_12 : decode cX2_putByRank 12 = .ok (.aload_n 3, 1) := by decide +kernel
theorem dX2_putByRank_13 : decode cX2_putByRank 13 = .ok (.invokevirtual 200, 3) := by decide +kernel
theorem dX2_putByRank_16 : decode cX2_putByRank 16 = .ok (.ifCond .eq 13, 3) := by decide +kernel
theorem dX2_putByRank_19 : decode cX2_putByRank 19 = .ok (.aload_n 3, 1) := by decide +kernel
theorem dX2_putByRank_20 : decode cX2_putByRank 20 = .ok (.astore_n 2, 1) := by decide +kernel
theorem dX2_putByRank_21 : decode cX2_putByRank 21 = .ok (.aload_n 3, 1) := by decide +kernel
theorem dX2_putByRank_22 : decode cX2_putByRank 22 = .ok (.getfield 95, 3) := by decide +kernel
theorem dX2_putByRank_25 : decode cX2_putByRank 25 = .ok (.astore_n 3, 1) := by decide +kernel
theorem dX2_putByRank_26 : decode cX2_putByRank 26 = .ok (.goto (-19), 3) := by decide +kernel
theorem dX2_putByRank_29 : decode cX2_putByRank 29 = .ok (.aload_n 1, 1) := by decide +kernel
theorem dX2_putByRank_30 : decode cX2_putByRank 30 = .ok (.aload_n 3, 1) := by decide +kernel
theorem dX2_putByRank_31 : decode cX2_putByRank 31 = .ok (.putfield 95, 3) := by decide +kernel
theorem dX2_putByRank_34 : decode cX2_putByRank 34 = .ok (.aload_n 2, 1) := by decide +kernel
theorem dX2_putByRank_35 : decode cX2_putByRank 35 = .ok (.ifnonnull 11, 3) := by decide +kernel
theorem dX2_putByRank_38 : decode cX2_putByRank 38 = .ok (.aload_n 0, 1) := by decide +kernel
theorem dX2_putByRank_39 : decode cX2_putByRank 39 = .ok (.aload_n 1, 1) := by decide +kernel
theorem dX2_putByRank_40 : decode cX2_putByRank 40 = .ok (.putfield 29, 3) := by decide +kernel
theorem dX2_putByRank_43 : decode cX2_putByRank 43 = .ok (.goto 8, 3) := by decide +kernel
theorem dX2_putByRank_46 : decode cX2_putByRank 46 = .ok (.aload_n 2, 1) := by decide +kernel
theorem dX2_putByRank_47 : decode cX2_putByRank 47 = .ok (.aload_n 1, 1) := by decide +kernel
theorem dX2_putByRank_48 : decode cX2_putByRank 48 = .ok (.putfield 95, 3) := by decide +kernel
theorem dX2_putByRank_51 : decode cX2_putByRank 51 = .ok (.return_, 1) := by decide +kernel
theorem dX2_putInRow_0 : decode cX2_putInRow 0 = .ok (.aload_n 2, 1) := by decide +kernel
theorem dX2_putInRow_1 : decode cX2_putInRow 1 = .ok (.astore 4, 2) := by decide +kernel
theorem dX2_putInRow_3 : decode cX2_putInRow 3 = .ok (.aload_n 2, 1) := by decide +kernel
theorem dX2_putInRow_4 : decode cX2_putInRow 4 = .ok (.ifnonnull 12, 3) := by decide +kernel
theorem dX2_putInRow_7 : decode cX2_putInRow 7 = .ok (.aload_n 0, 1) := by decide +kernel
theorem dX2_putInRow_8 : decode cX2_putInRow 8 = .ok (.getfield 15, 3) := by decide +kernel
theorem dX2_putInRow_11 : decode cX2_putInRow 11 = .ok (.iload_n 1, 1) := by decide +kernel
theorem dX2_putInRow_12 : decode cX2_putInRow 12 = .ok (.aaload, 1) := by decide +kernel
theorem dX2_putInRow_13 : decode cX2_putInRow 13 = .ok (.goto 7, 3) := by decide +kernel
theorem dX2_putInRow_16 : decode cX2_putInRow 16 = .ok (.aload_n 2, 1) := by decide +kernel
theorem dX2_putInRow_17 : decode cX2_putInRow 17 = .ok (.getfield 203, 3) := by decide +kernel
theorem dX2_putInRow_20 : decode cX2_putInRow 20 = .ok (.astore 5, 2) := by decide +kernel
theorem dX2_putInRow_22 : decode cX2_putInRow 22 = .ok (.aload 5, 2) := by decide +kernel
theorem dX2_putInRow_24 : decode cX2_putInRow 24 = .ok (.ifnull 26, 3) := by decide +kernel
theorem dX2_putInRow_27 : decode cX2_putInRow 27 = .ok (.aload 5, 2) := by decide +kernel
theorem dX2_putInRow_29 : decode cX2_putInRow 29 = .ok (.aload_n 3, 1) := by decide +kernel
theorem dX2_putInRow_30 : decode cX2_putInRow 30 = .ok (.invokevirtual 200, 3) := by decide +kernel
theorem dX2_putInRow_33 : decode cX2_putInRow 33 = .ok (.ifCond .eq 17, 3) := by decide +kernel
theorem dX2_putInRow_36 : decode cX2_putInRow 36 = .ok (.aload 5, 2) := by decide +kernel
theorem dX2_putInRow_38 : decode cX2_putInRow 38 = .ok (.astore 4, 2) := by decide +kernel
theorem dX2_putInRow_40 : decode cX2_putInRow 40 = .ok (.aload 5, 2) := by decide +kernel
theorem dX2_putInRow_42 : decode cX2_putInRow 42 = .ok (.getfield 203, 3) := by decide +kernel
theorem dX2_putInRow_45 : decode cX2_putInRow 45 = .ok (.astore 5, 2) := by decide +kernel
theorem dX2_putInRow_47 : decode cX2_putInRow 47 = .ok (.goto (-25), 3) := by decide +kernel
theorem dX2_putInRow_50 : decode cX2_putInRow 50 = .ok (.aload_n 3, 1) := by decide +kernel
theorem dX2_putInRow_51 : decode cX2_putInRow 51 = .ok (.aload 5, 2) := by decide +kernel
theorem dX2_putInRow_53 : decode cX2_putInRow 53 = .ok (.putfield 203, 3) := by decide +kernel
theorem dX2_putInRow_56 : decode cX2_putInRow 56 = .ok (.aload 4, 2) := by decide +kernel
theorem dX2_putInRow_58 : decode cX2_putInRow 58 = .ok (.ifnonnull 13, 3) := by decide +kernel
theorem dX2_putInRow_61 : decode cX2_putInRow 61 = .ok (.aload_n 0, 1) := by decide +kernel
theorem dX2_putInRow_62 : decode cX2_putInRow 62 = .ok (.getfield 15, 3) := by decide +kernel
theorem dX2_putInRow_65 : decode cX2_putInRow 65 = .ok (.iload_n 1, 1) := by decide +kernel
theorem dX2_putInRow_66 : decode cX2_putInRow 66 = .ok (.aload_n 3, 1) := by decide +kernel
theorem dX2_putInRow_67 : decode cX2_putInRow 67 = .ok (.aastore, 1) := by decide +kernel
theorem dX2_putInRow_68 : decode cX2_putInRow 68 = .ok (.goto 9, 3) := by decide +kernel
theorem dX2_putInRow_71 : decode cX2_putInRow 71 = .ok (.aload 4, 2) := by decide +kernel
theorem dX2_putInRow_73 : decode cX2_putInRow 73 = .ok (.aload_n 3, 1) := by decide +kernel
theorem dX2_putInRow_74 : decode cX2_putInRow 74 = .ok (.putfield 203, 3) := by decide +kernel
theorem dX2_putInRow_77 : decode cX2_putInRow 77 = .ok (.return_, 1) := by decide +kernel
theorem dX2_findInRow_0 : decode cX2_findInRow 0 = .ok (.iconst 0, 1) := by decide +kernel
theorem dX2_findInRow_1 : decode cX2_findInRow 1 = .ok (.istore 4, 2) := by decide +kernel
theorem dX2_findInRow_3 : decode cX2_findInRow 3 = .ok (.aload_n 0, 1) := by decide +kernel
theorem dX2_findInRow_4 : decode cX2_findInRow 4 = .ok (.getfield 15, 3) := by decide +kernel
theorem dX2_findInRow_7 : decode cX2_findInRow 7 = .ok (.iload_n 2, 1) := by decide +kernel
theorem dX2_findInRow_8 : decode cX2_findInRow 8 = .ok (.aaload, 1) := by decide +kernel
theorem dX2_findInRow_9 : decode cX2_findInRow 9 = .ok (.astore 5, 2) := by decide +kernel
theorem dX2_findInRow_11 : decode cX2_findInRow 11 = .ok (.aload 5, 2) := by decide +kernel
theorem dX2_findInRow_13 : decode cX2_findInRow 13 = .ok (.ifnull 43, 3) := by decide +kernel
theorem dX2_findInRow_16 : decode cX2_findInRow 16 = .ok (.aload 5, 2) := by decide +kernel
theorem dX2_findInRow_18 : decode cX2_findInRow 18 = .ok (.iload_n 1, 1) := by decide +kernel
theorem dX2_findInRow_19 : decode cX2_findInRow 19 = .ok (.invokevirtual 88, 3) := by decide +kernel
theorem dX2_findInRow_22 : decode cX2_findInRow 22 = .ok (.ifCond .eq 24, 3) := by decide +kernel
theorem dX2_findInRow_25 : decode cX2_findInRow 25 = .ok (.aload 5, 2) := by decide +kernel
theorem dX2_findInRow_27 : decode cX2_findInRow 27 = .ok (.iload_n 1, 1) := by decide +kernel
theorem dX2_findInRow_28 : decode cX2_findInRow 28 = .ok (.invokevirtual 206, 3) := by decide +kernel
theorem dX2_findInRow_31 : decode cX2_findInRow 31 = .ok (.ifCond .ne 15, 3) := by decide +kernel
theorem dX2_findInRow_34 : decode cX2_findInRow 34 = .ok (.iload 4, 2) := by decide +kernel
theorem dX2_findInRow_36 : decode cX2_findInRow 36 = .ok (.iload_n 3, 1) := by decide +kernel
theorem dX2_findInRow_37 : decode cX2_findInRow 37 = .ok (.if_icmp .ne 6, 3) := by decide +kernel
theorem dX2_findInRow_40 : decode cX2_findInRow 40 = .ok (.aload 5, 2) := by decide +kernel
theorem dX2_findInRow_42 : decode cX2_findInRow 42 = .ok (.areturn, 1) := by decide +kernel
theorem dX2_findInRow_43 : decode cX2_findInRow 43 = .ok (.iinc 4 1, 3) := by decide +kernel
theorem dX2_findInRow_46 : decode cX2_findInRow 46 = .ok (.aload 5, 2) := by decide +kernel
theorem dX2_findInRow_48 : decode cX2_findInRow 48 = .ok (.getfield 203, 3) := by decide +kernel
theorem dX2_findInRow_51 : decode cX2_findInRow 51 = .ok (.astore 5, 2) := by decide +kernel
theorem dX2_findInRow_53 : decode cX2_findInRow 53 = .ok (.goto (-42), 3) := by decide +kernel
theorem dX2_findInRow_56 : decode cX2_findInRow 56 = .ok (.aconst_null, 1) := by decide +kernel
theorem dX2_findInRow_57 : decode cX2_findInRow 57 = .ok (.areturn, 1) := by decide +kernel
theorem dX2_latestValue_0 : decode cX2_latestValue 0 = .ok (.iconst (-1), 1) := by decide +kernel
theorem dX2_latestValue_1 : decode cX2_latestValue 1 = .ok (.istore_n 3, 1) := by decide +kernel
theorem dX2_latestValue_2 : decode cX2_latestValue 2 = .ok (.aload_n 0, 1) := by decide +kernel
theorem dX2_latestValue_3 : decode cX2_latestValue 3 = .ok (.getfield 29, 3) := by decide +kernel
theorem dX2_latestValue_6 : decode cX2_latestValue 6 = .ok (.astore 4, 2) := by decide +kernel
theorem dX2_latestValue_8 : decode cX2_latestValue 8 = .ok (.aload 4, 2) := by decide +kernel
theorem dX2_latestValue_10 : decode cX2_latestValue 10 = .ok (.ifnull 38, 3) := by decide +kernel
theorem dX2_latestValue_13 : decode cX2_latestValue 13 = .ok (.aload 4, 2) := by decide +kernel
theorem dX2_latestValue_15 : decode cX2_latestValue 15 = .ok (.iload_n 2, 1) := by decide +kernel
theorem dX2_latestValue_16 : decode cX2_latestValue 16 = .ok (.iconst 0, 1) := by decide +kernel
theorem dX2_latestValue_17 : decode cX2_latestValue 17 = .ok (.invokevirtual 209, 3) := by decide +kernel
theorem dX2_latestValue_20 : decode cX2_latestValue 20 = .ok (.ifCond .eq 18, 3) := by decide +kernel
theorem dX2_latestValue_23 : decode cX2_latestValue 23 = .ok (.aload 4, 2) := by decide +kernel
theorem dX2_latestValue_25 : decode cX2_latestValue 25 = .ok (.iload_n 1, 1) := by decide +kernel
theorem dX2_latestValue_26 : decode cX2_latestValue 26 = .ok (.invokevirtual 88, 3) := by decide +kernel
theorem dX2_latestValue_29 : decode cX2_latestValue 29 = .ok (.ifCond .eq 9, 3) := by decide +kernel
theorem dX2_latestValue_32 : decode cX2_latestValue 32 = .ok (.aload 4, 2) := by decide +kernel
theorem dX2_latestValue_34 : decode cX2_latestValue 34 = .ok (.getfield 121, 3) := by decide +kernel
theorem dX2_latestValue_37 : decode cX2_latestValue 37 = .ok (.istore_n 3, 1) := by decide +kernel
theorem dX2_latestValue_38 : decode cX2_latestValue 38 = .ok (.aload 4, 2) := by decide +kernel
theorem dX2_latestValue_40 : decode cX2_latestValue 40 = .ok (.getfield 95, 3) := by decide +kernel
theorem dX2_latestValue_43 : decode cX2_latestValue 43 = .ok (.astore 4, 2) := by decide +kernel
theorem dX2_latestValue_45 : decode cX2_latestValue 45 = .ok (.goto (-37), 3) := by decide +kernel
theorem dX2_latestValue_48 : decode cX2_latestValue 48 = .ok (.iload_n 3, 1) := by decide +kernel
theorem dX2_latestValue_49 : decode cX2_latestValue 49 = .ok (.ireturn, 1) := by decide +kernel
theorem dX2_sumOfValues_0 : decode cX2_sumOfValues 0 = .ok (.iconst 0, 1) := by decide +kernel
theorem dX2_sumOfValues_1 : decode cX2_sumOfValues 1 = .ok (.istore_n 3, 1) := by decide +kernel
theorem dX2_sumOfValues_2 : decode cX2_sumOfValues 2 = .ok (.aload_n 0, 1) := by decide +kernel
theorem dX2_sumOfValues_3 : decode cX2_sumOfValues 3 = .ok (.getfield 29, 3) := by decide +kernel
theorem dX2_sumOfValues_6 : decode cX2_sumOfValues 6 = .ok (.astore 4, 2) := by decide +kernel
theorem dX2_sumOfValues_8 : decode cX2_sumOfValues 8 = .ok (.aload 4, 2) := by decide +kernel
theorem dX2_sumOfValues_10 : decode cX2_sumOfValues 10 = .ok (.ifnull 40, 3) := by decide +kernel
theorem dX2_sumOfValues_13 : decode cX2_sumOfValues 13 = .ok (.aload 4, 2) := by decide +kernel
theorem dX2_sumOfValues_15 : decode cX2_sumOfValues 15 = .ok (.iload_n 2, 1) := by decide +kernel
theorem dX2_sumOfValues_16 : decode cX2_sumOfValues 16 = .ok (.iconst 1, 1) := by decide +kernel
theorem dX2_sumOfValues_17 : decode cX2_sumOfValues 17 = .ok (.invokevirtual 209, 3) := by decide +kernel
theorem dX2_sumOfValues_20 : decode cX2_sumOfValues 20 = .ok (.ifCond .eq 20, 3) := by decide +kernel
theorem dX2_sumOfValues_23 : decode cX2_sumOfValues 23 = .ok (.aload 4, 2) := by decide +kernel
theorem dX2_sumOfValues_25 : decode cX2_sumOfValues 25 = .ok (.iload_n 1, 1) := by decide +kernel
theorem dX2_sumOfValues_26 : decode cX2_sumOfValues 26 = .ok (.invokevirtual 88, 3) := by decide +kernel
theorem dX2_sumOfValues_29 : decode cX2_sumOfValues 29 = .ok (.ifCond .eq 11, 3) := by decide +kernel
theorem dX2_sumOfValues_32 : decode cX2_sumOfValues 32 = .ok (.iload_n 3, 1) := by decide +kernel
theorem dX2_sumOfValues_33 : decode cX2_sumOfValues 33 = .ok (.aload 4, 2) := by decide +kernel
theorem dX2_sumOfValues_35 : decode cX2_sumOfValues 35 = .ok (.getfield 121, 3) := by decide +kernel
theorem dX2_sumOfValues_38 : decode cX2_sumOfValues 38 = .ok (.iadd, 1) := by decide +kernel
theorem dX2_sumOfValues_39 : decode cX2_sumOfValues 39 = .ok (.istore_n 3, 1) := by decide +kernel
theorem dX2_sumOfValues_40 : decode cX2_sumOfValues 40 = .ok (.aload 4, 2) := by decide +kernel
theorem dX2_sumOfValues_42 : decode cX2_sumOfValues 42 = .ok (.getfield 95, 3) := by decide +kernel
theorem dX2_sumOfValues_45 : decode cX2_sumOfValues 45 = .ok (.astore 4, 2) := by decide +kernel
theorem dX2_sumOfValues_47 : decode cX2_sumOfValues 47 = .ok (.goto (-39), 3) := by decide +kernel
theorem dX2_sumOfValues_50 : decode cX2_sumOfValues 50 = .ok (.iload_n 3, 1) := by decide +kernel
theorem dX2_sumOfValues_51 : decode cX2_sumOfValues 51 = .ok (.ireturn, 1) := by decide +kernel
theorem dX2_memberOfUnion_0 : decode cX2_memberOfUnion 0 = .ok (.iconst 0, 1) := by decide +kernel
theorem dX2_memberOfUnion_1 : decode cX2_memberOfUnion 1 = .ok (.istore 4, 2) := by decide +kernel
theorem dX2_memberOfUnion_3 : decode cX2_memberOfUnion 3 = .ok (.aload_n 0, 1) := by decide +kernel
theorem dX2_memberOfUnion_4 : decode cX2_memberOfUnion 4 = .ok (.getfield 29, 3) := by decide +kernel
