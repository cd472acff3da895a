theorem dX2_memberOfUnion_7 : decode cX2_memberOfUnion 7 = .ok (.astore 5, 2) := by decide +kernel
theorem dX2_memberOfUnion_9 : decode cX2_memberOfUnion 9 = .ok (.aload 5, 2) := by decide +kernel
theorem dX2_memberOfUnion_11 : decode cX2_memberOfUnion 11 = .ok (.ifnull 44, 3) := by decide +kernel
theorem dX2_memberOfUnion_14 : decode cX2_memberOfUnion 14 = .ok (.aload 5, 2) := by decide +kernel
theorem dX2_memberOfUnion_16 : decode cX2_memberOfUnion 16 = .ok (.iload_n 2, 1) := by decide +kernel
theorem dX2_memberOfUnion_17 : decode cX2_memberOfUnion 17 = .ok (.iconst 2, 1) := by decide +kernel
theorem dX2_memberOfUnion_18 : decode cX2_memberOfUnion 18 = .ok (.invokevirtual 209, 3) := by decide +kernel
theorem dX2_memberOfUnion_21 : decode cX2_memberOfUnion 21 = .ok (.ifCond .eq 24, 3) := by decide +kernel
theorem dX2_memberOfUnion_24 : decode cX2_memberOfUnion 24 = .ok (.aload 5, 2) := by decide +kernel
theorem dX2_memberOfUnion_26 : decode cX2_memberOfUnion 26 = .ok (.iload_n 1, 1) := by decide +kernel
theorem dX2_memberOfUnion_27 : decode cX2_memberOfUnion 27 = .ok (.invokevirtual 88, 3) := by decide +kernel
theorem dX2_memberOfUnion_30 : decode cX2_memberOfUnion 30 = .ok (.ifCond .eq 15, 3) := by decide +kernel
theorem dX2_memberOfUnion_33 : decode cX2_memberOfUnion 33 = .ok (.iload 4, 2) := by decide +kernel
theorem dX2_memberOfUnion_35 : decode cX2_memberOfUnion 35 = .ok (.iconst 1, 1) := by decide +kernel
theorem dX2_memberOfUnion_36 : decode cX2_memberOfUnion 36 = .ok (.aload 5, 2) := by decide +kernel
theorem dX2_memberOfUnion_38 : decode cX2_memberOfUnion 38 = .ok (.getfield 121, 3) := by decide +kernel
theorem dX2_memberOfUnion_41 : decode cX2_memberOfUnion 41 = .ok (.ishl, 1) := by decide +kernel
theorem dX2_memberOfUnion_42 : decode cX2_memberOfUnion 42 = .ok (.ior, 1) := by decide +kernel
theorem dX2_memberOfUnion_43 : decode cX2_memberOfUnion 43 = .ok (.istore 4, 2) := by decide +kernel
theorem dX2_memberOfUnion_45 : decode cX2_memberOfUnion 45 = .ok (.aload 5, 2) := by decide +kernel
theorem dX2_memberOfUnion_47 : decode cX2_memberOfUnion 47 = .ok (.getfield 95, 3) := by decide +kernel
theorem dX2_memberOfUnion_50 : decode cX2_memberOfUnion 50 = .ok (.astore 5, 2) := by decide +kernel
theorem dX2_memberOfUnion_52 : decode cX2_memberOfUnion 52 = .ok (.goto (-43), 3) := by decide +kernel
theorem dX2_memberOfUnion_55 : decode cX2_memberOfUnion 55 = .ok (.iconst 0, 1) := by decide +kernel
theorem dX2_memberOfUnion_56 : decode cX2_memberOfUnion 56 = .ok (.istore 5, 2) := by decide +kernel
theorem dX2_memberOfUnion_58 : decode cX2_memberOfUnion 58 = .ok (.iconst 0, 1) := by decide +kernel
theorem dX2_memberOfUnion_59 : decode cX2_memberOfUnion 59 = .ok (.istore 6, 2) := by decide +kernel
theorem dX2_memberOfUnion_61 : decode cX2_memberOfUnion 61 = .ok (.iload 6, 2) := by decide +kernel
theorem dX2_memberOfUnion_63 : decode cX2_memberOfUnion 63 = .ok (.bipush 32, 2) := by decide +kernel
theorem dX2_memberOfUnion_65 : decode cX2_memberOfUnion 65 = .ok (.if_icmp .ge 32, 3) := by decide +kernel
theorem dX2_memberOfUnion_68 : decode cX2_memberOfUnion 68 = .ok (.iload 4, 2) := by decide +kernel
theorem dX2_memberOfUnion_70 : decode cX2_memberOfUnion 70 = .ok (.iload 6, 2) := by decide +kernel
theorem dX2_memberOfUnion_72 : decode cX2_memberOfUnion 72 = .ok (.iushr, 1) := by decide +kernel
theorem dX2_memberOfUnion_73 : decode cX2_memberOfUnion 73 = .ok (.iconst 1, 1) := by decide +kernel
theorem dX2_memberOfUnion_74 : decode cX2_memberOfUnion 74 = .ok (.iand, 1) := by decide +kernel
theorem dX2_memberOfUnion_75 : decode cX2_memberOfUnion 75 = .ok (.iconst 1, 1) := by decide +kernel
theorem dX2_memberOfUnion_76 : decode cX2_memberOfUnion 76 = .ok (.if_icmp .ne 15, 3) := by decide +kernel
theorem dX2_memberOfUnion_79 : decode cX2_memberOfUnion 79 = .ok (.iload 5, 2) := by decide +kernel
theorem dX2_memberOfUnion_81 : decode cX2_memberOfUnion 81 = .ok (.iload_n 3, 1) := by decide +kernel
theorem dX2_memberOfUnion_82 : decode cX2_memberOfUnion 82 = .ok (.if_icmp .ne 6, 3) := by decide +kernel
theorem dX2_memberOfUnion_85 : decode cX2_memberOfUnion 85 = .ok (.iload 6, 2) := by decide +kernel
theorem dX2_memberOfUnion_87 : decode cX2_memberOfUnion 87 = .ok (.ireturn, 1) := by decide +kernel
theorem dX2_memberOfUnion_88 : decode cX2_memberOfUnion 88 = .ok (.iinc 5 1, 3) := by decide +kernel
theorem dX2_memberOfUnion_91 : decode cX2_memberOfUnion 91 = .ok (.iinc 6 1, 3) := by decide +kernel
theorem dX2_memberOfUnion_94 : decode cX2_memberOfUnion 94 = .ok (.goto (-33), 3) := by decide +kernel
theorem dX2_memberOfUnion_97 : decode cX2_memberOfUnion 97 = .ok (.iconst (-1), 1) := by decide +kernel
theorem dX2_memberOfUnion_98 : decode cX2_memberOfUnion 98 = .ok (.ireturn, 1) := by decide +kernel
theorem dX2_takeRelations_0 : decode cX2_takeRelations 0 = .ok (.aload_n 0, 1) := by decide +kernel
theorem dX2_takeRelations_1 : decode cX2_takeRelations 1 = .ok (.getfield 25, 3) := by decide +kernel
theorem dX2_takeRelations_4 : decode cX2_takeRelations 4 = .ok (.invokevirtual 212, 3) := by decide +kernel
theorem dX2_takeRelations_7 : decode cX2_takeRelations 7 = .ok (.aload_n 0, 1) := by decide +kernel
theorem dX2_takeRelations_8 : decode cX2_takeRelations 8 = .ok (.getfield 29, 3) := by decide +kernel
theorem dX2_takeRelations_11 : decode cX2_takeRelations 11 = .ok (.astore_n 2, 1) := by decide +kernel
theorem dX2_takeRelations_12 : decode cX2_takeRelations 12 = .ok (.aload_n 2, 1) := by decide +kernel
theorem dX2_takeRelations_13 : decode cX2_takeRelations 13 = .ok (.ifnull 78, 3) := by decide +kernel
theorem dX2_takeRelations_16 : decode cX2_takeRelations 16 = .ok (.aload_n 2, 1) := by decide +kernel
theorem dX2_takeRelations_17 : decode cX2_takeRelations 17 = .ok (.getfield 62, 3) := by decide +kernel
theorem dX2_takeRelations_20 : decode cX2_takeRelations 20 = .ok (.iconst 5, 1) := by decide +kernel
theorem dX2_takeRelations_21 : decode cX2_takeRelations 21 = .ok (.if_icmp .ne 23, 3) := by decide +kernel
theorem dX2_takeRelations_24 : decode cX2_takeRelations 24 = .ok (.aload_n 2, 1) := by decide +kernel
theorem dX2_takeRelations_25 : decode cX2_takeRelations 25 = .ok (.iload_n 1, 1) := by decide +kernel
theorem dX2_takeRelations_26 : decode cX2_takeRelations 26 = .ok (.invokevirtual 88, 3) := by decide +kernel
theorem dX2_takeRelations_29 : decode cX2_takeRelations 29 = .ok (.ifCond .eq 15, 3) := by decide +kernel
theorem dX2_takeRelations_32 : decode cX2_takeRelations 32 = .ok (.aload_n 2, 1) := by decide +kernel
theorem dX2_takeRelations_33 : decode cX2_takeRelations 33 = .ok (.iload_n 1, 1) := by decide +kernel
theorem dX2_takeRelations_34 : decode cX2_takeRelations 34 = .ok (.invokevirtual 206, 3) := by decide +kernel
theorem dX2_takeRelations_37 : decode cX2_takeRelations 37 = .ok (.ifCond .ne 7, 3) := by decide +kernel
theorem dX2_takeRelations_40 : decode cX2_takeRelations 40 = .ok (.iconst 1, 1) := by decide +kernel
theorem dX2_takeRelations_41 : decode cX2_takeRelations 41 = .ok (.goto 4, 3) := by decide +kernel
theorem dX2_takeRelations_44 : decode cX2_takeRelations 44 = .ok (.iconst 0, 1) := by decide +kernel
theorem dX2_takeRelations_45 : decode cX2_takeRelations 45 = .ok (.istore_n 3, 1) := by decide +kernel
theorem dX2_takeRelations_46 : decode cX2_takeRelations 46 = .ok (.aload_n 2, 1) := by decide +kernel
theorem dX2_takeRelations_47 : decode cX2_takeRelations 47 = .ok (.iload_n 3, 1) := by decide +kernel
theorem dX2_takeRelations_48 : decode cX2_takeRelations 48 = .ok (.ifCond .eq 31, 3) := by decide +kernel
theorem dX2_takeRelations_51 : decode cX2_takeRelations 51 = .ok (.aload_n 0, 1) := by decide +kernel
theorem dX2_takeRelations_52 : decode cX2_takeRelations 52 = .ok (.getfield 25, 3) := by decide +kernel
theorem dX2_takeRelations_55 : decode cX2_takeRelations 55 = .ok (.aload_n 2, 1) := by decide +kernel
theorem dX2_takeRelations_56 : decode cX2_takeRelations 56 = .ok (.getfield 121, 3) := by decide +kernel
theorem dX2_takeRelations_59 : decode cX2_takeRelations 59 = .ok (.bipush 16, 2) := by decide +kernel
theorem dX2_takeRelations_61 : decode cX2_takeRelations 61 = .ok (.idiv, 1) := by decide +kernel
theorem dX2_takeRelations_62 : decode cX2_takeRelations 62 = .ok (.aload_n 2, 1) := by decide +kernel
theorem dX2_takeRelations_63 : decode cX2_takeRelations 63 = .ok (.getfield 121, 3) := by decide +kernel
theorem dX2_takeRelations_66 : decode cX2_takeRelations 66 = .ok (.bipush 16, 2) := by decide +kernel
theorem dX2_takeRelations_68 : decode cX2_takeRelations 68 = .ok (.irem, 1) := by decide +kernel
theorem dX2_takeRelations_69 : decode cX2_takeRelations 69 = .ok (.invokevirtual 215, 3) := by decide +kernel
theorem dX2_takeRelations_72 : decode cX2_takeRelations 72 = .ok (.ifCond .ne 7, 3) := by decide +kernel
theorem dX2_takeRelations_75 : decode cX2_takeRelations 75 = .ok (.iconst 1, 1) := by decide +kernel
theorem dX2_takeRelations_76 : decode cX2_takeRelations 76 = .ok (.goto 4, 3) := by decide +kernel
theorem dX2_takeRelations_79 : decode cX2_takeRelations 79 = .ok (.iconst 0, 1) := by decide +kernel
theorem dX2_takeRelations_80 : decode cX2_takeRelations 80 = .ok (.putfield 131, 3) := by decide +kernel
theorem dX2_takeRelations_83 : decode cX2_takeRelations 83 = .ok (.aload_n 2, 1) := by decide +kernel
theorem dX2_takeRelations_84 : decode cX2_takeRelations 84 = .ok (.getfield 95, 3) := by decide +kernel
theorem dX2_takeRelations_87 : decode cX2_takeRelations 87 = .ok (.astore_n 2, 1) := by decide +kernel
theorem dX2_takeRelations_88 : decode cX2_takeRelations 88 = .ok (.goto (-76), 3) := by decide +kernel
theorem dX2_takeRelations_91 : decode cX2_takeRelations 91 = .ok (.return_, 1) := by decide +kernel
theorem dX2_isOutdone_0 : decode cX2_isOutdone 0 = .ok (.aload_n 0, 1) := by decide +kernel
theorem dX2_isOutdone_1 : decode cX2_isOutdone 1 = .ok (.invokestatic 218, 3) := by decide +kernel
theorem dX2_isOutdone_4 : decode cX2_isOutdone 4 = .ok (.ifCond .ne 5, 3) := by decide +kernel
theorem dX2_isOutdone_7 : decode cX2_isOutdone 7 = .ok (.iconst 0, 1) := by decide +kernel
theorem dX2_isOutdone_8 : decode cX2_isOutdone 8 = .ok (.ireturn, 1) := by decide +kernel
theorem dX2_isOutdone_9 : decode cX2_isOutdone 9 = .ok (.aload_n 0, 1) := by decide +kernel
theorem dX2_isOutdone_10 : decode cX2_isOutdone 10 = .ok (.getfield 95, 3) := by decide +kernel
theorem dX2_isOutdone_13 : decode cX2_isOutdone 13 = .ok (.astore_n 1, 1) := by decide +kernel
theorem dX2_isOutdone_14 : decode cX2_isOutdone 14 = .ok (.aload_n 1, 1) := by decide +kernel
theorem dX2_isOutdone_15 : decode cX2_isOutdone 15 = .ok (.ifnull 31, 3) := by decide +kernel
theorem dX2_isOutdone_18 : decode cX2_isOutdone 18 = .ok (.aload_n 1, 1) := by decide +kernel
theorem dX2_isOutdone_19 : decode cX2_isOutdone 19 = .ok (.invokestatic 218, 3) := by decide +kernel
theorem dX2_isOutdone_22 : decode cX2_isOutdone 22 = .ok (.ifCond .eq 16, 3) := by decide +kernel
theorem dX2_isOutdone_25 : decode cX2_isOutdone 25 = .ok (.aload_n 1, 1) := by decide +kernel
theorem dX2_isOutdone_26 : decode cX2_isOutdone 26 = .ok (.getfield 65, 3) := by decide +kernel
theorem dX2_isOutdone_29 : decode cX2_isOutdone 29 = .ok (.aload_n 0, 1) := by decide +kernel
theorem dX2_isOutdone_30 : decode cX2_isOutdone 30 = .ok (.getfield 65, 3) := by decide +kernel
theorem dX2_isOutdone_33 : decode cX2_isOutdone 33 = .ok (.if_icmp .ne 5, 3) := by decide +kernel
theorem dX2_isOutdone_36 : decode cX2_isOutdone 36 = .ok (.iconst 1, 1) := by decide +kernel
theorem dX2_isOutdone_37 : decode cX2_isOutdone 37 = .ok (.ireturn, 1) := by decide +kernel
theorem dX2_isOutdone_38 : decode cX2_isOutdone 38 = .ok (.aload_n 1, 1) := by decide +kernel
theorem dX2_isOutdone_39 : decode cX2_isOutdone 39 = .ok (.getfield 95, 3) := by decide +kernel
theorem dX2_isOutdone_42 : decode cX2_isOutdone 42 = .ok (.astore_n 1, 1) := by decide +kernel
theorem dX2_isOutdone_43 : decode cX2_isOutdone 43 = .ok (.goto (-29), 3) := by decide +kernel
theorem dX2_isOutdone_46 : decode cX2_isOutdone 46 = .ok (.iconst 0, 1) := by decide +kernel
theorem dX2_isOutdone_47 : decode cX2_isOutdone 47 = .ok (.ireturn, 1) := by decide +kernel
theorem dX2_isSharedLatest_0 : decode cX2_isSharedLatest 0 = .ok (.aload_n 0, 1) := by decide +kernel
theorem dX2_isSharedLatest_1 : decode cX2_isSharedLatest 1 = .ok (.getfield 62, 3) := by decide +kernel
theorem dX2_isSharedLatest_4 : decode cX2_isSharedLatest 4 = .ok (.ifCond .ne 16, 3) := by decide +kernel
theorem dX2_isSharedLatest_7 : decode cX2_isSharedLatest 7 = .ok (.aload_n 0, 1) := by decide +kernel
theorem dX2_isSharedLatest_8 : decode cX2_isSharedLatest 8 = .ok (.getfield 221, 3) := by decide +kernel
theorem dX2_isSharedLatest_11 : decode cX2_isSharedLatest 11 = .ok (.bipush 63, 2) := by decide +kernel
theorem dX2_isSharedLatest_13 : decode cX2_isSharedLatest 13 = .ok (.if_icmp .ne 7, 3) := by decide +kernel
theorem dX2_isSharedLatest_16 : decode cX2_isSharedLatest 16 = .ok (.iconst 1, 1) := by decide +kernel
theorem dX2_isSharedLatest_17 : decode cX2_isSharedLatest 17 = .ok (.goto 4, 3) := by decide +kernel
theorem dX2_isSharedLatest_20 : decode cX2_isSharedLatest 20 = .ok (.iconst 0, 1) := by decide +kernel
theorem dX2_isSharedLatest_21 : decode cX2_isSharedLatest 21 = .ok (.ireturn, 1) := by decide +kernel
theorem dX2_countForgotten_0 : decode cX2_countForgotten 0 = .ok (.iconst 0, 1) := by decide +kernel
theorem dX2_countForgotten_1 : decode cX2_countForgotten 1 = .ok (.istore_n 1, 1) := by decide +kernel
theorem dX2_countForgotten_2 : decode cX2_countForgotten 2 = .ok (.aload_n 0, 1) := by decide +kernel
theorem dX2_countForgotten_3 : decode cX2_countForgotten 3 = .ok (.getfield 29, 3) := by decide +kernel
theorem dX2_countForgotten_6 : decode cX2_countForgotten 6 = .ok (.astore_n 2, 1) := by decide +kernel
theorem dX2_countForgotten_7 : decode cX2_countForgotten 7 = .ok (.aload_n 2, 1) := by decide +kernel
theorem dX2_countForgotten_8 : decode cX2_countForgotten 8 = .ok (.ifnull 21, 3) := by decide +kernel
theorem dX2_countForgotten_11 : decode cX2_countForgotten 11 = .ok (.aload_n 2, 1) := by decide +kernel
theorem dX2_countForgotten_12 : decode cX2_countForgotten 12 = .ok (.invokevirtual 224, 3) := by decide +kernel
theorem dX2_countForgotten_15 : decode cX2_countForgotten 15 = .ok (.ifCond .eq 6, 3) := by decide +kernel
theorem dX2_countForgotten_18 : decode cX2_countForgotten 18 = .ok (.iinc 1 1, 3) := by decide +kernel
theorem dX2_countForgotten_21 : decode cX2_countForgotten 21 = .ok (.aload_n 2, 1) := by decide +kernel
theorem dX2_countForgotten_22 : decode cX2_countForgotten 22 = .ok (.getfield 95, 3) := by decide +kernel
theorem dX2_countForgotten_25 : decode cX2_countForgotten 25 = .ok (.astore_n 2, 1) := by decide +kernel
theorem dX2_countForgotten_26 : decode cX2_countForgotten 26 = .ok (.goto (-19), 3) := by decide +kernel
theorem dX2_countForgotten_29 : decode cX2_countForgotten 29 = .ok (.iload_n 1, 1) := by decide +kernel
theorem dX2_countForgotten_30 : decode cX2_countForgotten 30 = .ok (.ireturn, 1) := by decide +kernel
theorem dX2_countUnshared_0 : decode cX2_countUnshared 0 = .ok (.iconst 0, 1) := by decide +kernel
theorem dX2_countUnshared_1 : decode cX2_countUnshared 1 = .ok (.istore_n 1, 1) := by decide +kernel
theorem dX2_countUnshared_2 : decode cX2_countUnshared 2 = .ok (.aload_n 0, 1) := by decide +kernel
theorem dX2_countUnshared_3 : decode cX2_countUnshared 3 = .ok (.getfield 29, 3) := by decide +kernel
theorem dX2_countUnshared_6 : decode cX2_countUnshared 6 = .ok (.astore_n 2, 1) := by decide +kernel
theorem dX2_countUnshared_7 : decode cX2_countUnshared 7 = .ok (.aload_n 2, 1) := by decide +kernel
theorem dX2_countUnshared_8 : decode cX2_countUnshared 8 = .ok (.ifnull 30, 3) := by decide +kernel
theorem dX2_countUnshared_11 : decode cX2_countUnshared 11 = .ok (.aload_n 2, 1) := by decide +kernel
theorem dX2_countUnshared_12 : decode cX2_countUnshared 12 = .ok (.invokevirtual 224, 3) := by decide +kernel
theorem dX2_countUnshared_15 : decode cX2_countUnshared 15 = .ok (.ifCond .ne 15, 3) := by decide +kernel
theorem dX2_countUnshared_18 : decode cX2_countUnshared 18 = .ok (.aload_n 2, 1) := by decide +kernel
theorem dX2_countUnshared_19 : decode cX2_countUnshared 19 = .ok (.getfield 221, 3) := by decide +kernel
theorem dX2_countUnshared_22 : decode cX2_countUnshared 22 = .ok (.bipush 63, 2) := by decide +kernel
theorem dX2_countUnshared_24 : decode cX2_countUnshared 24 = .ok (.if_icmp .eq 6, 3) := by decide +kernel
theorem dX2_countUnshared_27 : decode cX2_countUnshared 27 = .ok (.iinc 1 1, 3) := by decide +kernel
theorem dX2_countUnshared_30 : decode cX2_countUnshared 30 = .ok (.aload_n 2, 1) := by decide +kernel
theorem dX2_countUnshared_31 : decode cX2_countUnshared 31 = .ok (.getfield 95, 3) := by decide +kernel
theorem dX2_countUnshared_34 : decode cX2_countUnshared 34 = .ok (.astore_n 2, 1) := by decide +kernel
theorem dX2_countUnshared_35 : decode cX2_countUnshared 35 = .ok (.goto (-28), 3) := by decide +kernel
theorem dX2_countUnshared_38 : decode cX2_countUnshared 38 = .ok (.iload_n 1, 1) := by decide +kernel
theorem dX2_countUnshared_39 : decode cX2_countUnshared 39 = .ok (.ireturn, 1) := by decide +kernel
theorem dX3_init_0 : decode cX3_init 0 = .ok (.aload_n 0, 1) := by decide +kernel
theorem dX3_init_1 : decode cX3_init 1 = .ok (.invokespecial 1, 3) := by decide +kernel
theorem dX3_init_4 : decode cX3_init 4 = .ok (.aload_n 0, 1) := by decide +kernel
theorem dX3_init_5 : decode cX3_init 5 = .ok (.bipush 120, 2) := by decide +kernel
theorem dX3_init_7 : decode cX3_init 7 = .ok (.newarray .int, 2) := by decide +kernel
theorem dX3_init_9 : decode cX3_init 9 = .ok (.putfield 7, 3) := by decide +kernel
theorem dX3_init_12 : decode cX3_init 12 = .ok (.aload_n 0, 1) := by decide +kernel
theorem dX3_init_13 : decode cX3_init 13 = .ok (.bipush 120, 2) := by decide +kernel
theorem dX3_init_15 : decode cX3_init 15 = .ok (.newarray .int, 2) := by decide +kernel
theorem dX3_init_17 : decode cX3_init 17 = .ok (.putfield 13, 3) := by decide +kernel
theorem dX3_init_20 : decode cX3_init 20 = .ok (.aload_n 0, 1) := by decide +kernel
theorem dX3_init_21 : decode cX3_init 21 = .ok (.bipush 120, 2) := by decide +kernel
theorem dX3_init_23 : decode cX3_init 23 = .ok (.newarray .int, 2) := by decide +kernel
theorem dX3_init_25 : decode cX3_init 25 = .ok (.putfield 16, 3) := by decide +kernel
theorem dX3_init_28 : decode cX3_init 28 = .ok (.aload_n 0, 1) := by decide +kernel
theorem dX3_init_29 : decode cX3_init 29 = .ok (.bipush 120, 2) := by decide +kernel
theorem dX3_init_31 : decode cX3_init 31 = .ok (.newarray .int, 2) := by decide +kernel
theorem dX3_init_33 : decode cX3_init 33 = .ok (.putfield 19, 3) := by decide +kernel
theorem dX3_init_36 : decode cX3_init 36 = .ok (.aload_n 0, 1) := by decide +kernel
theorem dX3_init_37 : decode cX3_init 37 = .ok (.bipush 120, 2) := by decide +kernel
theorem dX3_init_39 : decode cX3_init 39 = .ok (.newarray .int, 2) := by decide +kernel
theorem dX3_init_41 : decode cX3_init 41 = .ok (.putfield 22, 3) := by decide +kernel
theorem dX3_init_44 : decode cX3_init 44 = .ok (.aload_n 0, 1) := by decide +kernel
theorem dX3_init_45 : decode cX3_init 45 = .ok (.bipush 120, 2) := by decide +kernel
theorem dX3_init_47 : decode cX3_init 47 = .ok (.newarray .int, 2) := by decide +kernel
theorem dX3_init_49 : decode cX3_init 49 = .ok (.putfield 25, 3) := by decide +kernel
theorem dX3_init_52 : decode cX3_init 52 = .ok (.aload_n 0, 1) := by decide +kernel
theorem dX3_init_53 : decode cX3_init 53 = .ok (.bipush 120, 2) := by decide +kernel
theorem dX3_init_55 : decode cX3_init 55 = .ok (.newarray .boolean, 2) := by decide +kernel
theorem dX3_init_57 : decode cX3_init 57 = .ok (.putfield 28, 3) := by decide +kernel
theorem dX3_init_60 : decode cX3_init 60 = .ok (.aload_n 0, 1) := by decide +kernel
theorem dX3_init_61 : decode cX3_init 61 = .ok (.sipush 720, 3) := by decide +kernel
theorem dX3_init_64 : decode cX3_init 64 = .ok (.newarray .boolean, 2) := by decide +kernel
theorem dX3_init_66 : decode cX3_init 66 = .ok (.putfield 32, 3) := by decide +kernel
theorem dX3_init_69 : decode cX3_init 69 = .ok (.aload_n 0, 1) := by decide +kernel
theorem dX3_init_70 : decode cX3_init 70 = .ok (.bipush 6, 2) := by decide +kernel
theorem dX3_init_72 : decode cX3_init 72 = .ok (.newarray .int, 2) := by decide +kernel
theorem dX3_init_74 : decode cX3_init 74 = .ok (.putfield 35, 3) := by decide +kernel
theorem dX3_init_77 : decode cX3_init 77 = .ok (.aload_n 0, 1) := by decide +kernel
theorem dX3_init_78 : decode cX3_init 78 = .ok (.bipush 120, 2) := by decide +kernel
theorem dX3_init_80 : decode cX3_init 80 = .ok (.newarray .int, 2) := by decide +kernel
theorem dX3_init_82 : decode cX3_init 82 = .ok (.putfield 38, 3) := by decide +kernel
theorem dX3_init_85 : decode cX3_init 85 = .ok (.aload_n 0, 1) := by decide +kernel
theorem dX3_init_86 : decode cX3_init 86 = .ok (.sipush 256, 3) := by decide +kernel
theorem dX3_init_89 : decode cX3_init 89 = .ok (.newarray .boolean, 2) := by decide +kernel
theorem dX3_init_91 : decode cX3_init 91 = .ok (.putfield 41, 3) := by decide +kernel
theorem dX3_init_94 : decode cX3_init 94 = .ok (.aload_n 0, 1) := by decide +kernel
theorem dX3_init_95 : decode cX3_init 95 = .ok (.bipush 120, 2) := by decide +kernel
theorem dX3_init_97 : decode cX3_init 97 = .ok (.newarray .int, 2) := by decide +kernel
theorem dX3_init_99 : decode cX3_init 99 = .ok (.putfield 44, 3) := by decide +kernel
theorem dX3_init_102 : decode cX3_init 102 = .ok (.aload_n 0, 1) := by decide +kernel
theorem dX3_init_103 : decode cX3_init 103 = .ok (.bipush 120, 2) := by decide +kernel
theorem dX3_init_105 : decode cX3_init 105 = .ok (.newarray .boolean, 2) := by decide +kernel
theorem dX3_init_107 : decode cX3_init 107 = .ok (.putfield 47, 3) := by decide +kernel
theorem dX3_init_110 : decode cX3_init 110 = .ok (.return_, 1) := by decide +kernel
theorem dX3_thrown_0 : decode cX3_thrown 0 = .ok (.aload_n 0, 1) := by decide +kernel
theorem dX3_thrown_1 : decode cX3_thrown 1 = .ok (.getfield 50, 3) := by decide +kernel
theorem dX3_thrown_4 : decode cX3_thrown 4 = .ok (.ireturn, 1) := by decide +kernel
theorem dX3_goes_0 : decode cX3_goes 0 = .ok (.aload_n 0, 1) := by decide +kernel
theorem dX3_goes_1 : decode cX3_goes 1 = .ok (.iload_n 1, 1) := by decide +kernel
theorem dX3_goes_2 : decode cX3_goes 2 = .ok (.ifCond .ne 7, 3) := by decide +kernel
theorem dX3_goes_5 : decode cX3_goes 5 = .ok (.iconst 1, 1) := by decide +kernel
theorem dX3_goes_6 : decode cX3_goes 6 = .ok (.goto 20, 3) := by decide +kernel
theorem dX3_goes_9 : decode cX3_goes 9 = .ok (.iload_n 2, 1) := by decide +kernel
theorem dX3_goes_10 : decode cX3_goes 10 = .ok (.ifCond .ne 7, 3) := by decide +kernel
theorem dX3_goes_13 : decode cX3_goes 13 = .ok (.iconst 2, 1) := by decide +kernel
theorem dX3_goes_14 : decode cX3_goes 14 = .ok (.goto 12, 3) := by decide +kernel
theorem dX3_goes_17 : decode cX3_goes 17 = .ok (.iload_n 3, 1) := by decide +kernel
theorem dX3_goes_18 : decode cX3_goes 18 = .ok (.ifCond .ne 7, 3) := by decide +kernel
theorem dX3_goes_21 : decode cX3_goes 21 = .ok (.iconst 3, 1) := by decide +kernel
theorem dX3_goes_22 : decode cX3_goes 22 = .ok (.goto 4, 3) := by decide +kernel
theorem dX3_goes_25 : decode cX3_goes 25 = .ok (.iconst 0, 1) := by decide +kernel
theorem dX3_goes_26 : decode cX3_goes 26 = .ok (.putfield 50, 3) := by decide +kernel
theorem dX3_goes_29 : decode cX3_goes 29 = .ok (.aload_n 0, 1) := by decide +kernel
theorem dX3_goes_30 : decode cX3_goes 30 = .ok (.getfield 50, 3) := by decide +kernel
theorem dX3_goes_33 : decode cX3_goes 33 = .ok (.ifCond .ne 7, 3) := by decide +kernel
theorem dX3_goes_36 : decode cX3_goes 36 = .ok (.iconst 1, 1) := by decide +kernel
theorem dX3_goes_37 : decode cX3_goes 37 = .ok (.goto 4, 3) := by decide +kernel
theorem dX3_goes_40 : decode cX3_goes 40 = .ok (.iconst 0, 1) := by decide +kernel
theorem dX3_goes_41 : decode cX3_goes 41 = .ok (.ireturn, 1) := by decide +kernel
theorem dX3_within_0 : decode cX3_within 0 = .ok (.iload_n 0, 1) := by decide +kernel
theorem dX3_within_1 : decode cX3_within 1 = .ok (.iload_n 1, 1) := by decide +kernel
theorem dX3_within_2 : decode cX3_within 2 = .ok (.if_icmp .lt 12, 3) := by decide +kernel
theorem dX3_within_5 : decode cX3_within 5 = .ok (.iload_n 0, 1) := by decide +kernel
theorem dX3_within_6 : decode cX3_within 6 = .ok (.iload_n 2, 1) := by decide +kernel
theorem dX3_within_7 : decode cX3_within 7 = .ok (.if_icmp .gt 7, 3) := by decide +kernel
theorem dX3_within_10 : decode cX3_within 10 = .ok (.iconst 1, 1) := by decide +kernel
theorem dX3_within_11 : decode cX3_within 11 = .ok (.goto 4, 3) := by decide +kernel
theorem dX3_within_14 : decode cX3_within 14 = .ok (.iconst 0, 1) := by decide +kernel
theorem dX3_within_15 : decode cX3_within 15 = .ok (.ireturn, 1) := by decide +kernel
theorem dX3_isDesk_0 : decode cX3_isDesk 0 = .ok (.iload_n 0, 1) := by decide +kernel
theorem dX3_isDesk_1 : decode cX3_isDesk 1 = .ok (.ifCond .lt 13, 3) := by decide +kernel
theorem dX3_isDesk_4 : decode cX3_isDesk 4 = .ok (.iload_n 0, 1) := by decide +kernel
theorem dX3_isDesk_5 : decode cX3_isDesk 5 = .ok (.bipush 6, 2) := by decide +kernel
theorem dX3_isDesk_7 : decode cX3_isDesk 7 = .ok (.if_icmp .ge 7, 3) := by decide +kernel
theorem dX3_isDesk_10 : decode cX3_isDesk 10 = .ok (.iconst 1, 1) := by decide +kernel
theorem dX3_isDesk_11 : decode cX3_isDesk 11 = .ok (.goto 4, 3) := by decide +kernel
theorem dX3_isDesk_14 : decode cX3_isDesk 14 = .ok (.iconst 0, 1) := by decide +kernel
theorem dX3_isDesk_15 : decode cX3_isDesk 15 = .ok (.ireturn, 1) := by decide +kernel
theorem dX3_isThing_0 : decode cX3_isThing 0 = .ok (.iload_n 0, 1) := by decide +kernel
theorem dX3_isThing_1 : decode cX3_isThing 1 = .ok (.ifCond .lt 13, 3) := by decide +kernel
theorem dX3_isThing_4 : decode cX3_isThing 4 = .ok (.iload_n 0, 1) := by decide +kernel
theorem dX3_isThing_5 : decode cX3_isThing 5 = .ok (.bipush 16, 2) := by decide +kernel
theorem dX3_isThing_7 : decode cX3_isThing 7 = .ok (.if_icmp .ge 7, 3) := by decide +kernel
theorem dX3_isThing_10 : decode cX3_isThing 10 = .ok (.iconst 1, 1) := by decide +kernel
theorem dX3_isThing_11 : decode cX3_isThing 11 = .ok (.goto 4, 3) := by decide +kernel
theorem dX3_isThing_14 : decode cX3_isThing 14 = .ok (.iconst 0, 1) := by decide +kernel
theorem dX3_isThing_15 : decode cX3_isThing 15 = .ok (.ireturn, 1) := by decide +kernel
theorem dX3_knowsOf_0 : decode cX3_knowsOf 0 = .ok (.iload_n 1, 1) := by decide +kernel
theorem dX3_knowsOf_1 : decode cX3_knowsOf 1 = .ok (.invokestatic 54, 3) := by decide +kernel
theorem dX3_knowsOf_4 : decode cX3_knowsOf 4 = .ok (.ifCond .eq 33, 3) := by decide +kernel
theorem dX3_knowsOf_7 : decode cX3_knowsOf 7 = .ok (.iload_n 2, 1) := by decide +kernel
theorem dX3_knowsOf_8 : decode cX3_knowsOf 8 = .ok (.ifCond .lt 29, 3) := by decide +kernel
theorem dX3_knowsOf_11 : decode cX3_knowsOf 11 = .ok (.iload_n 2, 1) := by decide +kernel
theorem dX3_knowsOf_12 : decode cX3_knowsOf 12 = .ok (.aload_n 0, 1) := by decide +kernel
theorem dX3_knowsOf_13 : decode cX3_knowsOf 13 = .ok (.getfield 58, 3) := by decide +kernel
theorem dX3_knowsOf_16 : decode cX3_knowsOf 16 = .ok (.if_icmp .ge 21, 3) := by decide +kernel
theorem dX3_knowsOf_19 : decode cX3_knowsOf 19 = .ok (.aload_n 0, 1) := by decide +kernel
theorem dX3_knowsOf_20 : decode cX3_knowsOf 20 = .ok (.getfield 32, 3) := by decide +kernel
theorem dX3_knowsOf_23 : decode cX3_knowsOf 23 = .ok (.bipush 120, 2) := by decide +kernel
theorem dX3_knowsOf_25 : decode cX3_knowsOf 25 = .ok (.iload_n 1, 1) := by decide +kernel
theorem dX3_knowsOf_26 : decode cX3_knowsOf 26 = .ok (.imul, 1) := by decide +kernel
theorem dX3_knowsOf_27 : decode cX3_knowsOf 27 = .ok (.iload_n 2, 1) := by decide +kernel
theorem dX3_knowsOf_28 : decode cX3_knowsOf 28 = .ok (.iadd, 1) := by decide +kernel
theorem dX3_knowsOf_29 : decode cX3_knowsOf 29 = .ok (.baload, 1) := by decide +kernel
theorem dX3_knowsOf_30 : decode cX3_knowsOf 30 = .ok (.ifCond .eq 7, 3) := by decide +kernel
theorem dX3_knowsOf_33 : decode cX3_knowsOf 33 = .ok (.iconst 1, 1) := by decide +kernel
theorem dX3_knowsOf_34 : decode cX3_knowsOf 34 = .ok (.goto 4, 3) := by decide +kernel
theorem dX3_knowsOf_37 : decode cX3_knowsOf 37 = .ok (.iconst 0, 1) := by decide +kernel
theorem dX3_knowsOf_38 : decode cX3_knowsOf 38 = .ok (.ireturn, 1) := by decide +kernel
theorem dX3_earlier_0 : decode cX3_earlier 0 = .ok (.aload_n 0, 1) := by decide +kernel
theorem dX3_earlier_1 : decode cX3_earlier 1 = .ok (.getfield 7, 3) := by decide +kernel
theorem dX3_earlier_4 : decode cX3_earlier 4 = .ok (.iload_n 1, 1) := by decide +kernel
theorem dX3_earlier_5 : decode cX3_earlier 5 = .ok (.iaload, 1) := by decide +kernel
theorem dX3_earlier_6 : decode cX3_earlier 6 = .ok (.aload_n 0, 1) := by decide +kernel
theorem dX3_earlier_7 : decode cX3_earlier 7 = .ok (.getfield 7, 3) := by decide +kernel
theorem dX3_earlier_10 : decode cX3_earlier 10 = .ok (.iload_n 2, 1) := by decide +kernel
theorem dX3_earlier_11 : decode cX3_earlier 11 = .ok (.iaload, 1) := by decide +kernel
theorem dX3_earlier_12 : decode cX3_earlier 12 = .ok (.if_icmp .lt 33, 3) := by decide +kernel
theorem dX3_earlier_15 : decode cX3_earlier 15 = .ok (.aload_n 0, 1) := by decide +kernel
theorem dX3_earlier_16 : decode cX3_earlier 16 = .ok (.getfield 7, 3) := by decide +kernel
theorem dX3_earlier_19 : decode cX3_earlier 19 = .ok (.iload_n 1, 1) := by decide +kernel
theorem dX3_earlier_20 : decode cX3_earlier 20 = .ok (.iaload, 1) := by decide +kernel
theorem dX3_earlier_21 : decode cX3_earlier 21 = .ok (.aload_n 0, 1) := by decide +kernel
theorem dX3_earlier_22 : decode cX3_earlier 22 = .ok (.getfield 7, 3) := by decide +kernel
theorem dX3_earlier_25 : decode cX3_earlier 25 = .ok (.iload_n 2, 1) := by decide +kernel
theorem dX3_earlier_26 : decode cX3_earlier 26 = .ok (.iaload, 1) := by decide +kernel
theorem dX3_earlier_27 : decode cX3_earlier 27 = .ok (.if_icmp .ne 22, 3) := by decide +kernel
theorem dX3_earlier_30 : decode cX3_earlier 30 = .ok (.aload_n 0, 1) := by decide +kernel
theorem dX3_earlier_31 : decode cX3_earlier 31 = .ok (.getfield 13, 3) := by decide +kernel
theorem dX3_earlier_34 : decode cX3_earlier 34 = .ok (.iload_n 1, 1) := by decide +kernel
theorem dX3_earlier_35 : decode cX3_earlier 35 = .ok (.iaload, 1) := by decide +kernel
theorem dX3_earlier_36 : decode cX3_earlier 36 = .ok (.aload_n 0, 1) := by decide +kernel
theorem dX3_earlier_37 : decode cX3_earlier 37 = .ok (.getfield 13, 3) := by decide +kernel
theorem dX3_earlier_40 : decode cX3_earlier 40 = .ok (.iload_n 2, 1) := by decide +kernel
theorem dX3_earlier_41 : decode cX3_earlier 41 = .ok (.iaload, 1) := by decide +kernel
theorem dX3_earlier_42 : decode cX3_earlier 42 = .ok (.if_icmp .ge 7, 3) := by decide +kernel
theorem dX3_earlier_45 : decode cX3_earlier 45 = .ok (.iconst 1, 1) := by decide +kernel
theorem dX3_earlier_46 : decode cX3_earlier 46 = .ok (.goto 4, 3) := by decide +kernel
theorem dX3_earlier_49 : decode cX3_earlier 49 = .ok (.iconst 0, 1) := by decide +kernel
theorem dX3_earlier_50 : decode cX3_earlier 50 = .ok (.ireturn, 1) := by decide +kernel
theorem dX3_make_0 : decode cX3_make 0 = .ok (.iconst 0, 1) := by decide +kernel
theorem dX3_make_1 : decode cX3_make 1 = .ok (.istore 6, 2) := by decide +kernel
theorem dX3_make_3 : decode cX3_make 3 = .ok (.iconst 0, 1) := by decide +kernel
theorem dX3_make_4 : decode cX3_make 4 = .ok (.istore 7, 2) := by decide +kernel
theorem dX3_make_6 : decode cX3_make 6 = .ok (.iload 7, 2) := by decide +kernel
theorem dX3_make_8 : decode cX3_make 8 = .ok (.aload_n 0, 1) := by decide +kernel
theorem dX3_make_9 : decode cX3_make 9 = .ok (.getfield 58, 3) := by decide +kernel
theorem dX3_make_12 : decode cX3_make 12 = .ok (.if_icmp .ge 50, 3) := by decide +kernel
theorem dX3_make_15 : decode cX3_make 15 = .ok (.aload_n 0, 1) := by decide +kernel
theorem dX3_make_16 : decode cX3_make 16 = .ok (.getfield 32, 3) := by decide +kernel
theorem dX3_make_19 : decode cX3_make 19 = .ok (.bipush 120, 2) := by decide +kernel
theorem dX3_make_21 : decode cX3_make 21 = .ok (.iload_n 1, 1) := by decide +kernel
theorem dX3_make_22 : decode cX3_make 22 = .ok (.imul, 1) := by decide +kernel
theorem dX3_make_23 : decode cX3_make 23 = .ok (.iload 7, 2) := by decide +kernel
theorem dX3_make_25 : decode cX3_make 25 = .ok (.iadd, 1) := by decide +kernel
theorem dX3_make_26 : decode cX3_make 26 = .ok (.baload, 1) := by decide +kernel
theorem dX3_make_27 : decode cX3_make 27 = .ok (.ifCond .eq 25, 3) := by decide +kernel
theorem dX3_make_30 : decode cX3_make 30 = .ok (.aload_n 0, 1) := by decide +kernel
theorem dX3_make_31 : decode cX3_make 31 = .ok (.getfield 7, 3) := by decide +kernel
theorem dX3_make_34 : decode cX3_make 34 = .ok (.iload 7, 2) := by decide +kernel
theorem dX3_make_36 : decode cX3_make 36 = .ok (.iaload, 1) := by decide +kernel
theorem dX3_make_37 : decode cX3_make 37 = .ok (.iload 6, 2) := by decide +kernel
theorem dX3_make_39 : decode cX3_make 39 = .ok (.if_icmp .le 13, 3) := by decide +kernel
theorem dX3_make_42 : decode cX3_make 42 = .ok (.aload_n 0, 1) := by decide +kernel
theorem dX3_make_43 : decode cX3_make 43 = .ok (.getfield 7, 3) := by decide +kernel
theorem dX3_make_46 : decode cX3_make 46 = .ok (.iload 7, 2) := by decide +kernel
theorem dX3_make_48 : decode cX3_make 48 = .ok (.iaload, 1) := by decide +kernel
theorem dX3_make_49 : decode cX3_make 49 = .ok (.goto 5, 3) := by decide +kernel
theorem dX3_make_52 : decode cX3_make 52 = .ok (.iload 6, 2) := by decide +kernel
theorem dX3_make_54 : decode cX3_make 54 = .ok (.istore 6, 2) := by decide +kernel
theorem dX3_make_56 : decode cX3_make 56 = .ok (.iinc 7 1, 3) := by decide +kernel
theorem dX3_make_59 : decode cX3_make 59 = .ok (.goto (-53), 3) := by decide +kernel
theorem dX3_make_62 : decode cX3_make 62 = .ok (.aload_n 0, 1) := by decide +kernel
theorem dX3_make_63 : decode cX3_make 63 = .ok (.getfield 7, 3) := by decide +kernel
theorem dX3_make_66 : decode cX3_make 66 = .ok (.aload_n 0, 1) := by decide +kernel
theorem dX3_make_67 : decode cX3_make 67 = .ok (.getfield 58, 3) := by decide +kernel
theorem dX3_make_70 : decode cX3_make 70 = .ok (.iload 6, 2) := by decide +kernel
theorem dX3_make_72 : decode cX3_make 72 = .ok (.iconst 1, 1) := by decide +kernel
theorem dX3_make_73 : decode cX3_make 73 = .ok (.iadd, 1) := by decide +kernel
theorem dX3_make_74 : decode cX3_make 74 = .ok (.iastore, 1) := by decide +kernel
theorem dX3_make_75 : decode cX3_make 75 = .ok (.aload_n 0, 1) := by decide +kernel
theorem dX3_make_76 : decode cX3_make 76 = .ok (.getfield 13, 3) := by decide +kernel
theorem dX3_make_79 : decode cX3_make 79 = .ok (.aload_n 0, 1) := by decide +kernel
theorem dX3_make_80 : decode cX3_make 80 = .ok (.getfield 58, 3) := by decide +kernel
theorem dX3_make_83 : decode cX3_make 83 = .ok (.iload_n 1, 1) := by decide +kernel
theorem dX3_make_84 : decode cX3_make 84 = .ok (.iastore, 1) := by decide +kernel
theorem dX3_make_85 : decode cX3_make 85 = .ok (.aload_n 0, 1) := by decide +kernel
theorem dX3_make_86 : decode cX3_make 86 = .ok (.getfield 16, 3) := by decide +kernel
theorem dX3_make_89 : decode cX3_make 89 = .ok (.aload_n 0, 1) := by decide +kernel
theorem dX3_make_90 : decode cX3_make 90 = .ok (.getfield 58, 3) := by decide +kernel
theorem dX3_make_93 : decode cX3_make 93 = .ok (.iload_n 2, 1) := by decide +kernel
theorem dX3_make_94 : decode cX3_make 94 = .ok (.iastore, 1) := by decide +kernel
theorem dX3_make_95 : decode cX3_make 95 = .ok (.aload_n 0, 1) := by decide +kernel
theorem dX3_make_96 : decode cX3_make 96 = .ok (.getfield 19, 3) := by decide +kernel
theorem dX3_make_99 : decode cX3_make 99 = .ok (.aload_n 0, 1) := by decide +kernel
theorem dX3_make_100 : decode cX3_make 100 = .ok (.getfield 58, 3) := by decide +kernel
theorem dX3_make_103 : decode cX3_make 103 = .ok (.iload_n 3, 1) := by decide +kernel
theorem dX3_make_104 : decode cX3_make 104 = .ok (.iastore, 1) := by decide +kernel
theorem dX3_make_105 : decode cX3_make 105 = .ok (.aload_n 0, 1) := by decide +kernel
theorem dX3_make_106 : decode cX3_make 106 = .ok (.getfield 22, 3) := by decide +kernel
theorem dX3_make_109 : decode cX3_make 109 = .ok (.aload_n 0, 1) := by decide +kernel
theorem dX3_make_110 : decode cX3_make 110 = .ok (.getfield 58, 3) := by decide +kernel
theorem dX3_make_113 : decode cX3_make 113 = .ok (.iload 4, 2) := by decide +kernel
theorem dX3_make_115 : decode cX3_make 115 = .ok (.iastore, 1) := by decide +kernel
theorem dX3_make_116 : decode cX3_make 116 = .ok (.aload_n 0, 1) := by decide +kernel
theorem dX3_make_117 : decode cX3_make 117 = .ok (.getfield 25, 3) := by decide +kernel
theorem dX3_make_120 : decode cX3_make 120 = .ok (.aload_n 0, 1) := by decide +kernel
theorem dX3_make_121 : decode cX3_make 121 = .ok (.getfield 58, 3) := by decide +kernel
theorem dX3_make_124 : decode cX3_make 124 = .ok (.iload 5, 2) := by decide +kernel
theorem dX3_make_126 : decode cX3_make 126 = .ok (.iastore, 1) := by decide +kernel
theorem dX3_make_127 : decode cX3_make 127 = .ok (.aload_n 0, 1) := by decide +kernel
theorem dX3_make_128 : decode cX3_make 128 = .ok (.getfield 32, 3) := by decide +kernel
theorem dX3_make_131 : decode cX3_make 131 = .ok (.bipush 120, 2) := by decide +kernel
theorem dX3_make_133 : decode cX3_make 133 = .ok (.iload_n 1, 1) := by decide +kernel
theorem dX3_make_134 : decode cX3_make 134 = .ok (.imul, 1) := by decide +kernel
theorem dX3_make_135 : decode cX3_make 135 = .ok (.aload_n 0, 1) := by decide +kernel
theorem dX3_make_136 : decode cX3_make 136 = .ok (.getfield 58, 3) := by decide +kernel
theorem dX3_make_139 : decode cX3_make 139 = .ok (.iadd, 1) := by decide +kernel
theorem dX3_make_140 : decode cX3_make 140 = .ok (.iconst 1, 1) := by decide +kernel
theorem dX3_make_141 : decode cX3_make 141 = .ok (.bastore, 1) := by decide +kernel
theorem dX3_make_142 : decode cX3_make 142 = .ok (.aload_n 0, 1) := by decide +kernel
theorem dX3_make_143 : decode cX3_make 143 = .ok (.dup, 1) := by decide +kernel
theorem dX3_make_144 : decode cX3_make 144 = .ok (.getfield 58, 3) := by decide +kernel
theorem dX3_make_147 : decode cX3_make 147 = .ok (.iconst 1, 1) := by decide +kernel
theorem dX3_make_148 : decode cX3_make 148 = .ok (.iadd, 1) := by decide +kernel
theorem dX3_make_149 : decode cX3_make 149 = .ok (.putfield 58, 3) := by decide +kernel
theorem dX3_make_152 : decode cX3_make 152 = .ok (.aload_n 0, 1) := by decide +kernel
theorem dX3_make_153 : decode cX3_make 153 = .ok (.getfield 58, 3) := by decide +kernel
theorem dX3_make_156 : decode cX3_make 156 = .ok (.iconst 1, 1) := by decide +kernel
theorem dX3_make_157 : decode cX3_make 157 = .ok (.isub, 1) := by decide +kernel
theorem dX3_make_158 : decode cX3_make 158 = .ok (.ireturn, 1) := by decide +kernel
theorem dX3_tell_0 : decode cX3_tell 0 = .ok (.aload_n 0, 1) := by decide +kernel
theorem dX3_tell_1 : decode cX3_tell 1 = .ok (.iload_n 1, 1) := by decide +kernel
theorem dX3_tell_2 : decode cX3_tell 2 = .ok (.invokestatic 54, 3) := by decide +kernel
theorem dX3_tell_5 : decode cX3_tell 5 = .ok (.ifCond .eq 23, 3) := by decide +kernel
theorem dX3_tell_8 : decode cX3_tell 8 = .ok (.iload_n 2, 1) := by decide +kernel
theorem dX3_tell_9 : decode cX3_tell 9 = .ok (.invokestatic 61, 3) := by decide +kernel
theorem dX3_tell_12 : decode cX3_tell 12 = .ok (.ifCond .eq 16, 3) := by decide +kernel
theorem dX3_tell_15 : decode cX3_tell 15 = .ok (.iload_n 3, 1) := by decide +kernel
theorem dX3_tell_16 : decode cX3_tell 16 = .ok (.iconst 0, 1) := by decide +kernel
theorem dX3_tell_17 : decode cX3_tell 17 = .ok (.iconst 2, 1) := by decide +kernel
theorem dX3_tell_18 : decode cX3_tell 18 = .ok (.invokestatic 64, 3) := by decide +kernel
theorem dX3_tell_21 : decode cX3_tell 21 = .ok (.ifCond .eq 7, 3) := by decide +kernel
theorem dX3_tell_24 : decode cX3_tell 24 = .ok (.iconst 1, 1) := by decide +kernel
theorem dX3_tell_25 : decode cX3_tell 25 = .ok (.goto 4, 3) := by decide +kernel
theorem dX3_tell_28 : decode cX3_tell 28 = .ok (.iconst 0, 1) := by decide +kernel
theorem dX3_tell_29 : decode cX3_tell 29 = .ok (.iload 4, 2) := by decide +kernel
theorem dX3_tell_31 : decode cX3_tell 31 = .ok (.iconst 0, 1) := by decide +kernel
theorem dX3_tell_32 : decode cX3_tell 32 = .ok (.iload_n 3, 1) := by decide +kernel
theorem dX3_tell_33 : decode cX3_tell 33 = .ok (.iconst 2, 1) := by decide +kernel
theorem dX3_tell_34 : decode cX3_tell 34 = .ok (.if_icmp .ne 8, 3) := by decide +kernel
theorem dX3_tell_37 : decode cX3_tell 37 = .ok (.bipush 31, 2) := by decide +kernel
theorem dX3_tell_39 : decode cX3_tell 39 = .ok (.goto 6, 3) := by decide +kernel
theorem dX3_tell_42 : decode cX3_tell 42 = .ok (.sipush 999, 3) := by decide +kernel
theorem dX3_tell_45 : decode cX3_tell 45 = .ok (.invokestatic 64, 3) := by decide +kernel
theorem dX3_tell_48 : decode cX3_tell 48 = .ok (.aload_n 0, 1) := by decide +kernel
theorem dX3_tell_49 : decode cX3_tell 49 = .ok (.getfield 58, 3) := by decide +kernel
theorem dX3_tell_52 : decode cX3_tell 52 = .ok (.bipush 120, 2) := by decide +kernel
theorem dX3_tell_54 : decode cX3_tell 54 = .ok (.if_icmp .ge 7, 3) := by decide +kernel
theorem dX3_tell_57 : decode cX3_tell 57 = .ok (.iconst 1, 1) := by decide +kernel
theorem dX3_tell_58 : decode cX3_tell 58 = .ok (.goto 4, 3) := by decide +kernel
theorem dX3_tell_61 : decode cX3_tell 61 = .ok (.iconst 0, 1) := by decide +kernel
theorem dX3_tell_62 : decode cX3_tell 62 = .ok (.invokevirtual 68, 3) := by decide +kernel
theorem dX3_tell_65 : decode cX3_tell 65 = .ok (.ifCond .ne 5, 3) := by decide +kernel
theorem dX3_tell_68 : decode cX3_tell 68 = .ok (.iconst 0, 1) := by decide +kernel
theorem dX3_tell_69 : decode cX3_tell 69 = .ok (.ireturn, 1) := by decide +kernel
theorem dX3_tell_70 : decode cX3_tell 70 = .ok (.aload_n 0, 1) := by decide +kernel
theorem dX3_tell_71 : decode cX3_tell 71 = .ok (.iload_n 1, 1) := by decide +kernel
theorem dX3_tell_72 : decode cX3_tell 72 = .ok (.iload_n 3, 1) := by decide +kernel
theorem dX3_tell_73 : decode cX3_tell 73 = .ok (.iload_n 2, 1) := by decide +kernel
theorem dX3_tell_74 : decode cX3_tell 74 = .ok (.iload 4, 2) := by decide +kernel
theorem dX3_tell_76 : decode cX3_tell 76 = .ok (.iconst (-1), 1) := by decide +kernel
theorem dX3_tell_77 : decode cX3_tell 77 = .ok (.invokevirtual 71, 3) := by decide +kernel
theorem dX3_tell_80 : decode cX3_tell 80 = .ok (.ireturn, 1) := by decide +kernel
theorem dX3_insert_0 : decode cX3_insert 0 = .ok (.iload_n 1, 1) := by decide +kernel
theorem dX3_insert_1 : decode cX3_insert 1 = .ok (.invokestatic 54, 3) := by decide +kernel
theorem dX3_insert_4 : decode cX3_insert 4 = .ok (.ifCond .eq 28, 3) := by decide +kernel
theorem dX3_insert_7 : decode cX3_insert 7 = .ok (.iload_n 2, 1) := by decide +kernel
theorem dX3_insert_8 : decode cX3_insert 8 = .ok (.invokestatic 61, 3) := by decide +kernel
theorem dX3_insert_11 : decode cX3_insert 11 = .ok (.ifCond .eq 21, 3) := by decide +kernel
theorem dX3_insert_14 : decode cX3_insert 14 = .ok (.iload_n 3, 1) := by decide +kernel
theorem dX3_insert_15 : decode cX3_insert 15 = .ok (.iconst (-1), 1) := by decide +kernel
theorem dX3_insert_16 : decode cX3_insert 16 = .ok (.if_icmp .eq 12, 3) := by decide +kernel
theorem dX3_insert_19 : decode cX3_insert 19 = .ok (.aload_n 0, 1) := by decide +kernel
theorem dX3_insert_20 : decode cX3_insert 20 = .ok (.iload_n 1, 1) := by decide +kernel
theorem dX3_insert_21 : decode cX3_insert 21 = .ok (.iload_n 3, 1) := by decide +kernel
theorem dX3_insert_22 : decode cX3_insert 22 = .ok (.invokevirtual 75, 3) := by decide +kernel
theorem dX3_insert_25 : decode cX3_insert 25 = .ok (.ifCond .eq 7, 3) := by decide +kernel
theorem dX3_insert_28 : decode cX3_insert 28 = .ok (.iconst 1, 1) := by decide +kernel
theorem dX3_insert_29 : decode cX3_insert 29 = .ok (.goto 4, 3) := by decide +kernel
theorem dX3_insert_32 : decode cX3_insert 32 = .ok (.iconst 0, 1) := by decide +kernel
theorem dX3_insert_33 : decode cX3_insert 33 = .ok (.istore 5, 2) := by decide +kernel
theorem dX3_insert_35 : decode cX3_insert 35 = .ok (.iload 5, 2) := by decide +kernel
theorem dX3_insert_37 : decode cX3_insert 37 = .ok (.ifCond .eq 32, 3) := by decide +kernel
theorem dX3_insert_40 : decode cX3_insert 40 = .ok (.iload_n 3, 1) := by decide +kernel
theorem dX3_insert_41 : decode cX3_insert 41 = .ok (.iconst (-1), 1) := by decide +kernel
theorem dX3_insert_42 : decode cX3_insert 42 = .ok (.if_icmp .eq 23, 3) := by decide +kernel
theorem dX3_insert_45 : decode cX3_insert 45 = .ok (.aload_n 0, 1) := by decide +kernel
theorem dX3_insert_46 : decode cX3_insert 46 = .ok (.getfield 16, 3) := by decide +kernel
theorem dX3_insert_49 : decode cX3_insert 49 = .ok (.iload_n 3, 1) := by decide +kernel
theorem dX3_insert_50 : decode cX3_insert 50 = .ok (.iaload, 1) := by decide +kernel
theorem dX3_insert_51 : decode cX3_insert 51 = .ok (.iconst 3, 1) := by decide +kernel
theorem dX3_insert_52 : decode cX3_insert 52 = .ok (.if_icmp .ne 17, 3) := by decide +kernel
theorem dX3_insert_55 : decode cX3_insert 55 = .ok (.aload_n 0, 1) := by decide +kernel
theorem dX3_insert_56 : decode cX3_insert 56 = .ok (.getfield 19, 3) := by decide +kernel
theorem dX3_insert_59 : decode cX3_insert 59 = .ok (.iload_n 3, 1) := by decide +kernel
theorem dX3_insert_60 : decode cX3_insert 60 = .ok (.iaload, 1) := by decide +kernel
theorem dX3_insert_61 : decode cX3_insert 61 = .ok (.iload_n 2, 1) := by decide +kernel
theorem dX3_insert_62 : decode cX3_insert 62 = .ok (.if_icmp .ne 7, 3) := by decide +kernel
theorem dX3_insert_65 : decode cX3_insert 65 = .ok (.iconst 1, 1) := by decide +kernel
theorem dX3_insert_66 : decode cX3_insert 66 = .ok (.goto 4, 3) := by decide +kernel
theorem dX3_insert_69 : decode cX3_insert 69 = .ok (.iconst 0, 1) := by decide +kernel
theorem dX3_insert_70 : decode cX3_insert 70 = .ok (.istore 6, 2) := by decide +kernel
theorem dX3_insert_72 : decode cX3_insert 72 = .ok (.aload_n 0, 1) := by decide +kernel
theorem dX3_insert_73 : decode cX3_insert 73 = .ok (.iload 5, 2) := by decide +kernel
theorem dX3_insert_75 : decode cX3_insert 75 = .ok (.iload 6, 2) := by decide +kernel
theorem dX3_insert_77 : decode cX3_insert 77 = .ok (.ifCond .eq 19, 3) := by decide +kernel
theorem dX3_insert_80 : decode cX3_insert 80 = .ok (.iload 4, 2) := by decide +kernel
theorem dX3_insert_82 : decode cX3_insert 82 = .ok (.iconst 0, 1) := by decide +kernel
theorem dX3_insert_83 : decode cX3_insert 83 = .ok (.sipush 999, 3) := by decide +kernel
theorem dX3_insert_86 : decode cX3_insert 86 = .ok (.invokestatic 64, 3) := by decide +kernel
theorem dX3_insert_89 : decode cX3_insert 89 = .ok (.ifCond .eq 7, 3) := by decide +kernel
theorem dX3_insert_92 : decode cX3_insert 92 = .ok (.iconst 1, 1) := by decide +kernel
theorem dX3_insert_93 : decode cX3_insert 93 = .ok (.goto 4, 3) := by decide +kernel
theorem dX3_insert_96 : decode cX3_insert 96 = .ok (.iconst 0, 1) := by decide +kernel
theorem dX3_insert_97 : decode cX3_insert 97 = .ok (.aload_n 0, 1) := by decide +kernel
theorem dX3_insert_98 : decode cX3_insert 98 = .ok (.getfield 58, 3) := by decide +kernel
theorem dX3_insert_101 : decode cX3_insert 101 = .ok (.bipush 120, 2) := by decide +kernel
theorem dX3_insert_103 : decode cX3_insert 103 = .ok (.if_icmp .ge 7, 3) := by decide +kernel
theorem dX3_insert_106 : decode cX3_insert 106 = .ok (.iconst 1, 1) := by decide +kernel
theorem dX3_insert_107 : decode cX3_insert 107 = .ok (.goto 4, 3) := by decide +kernel
theorem dX3_insert_110 : decode cX3_insert 110 = .ok (.iconst 0, 1) := by decide +kernel
theorem dX3_insert_111 : decode cX3_insert 111 = .ok (.invokevirtual 68, 3) := by decide +kernel
theorem dX3_insert_114 : decode cX3_insert 114 = .ok (.ifCond .ne 5, 3) := by decide +kernel
theorem dX3_insert_117 : decode cX3_insert 117 = .ok (.iconst 0, 1) := by decide +kernel
theorem dX3_insert_118 : decode cX3_insert 118 = .ok (.ireturn, 1) := by decide +kernel
theorem dX3_insert_119 : decode cX3_insert 119 = .ok (.aload_n 0, 1) := by decide +kernel
theorem dX3_insert_120 : decode cX3_insert 120 = .ok (.iload_n 1, 1) := by decide +kernel
theorem dX3_insert_121 : decode cX3_insert 121 = .ok (.iconst 3, 1) := by decide +kernel
theorem dX3_insert_122 : decode cX3_insert 122 = .ok (.iload_n 2, 1) := by decide +kernel
theorem dX3_insert_123 : decode cX3_insert 123 = .ok (.iload 4, 2) := by decide +kernel
theorem dX3_insert_125 : decode cX3_insert 125 = .ok (.iload_n 3, 1) := by decide +kernel
theorem dX3_insert_126 : decode cX3_insert 126 = .ok (.invokevirtual 71, 3) := by decide +kernel
theorem dX3_insert_129 : decode cX3_insert 129 = .ok (.ireturn, 1) := by decide +kernel
theorem dX3_remove_0 : decode cX3_remove 0 = .ok (.aload_n 0, 1) := by decide +kernel
theorem dX3_remove_1 : decode cX3_remove 1 = .ok (.iload_n 1, 1) := by decide +kernel
theorem dX3_remove_2 : decode cX3_remove 2 = .ok (.iload_n 2, 1) := by decide +kernel
theorem dX3_remove_3 : decode cX3_remove 3 = .ok (.invokevirtual 75, 3) := by decide +kernel
theorem dX3_remove_6 : decode cX3_remove 6 = .ok (.istore_n 3, 1) := by decide +kernel
theorem dX3_remove_7 : decode cX3_remove 7 = .ok (.aload_n 0, 1) := by decide +kernel
theorem dX3_remove_8 : decode cX3_remove 8 = .ok (.iload_n 3, 1) := by decide +kernel
theorem dX3_remove_9 : decode cX3_remove 9 = .ok (.iload_n 3, 1) := by decide +kernel
theorem dX3_remove_10 : decode cX3_remove 10 = .ok (.ifCond .eq 17, 3) := by decide +kernel
theorem dX3_remove_13 : decode cX3_remove 13 = .ok (.aload_n 0, 1) := by decide +kernel
theorem dX3_remove_14 : decode cX3_remove 14 = .ok (.getfield 16, 3) := by decide +kernel
theorem dX3_remove_17 : decode cX3_remove 17 = .ok (.iload_n 2, 1) := by decide +kernel
theorem dX3_remove_18 : decode cX3_remove 18 = .ok (.iaload, 1) := by decide +kernel
theorem dX3_remove_19 : decode cX3_remove 19 = .ok (.iconst 3, 1) := by decide +kernel
theorem dX3_remove_20 : decode cX3_remove 20 = .ok (.if_icmp .ne 7, 3) := by decide +kernel
theorem dX3_remove_23 : decode cX3_remove 23 = .ok (.iconst 1, 1) := by decide +kernel
theorem dX3_remove_24 : decode cX3_remove 24 = .ok (.goto 4, 3) := by decide +kernel
theorem dX3_remove_27 : decode cX3_remove 27 = .ok (.iconst 0, 1) := by decide +kernel
theorem dX3_remove_28 : decode cX3_remove 28 = .ok (.aload_n 0, 1) := by decide +kernel
theorem dX3_remove_29 : decode cX3_remove 29 = .ok (.getfield 58, 3) := by decide +kernel
theorem dX3_remove_32 : decode cX3_remove 32 = .ok (.bipush 120, 2) := by decide +kernel
theorem dX3_remove_34 : decode cX3_remove 34 = .ok (.if_icmp .ge 7, 3) := by decide +kernel
theorem dX3_remove_37 : decode cX3_remove 37 = .ok (.iconst 1, 1) := by decide +kernel
theorem dX3_remove_38 : decode cX3_remove 38 = .ok (.goto 4, 3) := by decide +kernel
theorem dX3_remove_41 : decode cX3_remove 41 = .ok (.iconst 0, 1) := by decide +kernel
theorem dX3_remove_42 : decode cX3_remove 42 = .ok (.invokevirtual 68, 3) := by decide +kernel
theorem dX3_remove_45 : decode cX3_remove 45 = .ok (.ifCond .ne 5, 3) := by decide +kernel
theorem dX3_remove_48 : decode cX3_remove 48 = .ok (.iconst 0, 1) := by decide +kernel
theorem dX3_remove_49 : decode cX3_remove 49 = .ok (.ireturn, 1) := by decide +kernel
theorem dX3_remove_50 : decode cX3_remove 50 = .ok (.aload_n 0, 1) := by decide +kernel
theorem dX3_remove_51 : decode cX3_remove 51 = .ok (.iload_n 1, 1) := by decide +kernel
theorem dX3_remove_52 : decode cX3_remove 52 = .ok (.iconst 4, 1) := by decide +kernel
theorem dX3_remove_53 : decode cX3_remove 53 = .ok (.iconst (-1), 1) := by decide +kernel
theorem dX3_remove_54 : decode cX3_remove 54 = .ok (.iload_n 2, 1) := by decide +kernel
theorem dX3_remove_55 : decode cX3_remove 55 = .ok (.iconst (-1), 1) := by decide +kernel
theorem dX3_remove_56 : decode cX3_remove 56 = .ok (.invokevirtual 71, 3) := by decide +kernel
theorem dX3_remove_59 : decode cX3_remove 59 = .ok (.ireturn, 1) := by decide +kernel
theorem dX3_relate_0 : decode cX3_relate 0 = .ok (.aload_n 0, 1) := by decide +kernel
theorem dX3_relate_1 : decode cX3_relate 1 = .ok (.iload_n 1, 1) := by decide +kernel
theorem dX3_relate_2 : decode cX3_relate 2 = .ok (.invokestatic 54, 3) := by decide +kernel
theorem dX3_relate_5 : decode cX3_relate 5 = .ok (.ifCond .eq 21, 3) := by decide +kernel
theorem dX3_relate_8 : decode cX3_relate 8 = .ok (.iload_n 2, 1) := by decide +kernel
theorem dX3_relate_9 : decode cX3_relate 9 = .ok (.invokestatic 61, 3) := by decide +kernel
theorem dX3_relate_12 : decode cX3_relate 12 = .ok (.ifCond .eq 14, 3) := by decide +kernel
theorem dX3_relate_15 : decode cX3_relate 15 = .ok (.iload_n 3, 1) := by decide +kernel
theorem dX3_relate_16 : decode cX3_relate 16 = .ok (.invokestatic 61, 3) := by decide +kernel
theorem dX3_relate_19 : decode cX3_relate 19 = .ok (.ifCond .eq 7, 3) := by decide +kernel
theorem dX3_relate_22 : decode cX3_relate 22 = .ok (.iconst 1, 1) := by decide +kernel
theorem dX3_relate_23 : decode cX3_relate 23 = .ok (.goto 4, 3) := by decide +kernel
theorem dX3_relate_26 : decode cX3_relate 26 = .ok (.iconst 0, 1) := by decide +kernel
theorem dX3_relate_27 : decode cX3_relate 27 = .ok (.iload_n 2, 1) := by decide +kernel
theorem dX3_relate_28 : decode cX3_relate 28 = .ok (.iload_n 3, 1) := by decide +kernel
theorem dX3_relate_29 : decode cX3_relate 29 = .ok (.if_icmp .eq 7, 3) := by decide +kernel
theorem dX3_relate_32 : decode cX3_relate 32 = .ok (.iconst 1, 1) := by decide +kernel
theorem dX3_relate_33 : decode cX3_relate 33 = .ok (.goto 4, 3) := by decide +kernel
theorem dX3_relate_36 : decode cX3_relate 36 = .ok (.iconst 0, 1) := by decide +kernel
theorem dX3_relate_37 : decode cX3_relate 37 = .ok (.aload_n 0, 1) := by decide +kernel
theorem dX3_relate_38 : decode cX3_relate 38 = .ok (.getfield 58, 3) := by decide +kernel
theorem dX3_relate_41 : decode cX3_relate 41 = .ok (.bipush 120, 2) := by decide +kernel
theorem dX3_relate_43 : decode cX3_relate 43 = .ok (.if_icmp .ge 7, 3) := by decide +kernel
theorem dX3_relate_46 : decode cX3_relate 46 = .ok (.iconst 1, 1) := by decide +kernel
theorem dX3_relate_47 : decode cX3_relate 47 = .ok (.goto 4, 3) := by decide +kernel
theorem dX3_relate_50 : decode cX3_relate 50 = .ok (.iconst 0, 1) := by decide +kernel
theorem dX3_relate_51 : decode cX3_relate 51 = .ok (.invokevirtual 68, 3) := by decide +kernel
theorem dX3_relate_54 : decode cX3_relate 54 = .ok (.ifCond .ne 5, 3) := by decide +kernel
theorem dX3_relate_57 : decode cX3_relate 57 = .ok (.iconst 0, 1) := by decide +kernel
theorem dX3_relate_58 : decode cX3_relate 58 = .ok (.ireturn, 1) := by decide +kernel
theorem dX3_relate_59 : decode cX3_relate 59 = .ok (.aload_n 0, 1) := by decide +kernel
theorem dX3_relate_60 : decode cX3_relate 60 = .ok (.iload_n 1, 1) := by decide +kernel
theorem dX3_relate_61 : decode cX3_relate 61 = .ok (.iconst 5, 1) := by decide +kernel
theorem dX3_relate_62 : decode cX3_relate 62 = .ok (.iconst (-1), 1) := by decide +kernel
theorem dX3_relate_63 : decode cX3_relate 63 = .ok (.bipush 16, 2) := by decide +kernel
theorem dX3_relate_65 : decode cX3_relate 65 = .ok (.iload_n 2, 1) := by decide +kernel
theorem dX3_relate_66 : decode cX3_relate 66 = .ok (.imul, 1) := by decide +kernel
theorem dX3_relate_67 : decode cX3_relate 67 = .ok (.iload_n 3, 1) := by decide +kernel
theorem dX3_relate_68 : decode cX3_relate 68 = .ok (.iadd, 1) := by decide +kernel
theorem dX3_relate_69 : decode cX3_relate 69 = .ok (.iconst (-1), 1) := by decide +kernel
theorem dX3_relate_70 : decode cX3_relate 70 = .ok (.invokevirtual 71, 3) := by decide +kernel
theorem dX3_relate_73 : decode cX3_relate 73 = .ok (.ireturn, 1) := by decide +kernel
theorem dX3_drop_0 : decode cX3_drop 0 = .ok (.aload_n 0, 1) := by decide +kernel
theorem dX3_drop_1 : decode cX3_drop 1 = .ok (.iload_n 1, 1) := by decide +kernel
theorem dX3_drop_2 : decode cX3_drop 2 = .ok (.iload_n 2, 1) := by decide +kernel
theorem dX3_drop_3 : decode cX3_drop 3 = .ok (.invokevirtual 75, 3) := by decide +kernel
theorem dX3_drop_6 : decode cX3_drop 6 = .ok (.istore_n 3, 1) := by decide +kernel
theorem dX3_drop_7 : decode cX3_drop 7 = .ok (.aload_n 0, 1) := by decide +kernel
theorem dX3_drop_8 : decode cX3_drop 8 = .ok (.iload_n 3, 1) := by decide +kernel
theorem dX3_drop_9 : decode cX3_drop 9 = .ok (.iload_n 3, 1) := by decide +kernel
theorem dX3_drop_10 : decode cX3_drop 10 = .ok (.ifCond .eq 17, 3) := by decide +kernel
theorem dX3_drop_13 : decode cX3_drop 13 = .ok (.aload_n 0, 1) := by decide +kernel
theorem dX3_drop_14 : decode cX3_drop 14 = .ok (.getfield 16, 3) := by decide +kernel
theorem dX3_drop_17 : decode cX3_drop 17 = .ok (.iload_n 2, 1) := by decide +kernel
theorem dX3_drop_18 : decode cX3_drop 18 = .ok (.iaload, 1) := by decide +kernel
theorem dX3_drop_19 : decode cX3_drop 19 = .ok (.iconst 5, 1) := by decide +kernel
theorem dX3_drop_20 : decode cX3_drop 20 = .ok (.if_icmp .ne 7, 3) := by decide +kernel
theorem dX3_drop_23 : decode cX3_drop 23 = .ok (.iconst 1, 1) := by decide +kernel
theorem dX3_drop_24 : decode cX3_drop 24 = .ok (.goto 4, 3) := by decide +kernel
theorem dX3_drop_27 : decode cX3_drop 27 = .ok (.iconst 0, 1) := by decide +kernel
theorem dX3_drop_28 : decode cX3_drop 28 = .ok (.aload_n 0, 1) := by decide +kernel
theorem dX3_drop_29 : decode cX3_drop 29 = .ok (.getfield 58, 3) := by decide +kernel
theorem dX3_drop_32 : decode cX3_drop 32 = .ok (.bipush 120, 2) := by decide +kernel
theorem dX3_drop_34 : decode cX3_drop 34 = .ok (.if_icmp .ge 7, 3) := by decide +kernel
theorem dX3_drop_37 : decode cX3_drop 37 = .ok (.iconst 1, 1) := by decide +kernel
theorem dX3_drop_38 : decode cX3_drop 38 = .ok (.goto 4, 3) := by decide +kernel
theorem dX3_drop_41 : decode cX3_drop 41 = .ok (.iconst 0, 1) := by decide +kernel
theorem dX3_drop_42 : decode cX3_drop 42 = .ok (.invokevirtual 68, 3) := by decide +kernel
theorem dX3_drop_45 : decode cX3_drop 45 = .ok (.ifCond .ne 5, 3) := by decide +kernel
theorem dX3_drop_48 : decode cX3_drop 48 = .ok (.iconst 0, 1) := by decide +kernel
theorem dX3_drop_49 : decode cX3_drop 49 = .ok (.ireturn, 1) := by decide +kernel
theorem dX3_drop_50 : decode cX3_drop 50 = .ok (.aload_n 0, 1) := by decide +kernel
theorem dX3_drop_51 : decode cX3_drop 51 = .ok (.iload_n 1, 1) := by decide +kernel
theorem dX3_drop_52 : decode cX3_drop 52 = .ok (.bipush 6, 2) := by decide +kernel
theorem dX3_drop_54 : decode cX3_drop 54 = .ok (.iconst (-1), 1) := by decide +kernel
theorem dX3_drop_55 : decode cX3_drop 55 = .ok (.iload_n 2, 1) := by decide +kernel
theorem dX3_drop_56 : decode cX3_drop 56 = .ok (.iconst (-1), 1) := by decide +kernel
theorem dX3_drop_57 : decode cX3_drop 57 = .ok (.invokevirtual 71, 3) := by decide +kernel
theorem dX3_drop_60 : decode cX3_drop 60 = .ok (.ireturn, 1) := by decide +kernel
theorem dX3_join_0 : decode cX3_join 0 = .ok (.aload_n 0, 1) := by decide +kernel
theorem dX3_join_1 : decode cX3_join 1 = .ok (.iload_n 1, 1) := by decide +kernel
theorem dX3_join_2 : decode cX3_join 2 = .ok (.invokestatic 54, 3) := by decide +kernel
theorem dX3_join_5 : decode cX3_join 5 = .ok (.ifCond .eq 14, 3) := by decide +kernel
theorem dX3_join_8 : decode cX3_join 8 = .ok (.iload_n 2, 1) := by decide +kernel
theorem dX3_join_9 : decode cX3_join 9 = .ok (.invokestatic 54, 3) := by decide +kernel
theorem dX3_join_12 : decode cX3_join 12 = .ok (.ifCond .eq 7, 3) := by decide +kernel
theorem dX3_join_15 : decode cX3_join 15 = .ok (.iconst 1, 1) := by decide +kernel
theorem dX3_join_16 : decode cX3_join 16 = .ok (.goto 4, 3) := by decide +kernel
theorem dX3_join_19 : decode cX3_join 19 = .ok (.iconst 0, 1) := by decide +kernel
theorem dX3_join_20 : decode cX3_join 20 = .ok (.iconst 1, 1) := by decide +kernel
theorem dX3_join_21 : decode cX3_join 21 = .ok (.iconst 1, 1) := by decide +kernel
theorem dX3_join_22 : decode cX3_join 22 = .ok (.invokevirtual 68, 3) := by decide +kernel
theorem dX3_join_25 : decode cX3_join 25 = .ok (.ifCond .ne 5, 3) := by decide +kernel
theorem dX3_join_28 : decode cX3_join 28 = .ok (.iconst 0, 1) := by decide +kernel
theorem dX3_join_29 : decode cX3_join 29 = .ok (.ireturn, 1) := by decide +kernel
theorem dX3_join_30 : decode cX3_join 30 = .ok (.iconst 0, 1) := by decide +kernel
theorem dX3_join_31 : decode cX3_join 31 = .ok (.istore_n 3, 1) := by decide +kernel
theorem dX3_join_32 : decode cX3_join 32 = .ok (.iconst 0, 1) := by decide +kernel
theorem dX3_join_33 : decode cX3_join 33 = .ok (.istore 4, 2) := by decide +kernel
theorem dX3_join_35 : decode cX3_join 35 = .ok (.iload 4, 2) := by decide +kernel
theorem dX3_join_37 : decode cX3_join 37 = .ok (.aload_n 0, 1) := by decide +kernel
theorem dX3_join_38 : decode cX3_join 38 = .ok (.getfield 58, 3) := by decide +kernel
theorem dX3_join_41 : decode cX3_join 41 = .ok (.if_icmp .ge 96, 3) := by decide +kernel
theorem dX3_join_44 : decode cX3_join 44 = .ok (.aload_n 0, 1) := by decide +kernel
theorem dX3_join_45 : decode cX3_join 45 = .ok (.getfield 32, 3) := by decide +kernel
theorem dX3_join_48 : decode cX3_join 48 = .ok (.bipush 120, 2) := by decide +kernel
theorem dX3_join_50 : decode cX3_join 50 = .ok (.iload_n 2, 1) := by decide +kernel
theorem dX3_join_51 : decode cX3_join 51 = .ok (.imul, 1) := by decide +kernel
theorem dX3_join_52 : decode cX3_join 52 = .ok (.iload 4, 2) := by decide +kernel
theorem dX3_join_54 : decode cX3_join 54 = .ok (.iadd, 1) := by decide +kernel
theorem dX3_join_55 : decode cX3_join 55 = .ok (.baload, 1) := by decide +kernel
theorem dX3_join_56 : decode cX3_join 56 = .ok (.ifCond .eq 22, 3) := by decide +kernel
theorem dX3_join_59 : decode cX3_join 59 = .ok (.aload_n 0, 1) := by decide +kernel
theorem dX3_join_60 : decode cX3_join 60 = .ok (.getfield 32, 3) := by decide +kernel
theorem dX3_join_63 : decode cX3_join 63 = .ok (.bipush 120, 2) := by decide +kernel
theorem dX3_join_65 : decode cX3_join 65 = .ok (.iload_n 1, 1) := by decide +kernel
theorem dX3_join_66 : decode cX3_join 66 = .ok (.imul, 1) := by decide +kernel
theorem dX3_join_67 : decode cX3_join 67 = .ok (.iload 4, 2) := by decide +kernel
theorem dX3_join_69 : decode cX3_join 69 = .ok (.iadd, 1) := by decide +kernel
theorem dX3_join_70 : decode cX3_join 70 = .ok (.baload, 1) := by decide +kernel
theorem dX3_join_71 : decode cX3_join 71 = .ok (.ifCond .ne 7, 3) := by decide +kernel
theorem dX3_join_74 : decode cX3_join 74 = .ok (.iconst 1, 1) := by decide +kernel
theorem dX3_join_75 : decode cX3_join 75 = .ok (.goto 4, 3) := by decide +kernel
theorem dX3_join_78 : decode cX3_join 78 = .ok (.iconst 0, 1) := by decide +kernel
theorem dX3_join_79 : decode cX3_join 79 = .ok (.istore 5, 2) := by decide +kernel
theorem dX3_join_81 : decode cX3_join 81 = .ok (.iload 5, 2) := by decide +kernel
theorem dX3_join_83 : decode cX3_join 83 = .ok (.ifCond .eq 9, 3) := by decide +kernel
theorem dX3_join_86 : decode cX3_join 86 = .ok (.iload_n 3, 1) := by decide +kernel
theorem dX3_join_87 : decode cX3_join 87 = .ok (.iconst 1, 1) := by decide +kernel
theorem dX3_join_88 : decode cX3_join 88 = .ok (.iadd, 1) := by decide +kernel
theorem dX3_join_89 : decode cX3_join 89 = .ok (.goto 4, 3) := by decide +kernel
theorem dX3_join_92 : decode cX3_join 92 = .ok (.iload_n 3, 1) := by decide +kernel
theorem dX3_join_93 : decode cX3_join 93 = .ok (.istore_n 3, 1) := by decide +kernel
theorem dX3_join_94 : decode cX3_join 94 = .ok (.aload_n 0, 1) := by decide +kernel
theorem dX3_join_95 : decode cX3_join 95 = .ok (.getfield 32, 3) := by decide +kernel
theorem dX3_join_98 : decode cX3_join 98 = .ok (.bipush 120, 2) := by decide +kernel
theorem dX3_join_100 : decode cX3_join 100 = .ok (.iload_n 1, 1) := by decide +kernel
theorem dX3_join_101 : decode cX3_join 101 = .ok (.imul, 1) := by decide +kernel
theorem dX3_join_102 : decode cX3_join 102 = .ok (.iload 4, 2) := by decide +kernel
theorem dX3_join_104 : decode cX3_join 104 = .ok (.iadd, 1) := by decide +kernel
theorem dX3_join_105 : decode cX3_join 105 = .ok (.aload_n 0, 1) := by decide +kernel
theorem dX3_join_106 : decode cX3_join 106 = .ok (.getfield 32, 3) := by decide +kernel
theorem dX3_join_109 : decode cX3_join 109 = .ok (.bipush 120, 2) := by decide +kernel
theorem dX3_join_111 : decode cX3_join 111 = .ok (.iload_n 1, 1) := by decide +kernel
theorem dX3_join_112 : decode cX3_join 112 = .ok (.imul, 1) := by decide +kernel
theorem dX3_join_113 : decode cX3_join 113 = .ok (.iload 4, 2) := by decide +kernel
theorem dX3_join_115 : decode cX3_join 115 = .ok (.iadd, 1) := by decide +kernel
theorem dX3_join_116 : decode cX3_join 116 = .ok (.baload, 1) := by decide +kernel
theorem dX3_join_117 : decode cX3_join 117 = .ok (.ifCond .ne 8, 3) := by decide +kernel
theorem dX3_join_120 : decode cX3_join 120 = .ok (.iload 5, 2) := by decide +kernel
theorem dX3_join_122 : decode cX3_join 122 = .ok (.ifCond .eq 7, 3) := by decide +kernel
theorem dX3_join_125 : decode cX3_join 125 = .ok (.iconst 1, 1) := by decide +kernel
theorem dX3_join_126 : decode cX3_join 126 = .ok (.goto 4, 3) := by decide +kernel
theorem dX3_join_129 : decode cX3_join 129 = .ok (.iconst 0, 1) := by decide +kernel
theorem dX3_join_130 : decode cX3_join 130 = .ok (.bastore, 1) := by decide +kernel
theorem dX3_join_131 : decode cX3_join 131 = .ok (.iinc 4 1, 3) := by decide +kernel
theorem dX3_join_134 : decode cX3_join 134 = .ok (.goto (-99), 3) := by decide +kernel
theorem dX3_join_137 : decode cX3_join 137 = .ok (.iload_n 3, 1) := by decide +kernel
theorem dX3_join_138 : decode cX3_join 138 = .ok (.ireturn, 1) := by decide +kernel
theorem dX3_number_0 : decode cX3_number 0 = .ok (.aload_n 0, 1) := by decide +kernel
theorem dX3_number_1 : decode cX3_number 1 = .ok (.iload_n 1, 1) := by decide +kernel
theorem dX3_number_2 : decode cX3_number 2 = .ok (.invokestatic 54, 3) := by decide +kernel
theorem dX3_number_5 : decode cX3_number 5 = .ok (.iload_n 1, 1) := by decide +kernel
theorem dX3_number_6 : decode cX3_number 6 = .ok (.invokestatic 54, 3) := by decide +kernel
theorem dX3_number_9 : decode cX3_number 9 = .ok (.ifCond .eq 19, 3) := by decide +kernel
theorem dX3_number_12 : decode cX3_number 12 = .ok (.aload_n 0, 1) := by decide +kernel
theorem dX3_number_13 : decode cX3_number 13 = .ok (.getfield 35, 3) := by decide +kernel
theorem dX3_number_16 : decode cX3_number 16 = .ok (.iload_n 1, 1) := by decide +kernel
theorem dX3_number_17 : decode cX3_number 17 = .ok (.iaload, 1) := by decide +kernel
theorem dX3_number_18 : decode cX3_number 18 = .ok (.sipush 1000, 3) := by decide +kernel
theorem dX3_number_21 : decode cX3_number 21 = .ok (.if_icmp .ge 7, 3) := by decide +kernel
theorem dX3_number_24 : decode cX3_number 24 = .ok (.iconst 1, 1) := by decide +kernel
theorem dX3_number_25 : decode cX3_number 25 = .ok (.goto 4, 3) := by decide +kernel
theorem dX3_number_28 : decode cX3_number 28 = .ok (.iconst 0, 1) := by decide +kernel
theorem dX3_number_29 : decode cX3_number 29 = .ok (.iconst 1, 1) := by decide +kernel
theorem dX3_number_30 : decode cX3_number 30 = .ok (.invokevirtual 68, 3) := by decide +kernel
theorem dX3_number_33 : decode cX3_number 33 = .ok (.ifCond .ne 5, 3) := by decide +kernel
theorem dX3_number_36 : decode cX3_number 36 = .ok (.iconst 0, 1) := by decide +kernel
theorem dX3_number_37 : decode cX3_number 37 = .ok (.ireturn, 1) := by decide +kernel
theorem dX3_number_38 : decode cX3_number 38 = .ok (.aload_n 0, 1) := by decide +kernel
theorem dX3_number_39 : decode cX3_number 39 = .ok (.getfield 35, 3) := by decide +kernel
theorem dX3_number_42 : decode cX3_number 42 = .ok (.iload_n 1, 1) := by decide +kernel
theorem dX3_number_43 : decode cX3_number 43 = .ok (.dup2, 1) := by decide +kernel
theorem dX3_number_44 : decode cX3_number 44 = .ok (.iaload, 1) := by decide +kernel
theorem dX3_number_45 : decode cX3_number 45 = .ok (.iconst 1, 1) := by decide +kernel
theorem dX3_number_46 : decode cX3_number 46 = .ok (.iadd, 1) := by decide +kernel
theorem dX3_number_47 : decode cX3_number 47 = .ok (.iastore, 1) := by decide +kernel
theorem dX3_number_48 : decode cX3_number 48 = .ok (.sipush 1000, 3) := by decide +kernel
theorem dX3_number_51 : decode cX3_number 51 = .ok (.iload_n 1, 1) := by decide +kernel
theorem dX3_number_52 : decode cX3_number 52 = .ok (.imul, 1) := by decide +kernel
theorem dX3_number_53 : decode cX3_number 53 = .ok (.aload_n 0, 1) := by decide +kernel
theorem dX3_number_54 : decode cX3_number 54 = .ok (.getfield 35, 3) := by decide +kernel
theorem dX3_number_57 : decode cX3_number 57 = .ok (.iload_n 1, 1) := by decide +kernel
theorem dX3_number_58 : decode cX3_number 58 = .ok (.iaload, 1) := by decide +kernel
theorem dX3_number_59 : decode cX3_number 59 = .ok (.iadd, 1) := by decide +kernel
theorem dX3_number_60 : decode cX3_number 60 = .ok (.iconst 1, 1) := by decide +kernel
theorem dX3_number_61 : decode cX3_number 61 = .ok (.isub, 1) := by decide +kernel
theorem dX3_number_62 : decode cX3_number 62 = .ok (.ireturn, 1) := by decide +kernel
theorem dX3_isOf_0 : decode cX3_isOf 0 = .ok (.aload_n 0, 1) := by decide +kernel
theorem dX3_isOf_1 : decode cX3_isOf 1 = .ok (.getfield 32, 3) := by decide +kernel
theorem dX3_isOf_4 : decode cX3_isOf 4 = .ok (.bipush 120, 2) := by decide +kernel
theorem dX3_isOf_6 : decode cX3_isOf 6 = .ok (.iload_n 1, 1) := by decide +kernel
theorem dX3_isOf_7 : decode cX3_isOf 7 = .ok (.imul, 1) := by decide +kernel
theorem dX3_isOf_8 : decode cX3_isOf 8 = .ok (.iload_n 2, 1) := by decide +kernel
theorem dX3_isOf_9 : decode cX3_isOf 9 = .ok (.iadd, 1) := by decide +kernel
theorem dX3_isOf_10 : decode cX3_isOf 10 = .ok (.baload, 1) := by decide +kernel
theorem dX3_isOf_11 : decode cX3_isOf 11 = .ok (.ifCond .eq 28, 3) := by decide +kernel
theorem dX3_isOf_14 : decode cX3_isOf 14 = .ok (.aload_n 0, 1) := by decide +kernel
theorem dX3_isOf_15 : decode cX3_isOf 15 = .ok (.getfield 16, 3) := by decide +kernel
theorem dX3_isOf_18 : decode cX3_isOf 18 = .ok (.iload_n 2, 1) := by decide +kernel
theorem dX3_isOf_19 : decode cX3_isOf 19 = .ok (.iaload, 1) := by decide +kernel
theorem dX3_isOf_20 : decode cX3_isOf 20 = .ok (.iload 4, 2) := by decide +kernel
theorem dX3_isOf_22 : decode cX3_isOf 22 = .ok (.if_icmp .ne 17, 3) := by decide +kernel
theorem dX3_isOf_25 : decode cX3_isOf 25 = .ok (.aload_n 0, 1) := by decide +kernel
theorem dX3_isOf_26 : decode cX3_isOf 26 = .ok (.getfield 19, 3) := by decide +kernel
theorem dX3_isOf_29 : decode cX3_isOf 29 = .ok (.iload_n 2, 1) := by decide +kernel
theorem dX3_isOf_30 : decode cX3_isOf 30 = .ok (.iaload, 1) := by decide +kernel
theorem dX3_isOf_31 : decode cX3_isOf 31 = .ok (.iload_n 3, 1) := by decide +kernel
theorem dX3_isOf_32 : decode cX3_isOf 32 = .ok (.if_icmp .ne 7, 3) := by decide +kernel
theorem dX3_isOf_35 : decode cX3_isOf 35 = .ok (.iconst 1, 1) := by decide +kernel
theorem dX3_isOf_36 : decode cX3_isOf 36 = .ok (.goto 4, 3) := by decide +kernel
theorem dX3_isOf_39 : decode cX3_isOf 39 = .ok (.iconst 0, 1) := by decide +kernel
theorem dX3_isOf_40 : decode cX3_isOf 40 = .ok (.ireturn, 1) := by decide +kernel
theorem dX3_latest_0 : decode cX3_latest 0 = .ok (.iconst (-1), 1) := by decide +kernel
theorem dX3_latest_1 : decode cX3_latest 1 = .ok (.istore_n 3, 1) := by decide +kernel
theorem dX3_latest_2 : decode cX3_latest 2 = .ok (.iconst 0, 1) := by decide +kernel
theorem dX3_latest_3 : decode cX3_latest 3 = .ok (.istore 4, 2) := by decide +kernel
theorem dX3_latest_5 : decode cX3_latest 5 = .ok (.iload 4, 2) := by decide +kernel
theorem dX3_latest_7 : decode cX3_latest 7 = .ok (.aload_n 0, 1) := by decide +kernel
theorem dX3_latest_8 : decode cX3_latest 8 = .ok (.getfield 58, 3) := by decide +kernel
theorem dX3_latest_11 : decode cX3_latest 11 = .ok (.if_icmp .ge 43, 3) := by decide +kernel
theorem dX3_latest_14 : decode cX3_latest 14 = .ok (.aload_n 0, 1) := by decide +kernel
theorem dX3_latest_15 : decode cX3_latest 15 = .ok (.iload_n 1, 1) := by decide +kernel
theorem dX3_latest_16 : decode cX3_latest 16 = .ok (.iload 4, 2) := by decide +kernel
theorem dX3_latest_18 : decode cX3_latest 18 = .ok (.iload_n 2, 1) := by decide +kernel
theorem dX3_latest_19 : decode cX3_latest 19 = .ok (.iconst 0, 1) := by decide +kernel
theorem dX3_latest_20 : decode cX3_latest 20 = .ok (.invokevirtual 79, 3) := by decide +kernel
theorem dX3_latest_23 : decode cX3_latest 23 = .ok (.ifCond .eq 23, 3) := by decide +kernel
theorem dX3_latest_26 : decode cX3_latest 26 = .ok (.iload_n 3, 1) := by decide +kernel
theorem dX3_latest_27 : decode cX3_latest 27 = .ok (.iconst (-1), 1) := by decide +kernel
theorem dX3_latest_28 : decode cX3_latest 28 = .ok (.if_icmp .eq 13, 3) := by decide +kernel
theorem dX3_latest_31 : decode cX3_latest 31 = .ok (.aload_n 0, 1) := by decide +kernel
theorem dX3_latest_32 : decode cX3_latest 32 = .ok (.iload_n 3, 1) := by decide +kernel
theorem dX3_latest_33 : decode cX3_latest 33 = .ok (.iload 4, 2) := by decide +kernel
theorem dX3_latest_35 : decode cX3_latest 35 = .ok (.invokevirtual 83, 3) := by decide +kernel
theorem dX3_latest_38 : decode cX3_latest 38 = .ok (.ifCond .eq 8, 3) := by decide +kernel
theorem dX3_latest_41 : decode cX3_latest 41 = .ok (.iload 4, 2) := by decide +kernel
theorem dX3_latest_43 : decode cX3_latest 43 = .ok (.goto 4, 3) := by decide +kernel
theorem dX3_latest_46 : decode cX3_latest 46 = .ok (.iload_n 3, 1) := by decide +kernel
theorem dX3_latest_47 : decode cX3_latest 47 = .ok (.istore_n 3, 1) := by decide +kernel
theorem dX3_latest_48 : decode cX3_latest 48 = .ok (.iinc 4 1, 3) := by decide +kernel
theorem dX3_latest_51 : decode cX3_latest 51 = .ok (.goto (-46), 3) := by decide +kernel
theorem dX3_latest_54 : decode cX3_latest 54 = .ok (.iload_n 3, 1) := by decide +kernel
theorem dX3_latest_55 : decode cX3_latest 55 = .ok (.iconst (-1), 1) := by decide +kernel
theorem dX3_latest_56 : decode cX3_latest 56 = .ok (.if_icmp .ne 7, 3) := by decide +kernel
theorem dX3_latest_59 : decode cX3_latest 59 = .ok (.iconst (-1), 1) := by decide +kernel
theorem dX3_latest_60 : decode cX3_latest 60 = .ok (.goto 9, 3) := by decide +kernel
theorem dX3_latest_63 : decode cX3_latest 63 = .ok (.aload_n 0, 1) := by decide +kernel
theorem dX3_latest_64 : decode cX3_latest 64 = .ok (.getfield 22, 3) := by decide +kernel
theorem dX3_latest_67 : decode cX3_latest 67 = .ok (.iload_n 3, 1) := by decide +kernel
theorem dX3_latest_68 : decode cX3_latest 68 = .ok (.iaload, 1) := by decide +kernel
theorem dX3_latest_69 : decode cX3_latest 69 = .ok (.ireturn, 1) := by decide +kernel
theorem dX3_sum_0 : decode cX3_sum 0 = .ok (.iconst 0, 1) := by decide +kernel
theorem dX3_sum_1 : decode cX3_sum 1 = .ok (.istore_n 3, 1) := by decide +kernel
theorem dX3_sum_2 : decode cX3_sum 2 = .ok (.iconst 0, 1) := by decide +kernel
theorem dX3_sum_3 : decode cX3_sum 3 = .ok (.istore 4, 2) := by decide +kernel
theorem dX3_sum_5 : decode cX3_sum 5 = .ok (.iload 4, 2) := by decide +kernel
theorem dX3_sum_7 : decode cX3_sum 7 = .ok (.aload_n 0, 1) := by decide +kernel
theorem dX3_sum_8 : decode cX3_sum 8 = .ok (.getfield 58, 3) := by decide +kernel
theorem dX3_sum_11 : decode cX3_sum 11 = .ok (.if_icmp .ge 35, 3) := by decide +kernel
theorem dX3_sum_14 : decode cX3_sum 14 = .ok (.aload_n 0, 1) := by decide +kernel
theorem dX3_sum_15 : decode cX3_sum 15 = .ok (.iload_n 1, 1) := by decide +kernel
theorem dX3_sum_16 : decode cX3_sum 16 = .ok (.iload 4, 2) := by decide +kernel
theorem dX3_sum_18 : decode cX3_sum 18 = .ok (.iload_n 2, 1) := by decide +kernel
theorem dX3_sum_19 : decode cX3_sum 19 = .ok (.iconst 1, 1) := by decide +kernel
theorem dX3_sum_20 : decode cX3_sum 20 = .ok (.invokevirtual 79, 3) := by decide +kernel
theorem dX3_sum_23 : decode cX3_sum 23 = .ok (.ifCond .eq 15, 3) := by decide +kernel
theorem dX3_sum_26 : decode cX3_sum 26 = .ok (.iload_n 3, 1) := by decide +kernel
theorem dX3_sum_27 : decode cX3_sum 27 = .ok (.aload_n 0, 1) := by decide +kernel
theorem dX3_sum_28 : decode cX3_sum 28 = .ok (.getfield 22, 3) := by decide +kernel
theorem dX3_sum_31 : decode cX3_sum 31 = .ok (.iload 4, 2) := by decide +kernel
theorem dX3_sum_33 : decode cX3_sum 33 = .ok (.iaload, 1) := by decide +kernel
theorem dX3_sum_34 : decode cX3_sum 34 = .ok (.iadd, 1) := by decide +kernel
theorem dX3_sum_35 : decode cX3_sum 35 = .ok (.goto 4, 3) := by decide +kernel
theorem dX3_sum_38 : decode cX3_sum 38 = .ok (.iload_n 3, 1) := by decide +kernel
theorem dX3_sum_39 : decode cX3_sum 39 = .ok (.istore_n 3, 1) := by decide +kernel
theorem dX3_sum_40 : decode cX3_sum 40 = .ok (.iinc 4 1, 3) := by decide +kernel
theorem dX3_sum_43 : decode cX3_sum 43 = .ok (.goto (-38), 3) := by decide +kernel
theorem dX3_sum_46 : decode cX3_sum 46 = .ok (.iload_n 3, 1) := by decide +kernel
theorem dX3_sum_47 : decode cX3_sum 47 = .ok (.ireturn, 1) := by decide +kernel
theorem dX3_union_0 : decode cX3_union 0 = .ok (.iconst 0, 1) := by decide +kernel
theorem dX3_union_1 : decode cX3_union 1 = .ok (.istore 4, 2) := by decide +kernel
theorem dX3_union_3 : decode cX3_union 3 = .ok (.iconst 0, 1) := by decide +kernel
theorem dX3_union_4 : decode cX3_union 4 = .ok (.istore 5, 2) := by decide +kernel
theorem dX3_union_6 : decode cX3_union 6 = .ok (.iload 5, 2) := by decide +kernel
theorem dX3_union_8 : decode cX3_union 8 = .ok (.bipush 32, 2) := by decide +kernel
theorem dX3_union_10 : decode cX3_union 10 = .ok (.if_icmp .ge 96, 3) := by decide +kernel
theorem dX3_union_13 : decode cX3_union 13 = .ok (.iconst 0, 1) := by decide +kernel
theorem dX3_union_14 : decode cX3_union 14 = .ok (.istore 6, 2) := by decide +kernel
theorem dX3_union_16 : decode cX3_union 16 = .ok (.iconst 0, 1) := by decide +kernel
theorem dX3_union_17 : decode cX3_union 17 = .ok (.istore 7, 2) := by decide +kernel
theorem dX3_union_19 : decode cX3_union 19 = .ok (.iload 7, 2) := by decide +kernel
theorem dX3_union_21 : decode cX3_union 21 = .ok (.aload_n 0, 1) := by decide +kernel
theorem dX3_union_22 : decode cX3_union 22 = .ok (.getfield 58, 3) := by decide +kernel
theorem dX3_union_25 : decode cX3_union 25 = .ok (.if_icmp .ge 45, 3) := by decide +kernel
theorem dX3_union_28 : decode cX3_union 28 = .ok (.iload 6, 2) := by decide +kernel
theorem dX3_union_30 : decode cX3_union 30 = .ok (.ifCond .ne 27, 3) := by decide +kernel
theorem dX3_union_33 : decode cX3_union 33 = .ok (.aload_n 0, 1) := by decide +kernel
theorem dX3_union_34 : decode cX3_union 34 = .ok (.iload_n 1, 1) := by decide +kernel
theorem dX3_union_35 : decode cX3_union 35 = .ok (.iload 7, 2) := by decide +kernel
theorem dX3_union_37 : decode cX3_union 37 = .ok (.iload_n 2, 1) := by decide +kernel
theorem dX3_union_38 : decode cX3_union 38 = .ok (.iconst 2, 1) := by decide +kernel
theorem dX3_union_39 : decode cX3_union 39 = .ok (.invokevirtual 79, 3) := by decide +kernel
theorem dX3_union_42 : decode cX3_union 42 = .ok (.ifCond .eq 19, 3) := by decide +kernel
theorem dX3_union_45 : decode cX3_union 45 = .ok (.aload_n 0, 1) := by decide +kernel
theorem dX3_union_46 : decode cX3_union 46 = .ok (.getfield 22, 3) := by decide +kernel
theorem dX3_union_49 : decode cX3_union 49 = .ok (.iload 7, 2) := by decide +kernel
theorem dX3_union_51 : decode cX3_union 51 = .ok (.iaload, 1) := by decide +kernel
theorem dX3_union_52 : decode cX3_union 52 = .ok (.iload 5, 2) := by decide +kernel
theorem dX3_union_54 : decode cX3_union 54 = .ok (.if_icmp .ne 7, 3) := by decide +kernel
theorem dX3_union_57 : decode cX3_union 57 = .ok (.iconst 1, 1) := by decide +kernel
theorem dX3_union_58 : decode cX3_union 58 = .ok (.goto 4, 3) := by decide +kernel
theorem dX3_union_61 : decode cX3_union 61 = .ok (.iconst 0, 1) := by decide +kernel
theorem dX3_union_62 : decode cX3_union 62 = .ok (.istore 6, 2) := by decide +kernel
theorem dX3_union_64 : decode cX3_union 64 = .ok (.iinc 7 1, 3) := by decide +kernel
theorem dX3_union_67 : decode cX3_union 67 = .ok (.goto (-48), 3) := by decide +kernel
theorem dX3_union_70 : decode cX3_union 70 = .ok (.iload 6, 2) := by decide +kernel
theorem dX3_union_72 : decode cX3_union 72 = .ok (.ifCond .eq 12, 3) := by decide +kernel
theorem dX3_union_75 : decode cX3_union 75 = .ok (.iload 4, 2) := by decide +kernel
theorem dX3_union_77 : decode cX3_union 77 = .ok (.iload_n 3, 1) := by decide +kernel
theorem dX3_union_78 : decode cX3_union 78 = .ok (.if_icmp .ne 6, 3) := by decide +kernel
theorem dX3_union_81 : decode cX3_union 81 = .ok (.iload 5, 2) := by decide +kernel
theorem dX3_union_83 : decode cX3_union 83 = .ok (.ireturn, 1) := by decide +kernel
theorem dX3_union_84 : decode cX3_union 84 = .ok (.iload 6, 2) := by decide +kernel
theorem dX3_union_86 : decode cX3_union 86 = .ok (.ifCond .eq 10, 3) := by decide +kernel
theorem dX3_union_89 : decode cX3_union 89 = .ok (.iload 4, 2) := by decide +kernel
theorem dX3_union_91 : decode cX3_union 91 = .ok (.iconst 1, 1) := by decide +kernel
theorem dX3_union_92 : decode cX3_union 92 = .ok (.iadd, 1) := by decide +kernel
theorem dX3_union_93 : decode cX3_union 93 = .ok (.goto 5, 3) := by decide +kernel
theorem dX3_union_96 : decode cX3_union 96 = .ok (.iload 4, 2) := by decide +kernel
theorem dX3_union_98 : decode cX3_union 98 = .ok (.istore 4, 2) := by decide +kernel
theorem dX3_union_100 : decode cX3_union 100 = .ok (.iinc 5 1, 3) := by decide +kernel
theorem dX3_union_103 : decode cX3_union 103 = .ok (.goto (-97), 3) := by decide +kernel
theorem dX3_union_106 : decode cX3_union 106 = .ok (.iconst (-1), 1) := by decide +kernel
theorem dX3_union_107 : decode cX3_union 107 = .ok (.ireturn, 1) := by decide +kernel
theorem dX3_line_0 : decode cX3_line 0 = .ok (.aload_n 0, 1) := by decide +kernel
theorem dX3_line_1 : decode cX3_line 1 = .ok (.iconst 0, 1) := by decide +kernel
theorem dX3_line_2 : decode cX3_line 2 = .ok (.putfield 86, 3) := by decide +kernel
theorem dX3_line_5 : decode cX3_line 5 = .ok (.iconst 0, 1) := by decide +kernel
theorem dX3_line_6 : decode cX3_line 6 = .ok (.istore_n 3, 1) := by decide +kernel
theorem dX3_line_7 : decode cX3_line 7 = .ok (.iload_n 3, 1) := by decide +kernel
theorem dX3_line_8 : decode cX3_line 8 = .ok (.aload_n 0, 1) := by decide +kernel
theorem dX3_line_9 : decode cX3_line 9 = .ok (.getfield 58, 3) := by decide +kernel
theorem dX3_line_12 : decode cX3_line 12 = .ok (.if_icmp .ge 23, 3) := by decide +kernel
theorem dX3_line_15 : decode cX3_line 15 = .ok (.aload_n 0, 1) := by decide +kernel
theorem dX3_line_16 : decode cX3_line 16 = .ok (.getfield 47, 3) := by decide +kernel
theorem dX3_line_19 : decode cX3_line 19 = .ok (.iload_n 3, 1) := by decide +kernel
theorem dX3_line_20 : decode cX3_line 20 = .ok (.aload_n 0, 1) := by decide +kernel
theorem dX3_line_21 : decode cX3_line 21 = .ok (.iload_n 1, 1) := by decide +kernel
theorem dX3_line_22 : decode cX3_line 22 = .ok (.iload_n 3, 1) := by decide +kernel
theorem dX3_line_23 : decode cX3_line 23 = .ok (.iload_n 2, 1) := by decide +kernel
theorem dX3_line_24 : decode cX3_line 24 = .ok (.iconst 3, 1) := by decide +kernel
theorem dX3_line_25 : decode cX3_line 25 = .ok (.invokevirtual 79, 3) := by decide +kernel
theorem dX3_line_28 : decode cX3_line 28 = .ok (.bastore, 1) := by decide +kernel
theorem dX3_line_29 : decode cX3_line 29 = .ok (.iinc 3 1, 3) := by decide +kernel
theorem dX3_line_32 : decode cX3_line 32 = .ok (.goto (-25), 3) := by decide +kernel
theorem dX3_line_35 : decode cX3_line 35 = .ok (.iconst 1, 1) := by decide +kernel
theorem dX3_line_36 : decode cX3_line 36 = .ok (.istore_n 3, 1) := by decide +kernel
theorem dX3_line_37 : decode cX3_line 37 = .ok (.iload_n 3, 1) := by decide +kernel
theorem dX3_line_38 : decode cX3_line 38 = .ok (.ifCond .eq 190, 3) := by decide +kernel
theorem dX3_line_41 : decode cX3_line 41 = .ok (.iconst (-1), 1) := by decide +kernel
theorem dX3_line_42 : decode cX3_line 42 = .ok (.istore 4, 2) := by decide +kernel
theorem dX3_line_44 : decode cX3_line 44 = .ok (.iconst 0, 1) := by decide +kernel
theorem dX3_line_45 : decode cX3_line 45 = .ok (.istore 5, 2) := by decide +kernel
theorem dX3_line_47 : decode cX3_line 47 = .ok (.iload 5, 2) := by decide +kernel
theorem dX3_line_49 : decode cX3_line 49 = .ok (.aload_n 0, 1) := by decide +kernel
theorem dX3_line_50 : decode cX3_line 50 = .ok (.getfield 58, 3) := by decide +kernel
theorem dX3_line_53 : decode cX3_line 53 = .ok (.if_icmp .ge 45, 3) := by decide +kernel
theorem dX3_line_56 : decode cX3_line 56 = .ok (.aload_n 0, 1) := by decide +kernel
theorem dX3_line_57 : decode cX3_line 57 = .ok (.getfield 47, 3) := by decide +kernel
theorem dX3_line_60 : decode cX3_line 60 = .ok (.iload 5, 2) := by decide +kernel
theorem dX3_line_62 : decode cX3_line 62 = .ok (.baload, 1) := by decide +kernel
theorem dX3_line_63 : decode cX3_line 63 = .ok (.ifCond .eq 25, 3) := by decide +kernel
theorem dX3_line_66 : decode cX3_line 66 = .ok (.iload 4, 2) := by decide +kernel
theorem dX3_line_68 : decode cX3_line 68 = .ok (.iconst (-1), 1) := by decide +kernel
theorem dX3_line_69 : decode cX3_line 69 = .ok (.if_icmp .eq 14, 3) := by decide +kernel
theorem dX3_line_72 : decode cX3_line 72 = .ok (.aload_n 0, 1) := by decide +kernel
theorem dX3_line_73 : decode cX3_line 73 = .ok (.iload 5, 2) := by decide +kernel
theorem dX3_line_75 : decode cX3_line 75 = .ok (.iload 4, 2) := by decide +kernel
theorem dX3_line_77 : decode cX3_line 77 = .ok (.invokevirtual 83, 3) := by decide +kernel
theorem dX3_line_80 : decode cX3_line 80 = .ok (.ifCond .eq 8, 3) := by decide +kernel
theorem dX3_line_83 : decode cX3_line 83 = .ok (.iload 5, 2) := by decide +kernel
theorem dX3_line_85 : decode cX3_line 85 = .ok (.goto 5, 3) := by decide +kernel
theorem dX3_line_88 : decode cX3_line 88 = .ok (.iload 4, 2) := by decide +kernel
theorem dX3_line_90 : decode cX3_line 90 = .ok (.istore 4, 2) := by decide +kernel
theorem dX3_line_92 : decode cX3_line 92 = .ok (.iinc 5 1, 3) := by decide +kernel
theorem dX3_line_95 : decode cX3_line 95 = .ok (.goto (-48), 3) := by decide +kernel
theorem dX3_line_98 : decode cX3_line 98 = .ok (.iload 4, 2) := by decide +kernel
theorem dX3_line_100 : decode cX3_line 100 = .ok (.iconst (-1), 1) := by decide +kernel
theorem dX3_line_101 : decode cX3_line 101 = .ok (.if_icmp .eq 7, 3) := by decide +kernel
theorem dX3_line_104 : decode cX3_line 104 = .ok (.iconst 1, 1) := by decide +kernel
theorem dX3_line_105 : decode cX3_line 105 = .ok (.goto 4, 3) := by decide +kernel
theorem dX3_line_108 : decode cX3_line 108 = .ok (.iconst 0, 1) := by decide +kernel
theorem dX3_line_109 : decode cX3_line 109 = .ok (.istore_n 3, 1) := by decide +kernel
theorem dX3_line_110 : decode cX3_line 110 = .ok (.iload_n 3, 1) := by decide +kernel
theorem dX3_line_111 : decode cX3_line 111 = .ok (.ifCond .eq 114, 3) := by decide +kernel
theorem dX3_line_114 : decode cX3_line 114 = .ok (.aload_n 0, 1) := by decide +kernel
theorem dX3_line_115 : decode cX3_line 115 = .ok (.getfield 47, 3) := by decide +kernel
theorem dX3_line_118 : decode cX3_line 118 = .ok (.iload 4, 2) := by decide +kernel
theorem dX3_line_120 : decode cX3_line 120 = .ok (.iconst 0, 1) := by decide +kernel
theorem dX3_line_121 : decode cX3_line 121 = .ok (.bastore, 1) := by decide +kernel
theorem dX3_line_122 : decode cX3_line 122 = .ok (.iconst 0, 1) := by decide +kernel
theorem dX3_line_123 : decode cX3_line 123 = .ok (.istore 5, 2) := by decide +kernel
theorem dX3_line_125 : decode cX3_line 125 = .ok (.iconst 0, 1) := by decide +kernel
theorem dX3_line_126 : decode cX3_line 126 = .ok (.istore 6, 2) := by decide +kernel
theorem dX3_line_128 : decode cX3_line 128 = .ok (.iload 6, 2) := by decide +kernel
theorem dX3_line_130 : decode cX3_line 130 = .ok (.aload_n 0, 1) := by decide +kernel
theorem dX3_line_131 : decode cX3_line 131 = .ok (.getfield 86, 3) := by decide +kernel
theorem dX3_line_134 : decode cX3_line 134 = .ok (.if_icmp .ge 37, 3) := by decide +kernel
theorem dX3_line_137 : decode cX3_line 137 = .ok (.aload_n 0, 1) := by decide +kernel
theorem dX3_line_138 : decode cX3_line 138 = .ok (.getfield 38, 3) := by decide +kernel
theorem dX3_line_141 : decode cX3_line 141 = .ok (.iload 6, 2) := by decide +kernel
theorem dX3_line_143 : decode cX3_line 143 = .ok (.iaload, 1) := by decide +kernel
theorem dX3_line_144 : decode cX3_line 144 = .ok (.aload_n 0, 1) := by decide +kernel
theorem dX3_line_145 : decode cX3_line 145 = .ok (.getfield 25, 3) := by decide +kernel
theorem dX3_line_148 : decode cX3_line 148 = .ok (.iload 4, 2) := by decide +kernel
theorem dX3_line_150 : decode cX3_line 150 = .ok (.iaload, 1) := by decide +kernel
theorem dX3_line_151 : decode cX3_line 151 = .ok (.if_icmp .ne 10, 3) := by decide +kernel
