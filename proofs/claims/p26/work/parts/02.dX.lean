theorem dX0_init_0 : decode cX0_init 0 = .ok (.aload_n 0, 1) := by decide +kernel
theorem dX0_init_1 : decode cX0_init 1 = .ok (.invokespecial 3, 3) := by decide +kernel
theorem dX0_init_4 : decode cX0_init 4 = .ok (.aload_n 0, 1) := by decide +kernel
theorem dX0_init_5 : decode cX0_init 5 = .ok (.new 9, 3) := by decide +kernel
theorem dX0_init_8 : decode cX0_init 8 = .ok (.dup, 1) := by decide +kernel
theorem dX0_init_9 : decode cX0_init 9 = .ok (.invokespecial 11, 3) := by decide +kernel
theorem dX0_init_12 : decode cX0_init 12 = .ok (.putfield 12, 3) := by decide +kernel
theorem dX0_init_15 : decode cX0_init 15 = .ok (.aload_n 0, 1) := by decide +kernel
theorem dX0_init_16 : decode cX0_init 16 = .ok (.bipush 14, 2) := by decide +kernel
theorem dX0_init_18 : decode cX0_init 18 = .ok (.anewarray 18, 3) := by decide +kernel
theorem dX0_init_21 : decode cX0_init 21 = .ok (.putfield 20, 3) := by decide +kernel
theorem dX0_init_24 : decode cX0_init 24 = .ok (.aload_n 0, 1) := by decide +kernel
theorem dX0_init_25 : decode cX0_init 25 = .ok (.bipush 14, 2) := by decide +kernel
theorem dX0_init_27 : decode cX0_init 27 = .ok (.newarray .int, 2) := by decide +kernel
theorem dX0_init_29 : decode cX0_init 29 = .ok (.putfield 24, 3) := by decide +kernel
theorem dX0_init_32 : decode cX0_init 32 = .ok (.aload_n 0, 1) := by decide +kernel
theorem dX0_init_33 : decode cX0_init 33 = .ok (.iconst 4, 1) := by decide +kernel
theorem dX0_init_34 : decode cX0_init 34 = .ok (.newarray .int, 2) := by decide +kernel
theorem dX0_init_36 : decode cX0_init 36 = .ok (.putfield 28, 3) := by decide +kernel
theorem dX0_init_39 : decode cX0_init 39 = .ok (.aload_n 0, 1) := by decide +kernel
theorem dX0_init_40 : decode cX0_init 40 = .ok (.aload_n 1, 1) := by decide +kernel
theorem dX0_init_41 : decode cX0_init 41 = .ok (.putfield 31, 3) := by decide +kernel
theorem dX0_init_44 : decode cX0_init 44 = .ok (.return_, 1) := by decide +kernel
theorem dX0_findValues_0 : decode cX0_findValues 0 = .ok (.aload_n 0, 1) := by decide +kernel
theorem dX0_findValues_1 : decode cX0_findValues 1 = .ok (.getfield 31, 3) := by decide +kernel
theorem dX0_findValues_4 : decode cX0_findValues 4 = .ok (.aload_n 1, 1) := by decide +kernel
theorem dX0_findValues_5 : decode cX0_findValues 5 = .ok (.aload_n 0, 1) := by decide +kernel
theorem dX0_findValues_6 : decode cX0_findValues 6 = .ok (.getfield 12, 3) := by decide +kernel
theorem dX0_findValues_9 : decode cX0_findValues 9 = .ok (.invokevirtual 35, 3) := by decide +kernel
theorem dX0_findValues_12 : decode cX0_findValues 12 = .ok (.aload_n 0, 1) := by decide +kernel
theorem dX0_findValues_13 : decode cX0_findValues 13 = .ok (.invokevirtual 41, 3) := by decide +kernel
theorem dX0_findValues_16 : decode cX0_findValues 16 = .ok (.aload_n 0, 1) := by decide +kernel
theorem dX0_findValues_17 : decode cX0_findValues 17 = .ok (.aload_n 1, 1) := by decide +kernel
theorem dX0_findValues_18 : decode cX0_findValues 18 = .ok (.invokevirtual 44, 3) := by decide +kernel
theorem dX0_findValues_21 : decode cX0_findValues 21 = .ok (.iconst 0, 1) := by decide +kernel
theorem dX0_findValues_22 : decode cX0_findValues 22 = .ok (.istore_n 2, 1) := by decide +kernel
theorem dX0_findValues_23 : decode cX0_findValues 23 = .ok (.iload_n 2, 1) := by decide +kernel
theorem dX0_findValues_24 : decode cX0_findValues 24 = .ok (.bipush 10, 2) := by decide +kernel
theorem dX0_findValues_26 : decode cX0_findValues 26 = .ok (.if_icmp .ge 15, 3) := by decide +kernel
theorem dX0_findValues_29 : decode cX0_findValues 29 = .ok (.aload_n 0, 1) := by decide +kernel
theorem dX0_findValues_30 : decode cX0_findValues 30 = .ok (.aload_n 1, 1) := by decide +kernel
theorem dX0_findValues_31 : decode cX0_findValues 31 = .ok (.iload_n 2, 1) := by decide +kernel
theorem dX0_findValues_32 : decode cX0_findValues 32 = .ok (.invokevirtual 48, 3) := by decide +kernel
theorem dX0_findValues_35 : decode cX0_findValues 35 = .ok (.iinc 2 1, 3) := by decide +kernel
theorem dX0_findValues_38 : decode cX0_findValues 38 = .ok (.goto (-15), 3) := by decide +kernel
theorem dX0_findValues_41 : decode cX0_findValues 41 = .ok (.return_, 1) := by decide +kernel
theorem dX0_findVariables_0 : decode cX0_findVariables 0 = .ok (.aload_n 0, 1) := by decide +kernel
theorem dX0_findVariables_1 : decode cX0_findVariables 1 = .ok (.invokevirtual 52, 3) := by decide +kernel
theorem dX0_findVariables_4 : decode cX0_findVariables 4 = .ok (.iconst 0, 1) := by decide +kernel
theorem dX0_findVariables_5 : decode cX0_findVariables 5 = .ok (.istore_n 2, 1) := by decide +kernel
theorem dX0_findVariables_6 : decode cX0_findVariables 6 = .ok (.iload_n 2, 1) := by decide +kernel
theorem dX0_findVariables_7 : decode cX0_findVariables 7 = .ok (.iconst 4, 1) := by decide +kernel
theorem dX0_findVariables_8 : decode cX0_findVariables 8 = .ok (.if_icmp .ge 55, 3) := by decide +kernel
theorem dX0_findVariables_11 : decode cX0_findVariables 11 = .ok (.iconst 0, 1) := by decide +kernel
theorem dX0_findVariables_12 : decode cX0_findVariables 12 = .ok (.istore_n 3, 1) := by decide +kernel
theorem dX0_findVariables_13 : decode cX0_findVariables 13 = .ok (.iload_n 3, 1) := by decide +kernel
theorem dX0_findVariables_14 : decode cX0_findVariables 14 = .ok (.iconst 4, 1) := by decide +kernel
theorem dX0_findVariables_15 : decode cX0_findVariables 15 = .ok (.if_icmp .ge 42, 3) := by decide +kernel
theorem dX0_findVariables_18 : decode cX0_findVariables 18 = .ok (.aload_n 0, 1) := by decide +kernel
theorem dX0_findVariables_19 : decode cX0_findVariables 19 = .ok (.iload_n 3, 1) := by decide +kernel
theorem dX0_findVariables_20 : decode cX0_findVariables 20 = .ok (.invokevirtual 55, 3) := by decide +kernel
theorem dX0_findVariables_23 : decode cX0_findVariables 23 = .ok (.ifCond .eq 19, 3) := by decide +kernel
theorem dX0_findVariables_26 : decode cX0_findVariables 26 = .ok (.aload_n 1, 1) := by decide +kernel
theorem dX0_findVariables_27 : decode cX0_findVariables 27 = .ok (.getfield 59, 3) := by decide +kernel
theorem dX0_findVariables_30 : decode cX0_findVariables 30 = .ok (.bipush 10, 2) := by decide +kernel
theorem dX0_findVariables_32 : decode cX0_findVariables 32 = .ok (.iload_n 3, 1) := by decide +kernel
theorem dX0_findVariables_33 : decode cX0_findVariables 33 = .ok (.iadd, 1) := by decide +kernel
theorem dX0_findVariables_34 : decode cX0_findVariables 34 = .ok (.iconst (-1), 1) := by decide +kernel
theorem dX0_findVariables_35 : decode cX0_findVariables 35 = .ok (.iconst (-1), 1) := by decide +kernel
theorem dX0_findVariables_36 : decode cX0_findVariables 36 = .ok (.invokevirtual 65, 3) := by decide +kernel
theorem dX0_findVariables_39 : decode cX0_findVariables 39 = .ok (.goto 12, 3) := by decide +kernel
theorem dX0_findVariables_42 : decode cX0_findVariables 42 = .ok (.aload_n 0, 1) := by decide +kernel
theorem dX0_findVariables_43 : decode cX0_findVariables 43 = .ok (.aload_n 1, 1) := by decide +kernel
theorem dX0_findVariables_44 : decode cX0_findVariables 44 = .ok (.bipush 10, 2) := by decide +kernel
theorem dX0_findVariables_46 : decode cX0_findVariables 46 = .ok (.iload_n 3, 1) := by decide +kernel
theorem dX0_findVariables_47 : decode cX0_findVariables 47 = .ok (.iadd, 1) := by decide +kernel
theorem dX0_findVariables_48 : decode cX0_findVariables 48 = .ok (.invokevirtual 48, 3) := by decide +kernel
theorem dX0_findVariables_51 : decode cX0_findVariables 51 = .ok (.iinc 3 1, 3) := by decide +kernel
theorem dX0_findVariables_54 : decode cX0_findVariables 54 = .ok (.goto (-41), 3) := by decide +kernel
theorem dX0_findVariables_57 : decode cX0_findVariables 57 = .ok (.iinc 2 1, 3) := by decide +kernel
theorem dX0_findVariables_60 : decode cX0_findVariables 60 = .ok (.goto (-54), 3) := by decide +kernel
theorem dX0_findVariables_63 : decode cX0_findVariables 63 = .ok (.return_, 1) := by decide +kernel
theorem dX0_findNeeds_0 : decode cX0_findNeeds 0 = .ok (.iconst 0, 1) := by decide +kernel
theorem dX0_findNeeds_1 : decode cX0_findNeeds 1 = .ok (.istore_n 1, 1) := by decide +kernel
theorem dX0_findNeeds_2 : decode cX0_findNeeds 2 = .ok (.iload_n 1, 1) := by decide +kernel
theorem dX0_findNeeds_3 : decode cX0_findNeeds 3 = .ok (.aload_n 0, 1) := by decide +kernel
theorem dX0_findNeeds_4 : decode cX0_findNeeds 4 = .ok (.getfield 28, 3) := by decide +kernel
theorem dX0_findNeeds_7 : decode cX0_findNeeds 7 = .ok (.arraylength, 1) := by decide +kernel
theorem dX0_findNeeds_8 : decode cX0_findNeeds 8 = .ok (.if_icmp .ge 90, 3) := by decide +kernel
theorem dX0_findNeeds_11 : decode cX0_findNeeds 11 = .ok (.bipush 10, 2) := by decide +kernel
theorem dX0_findNeeds_13 : decode cX0_findNeeds 13 = .ok (.iload_n 1, 1) := by decide +kernel
theorem dX0_findNeeds_14 : decode cX0_findNeeds 14 = .ok (.iadd, 1) := by decide +kernel
theorem dX0_findNeeds_15 : decode cX0_findNeeds 15 = .ok (.istore_n 2, 1) := by decide +kernel
theorem dX0_findNeeds_16 : decode cX0_findNeeds 16 = .ok (.iload_n 2, 1) := by decide +kernel
theorem dX0_findNeeds_17 : decode cX0_findNeeds 17 = .ok (.aload_n 0, 1) := by decide +kernel
theorem dX0_findNeeds_18 : decode cX0_findNeeds 18 = .ok (.getfield 20, 3) := by decide +kernel
theorem dX0_findNeeds_21 : decode cX0_findNeeds 21 = .ok (.arraylength, 1) := by decide +kernel
theorem dX0_findNeeds_22 : decode cX0_findNeeds 22 = .ok (.if_icmp .ge 12, 3) := by decide +kernel
theorem dX0_findNeeds_25 : decode cX0_findNeeds 25 = .ok (.aload_n 0, 1) := by decide +kernel
theorem dX0_findNeeds_26 : decode cX0_findNeeds 26 = .ok (.getfield 20, 3) := by decide +kernel
theorem dX0_findNeeds_29 : decode cX0_findNeeds 29 = .ok (.iload_n 2, 1) := by decide +kernel
theorem dX0_findNeeds_30 : decode cX0_findNeeds 30 = .ok (.aaload, 1) := by decide +kernel
theorem dX0_findNeeds_31 : decode cX0_findNeeds 31 = .ok (.goto 4, 3) := by decide +kernel
theorem dX0_findNeeds_34 : decode cX0_findNeeds 34 = .ok (.aconst_null, 1) := by decide +kernel
theorem dX0_findNeeds_35 : decode cX0_findNeeds 35 = .ok (.astore_n 3, 1) := by decide +kernel
theorem dX0_findNeeds_36 : decode cX0_findNeeds 36 = .ok (.aload_n 3, 1) := by decide +kernel
theorem dX0_findNeeds_37 : decode cX0_findNeeds 37 = .ok (.ifnonnull 7, 3) := by decide +kernel
theorem dX0_findNeeds_40 : decode cX0_findNeeds 40 = .ok (.aconst_null, 1) := by decide +kernel
theorem dX0_findNeeds_41 : decode cX0_findNeeds 41 = .ok (.goto 8, 3) := by decide +kernel
theorem dX0_findNeeds_44 : decode cX0_findNeeds 44 = .ok (.aload_n 3, 1) := by decide +kernel
theorem dX0_findNeeds_45 : decode cX0_findNeeds 45 = .ok (.iload_n 2, 1) := by decide +kernel
theorem dX0_findNeeds_46 : decode cX0_findNeeds 46 = .ok (.invokevirtual 71, 3) := by decide +kernel
theorem dX0_findNeeds_49 : decode cX0_findNeeds 49 = .ok (.astore 4, 2) := by decide +kernel
theorem dX0_findNeeds_51 : decode cX0_findNeeds 51 = .ok (.aload 4, 2) := by decide +kernel
theorem dX0_findNeeds_53 : decode cX0_findNeeds 53 = .ok (.ifnull 16, 3) := by decide +kernel
theorem dX0_findNeeds_56 : decode cX0_findNeeds 56 = .ok (.aload 4, 2) := by decide +kernel
theorem dX0_findNeeds_58 : decode cX0_findNeeds 58 = .ok (.getfield 75, 3) := by decide +kernel
theorem dX0_findNeeds_61 : decode cX0_findNeeds 61 = .ok (.iconst 5, 1) := by decide +kernel
theorem dX0_findNeeds_62 : decode cX0_findNeeds 62 = .ok (.if_icmp .ne 7, 3) := by decide +kernel
theorem dX0_findNeeds_65 : decode cX0_findNeeds 65 = .ok (.iconst 1, 1) := by decide +kernel
theorem dX0_findNeeds_66 : decode cX0_findNeeds 66 = .ok (.goto 4, 3) := by decide +kernel
theorem dX0_findNeeds_69 : decode cX0_findNeeds 69 = .ok (.iconst 0, 1) := by decide +kernel
theorem dX0_findNeeds_70 : decode cX0_findNeeds 70 = .ok (.istore 5, 2) := by decide +kernel
theorem dX0_findNeeds_72 : decode cX0_findNeeds 72 = .ok (.aload_n 0, 1) := by decide +kernel
theorem dX0_findNeeds_73 : decode cX0_findNeeds 73 = .ok (.getfield 28, 3) := by decide +kernel
theorem dX0_findNeeds_76 : decode cX0_findNeeds 76 = .ok (.iload_n 1, 1) := by decide +kernel
theorem dX0_findNeeds_77 : decode cX0_findNeeds 77 = .ok (.iload 5, 2) := by decide +kernel
theorem dX0_findNeeds_79 : decode cX0_findNeeds 79 = .ok (.ifCond .eq 11, 3) := by decide +kernel
theorem dX0_findNeeds_82 : decode cX0_findNeeds 82 = .ok (.aload 4, 2) := by decide +kernel
theorem dX0_findNeeds_84 : decode cX0_findNeeds 84 = .ok (.getfield 81, 3) := by decide +kernel
theorem dX0_findNeeds_87 : decode cX0_findNeeds 87 = .ok (.goto 4, 3) := by decide +kernel
theorem dX0_findNeeds_90 : decode cX0_findNeeds 90 = .ok (.iconst (-1), 1) := by decide +kernel
theorem dX0_findNeeds_91 : decode cX0_findNeeds 91 = .ok (.iastore, 1) := by decide +kernel
theorem dX0_findNeeds_92 : decode cX0_findNeeds 92 = .ok (.iinc 1 1, 3) := by decide +kernel
theorem dX0_findNeeds_95 : decode cX0_findNeeds 95 = .ok (.goto (-93), 3) := by decide +kernel
theorem dX0_findNeeds_98 : decode cX0_findNeeds 98 = .ok (.return_, 1) := by decide +kernel
theorem dX0_isInRing_0 : decode cX0_isInRing 0 = .ok (.iload_n 1, 1) := by decide +kernel
theorem dX0_isInRing_1 : decode cX0_isInRing 1 = .ok (.istore_n 2, 1) := by decide +kernel
theorem dX0_isInRing_2 : decode cX0_isInRing 2 = .ok (.iconst 0, 1) := by decide +kernel
theorem dX0_isInRing_3 : decode cX0_isInRing 3 = .ok (.istore_n 3, 1) := by decide +kernel
theorem dX0_isInRing_4 : decode cX0_isInRing 4 = .ok (.iload_n 3, 1) := by decide +kernel
theorem dX0_isInRing_5 : decode cX0_isInRing 5 = .ok (.iconst 4, 1) := by decide +kernel
theorem dX0_isInRing_6 : decode cX0_isInRing 6 = .ok (.if_icmp .ge 36, 3) := by decide +kernel
theorem dX0_isInRing_9 : decode cX0_isInRing 9 = .ok (.iload_n 2, 1) := by decide +kernel
theorem dX0_isInRing_10 : decode cX0_isInRing 10 = .ok (.ifCond .lt 32, 3) := by decide +kernel
theorem dX0_isInRing_13 : decode cX0_isInRing 13 = .ok (.iload_n 2, 1) := by decide +kernel
theorem dX0_isInRing_14 : decode cX0_isInRing 14 = .ok (.aload_n 0, 1) := by decide +kernel
theorem dX0_isInRing_15 : decode cX0_isInRing 15 = .ok (.getfield 28, 3) := by decide +kernel
theorem dX0_isInRing_18 : decode cX0_isInRing 18 = .ok (.arraylength, 1) := by decide +kernel
theorem dX0_isInRing_19 : decode cX0_isInRing 19 = .ok (.if_icmp .ge 23, 3) := by decide +kernel
theorem dX0_isInRing_22 : decode cX0_isInRing 22 = .ok (.aload_n 0, 1) := by decide +kernel
theorem dX0_isInRing_23 : decode cX0_isInRing 23 = .ok (.getfield 28, 3) := by decide +kernel
theorem dX0_isInRing_26 : decode cX0_isInRing 26 = .ok (.iload_n 2, 1) := by decide +kernel
theorem dX0_isInRing_27 : decode cX0_isInRing 27 = .ok (.iaload, 1) := by decide +kernel
theorem dX0_isInRing_28 : decode cX0_isInRing 28 = .ok (.istore_n 2, 1) := by decide +kernel
theorem dX0_isInRing_29 : decode cX0_isInRing 29 = .ok (.iload_n 2, 1) := by decide +kernel
theorem dX0_isInRing_30 : decode cX0_isInRing 30 = .ok (.iload_n 1, 1) := by decide +kernel
theorem dX0_isInRing_31 : decode cX0_isInRing 31 = .ok (.if_icmp .ne 5, 3) := by decide +kernel
theorem dX0_isInRing_34 : decode cX0_isInRing 34 = .ok (.iconst 1, 1) := by decide +kernel
theorem dX0_isInRing_35 : decode cX0_isInRing 35 = .ok (.ireturn, 1) := by decide +kernel
theorem dX0_isInRing_36 : decode cX0_isInRing 36 = .ok (.iinc 3 1, 3) := by decide +kernel
theorem dX0_isInRing_39 : decode cX0_isInRing 39 = .ok (.goto (-35), 3) := by decide +kernel
theorem dX0_isInRing_42 : decode cX0_isInRing 42 = .ok (.iconst 0, 1) := by decide +kernel
theorem dX0_isInRing_43 : decode cX0_isInRing 43 = .ok (.ireturn, 1) := by decide +kernel
theorem dX0_findDeciding_0 : decode cX0_findDeciding 0 = .ok (.iconst 0, 1) := by decide +kernel
theorem dX0_findDeciding_1 : decode cX0_findDeciding 1 = .ok (.istore_n 1, 1) := by decide +kernel
theorem dX0_findDeciding_2 : decode cX0_findDeciding 2 = .ok (.iload_n 1, 1) := by decide +kernel
theorem dX0_findDeciding_3 : decode cX0_findDeciding 3 = .ok (.aload_n 0, 1) := by decide +kernel
theorem dX0_findDeciding_4 : decode cX0_findDeciding 4 = .ok (.getfield 20, 3) := by decide +kernel
theorem dX0_findDeciding_7 : decode cX0_findDeciding 7 = .ok (.arraylength, 1) := by decide +kernel
theorem dX0_findDeciding_8 : decode cX0_findDeciding 8 = .ok (.if_icmp .ge 32, 3) := by decide +kernel
theorem dX0_findDeciding_11 : decode cX0_findDeciding 11 = .ok (.iload_n 1, 1) := by decide +kernel
theorem dX0_findDeciding_12 : decode cX0_findDeciding 12 = .ok (.aload_n 0, 1) := by decide +kernel
theorem dX0_findDeciding_13 : decode cX0_findDeciding 13 = .ok (.getfield 24, 3) := by decide +kernel
theorem dX0_findDeciding_16 : decode cX0_findDeciding 16 = .ok (.arraylength, 1) := by decide +kernel
theorem dX0_findDeciding_17 : decode cX0_findDeciding 17 = .ok (.if_icmp .ge 23, 3) := by decide +kernel
theorem dX0_findDeciding_20 : decode cX0_findDeciding 20 = .ok (.aload_n 0, 1) := by decide +kernel
theorem dX0_findDeciding_21 : decode cX0_findDeciding 21 = .ok (.getfield 20, 3) := by decide +kernel
theorem dX0_findDeciding_24 : decode cX0_findDeciding 24 = .ok (.iload_n 1, 1) := by decide +kernel
theorem dX0_findDeciding_25 : decode cX0_findDeciding 25 = .ok (.aconst_null, 1) := by decide +kernel
theorem dX0_findDeciding_26 : decode cX0_findDeciding 26 = .ok (.aastore, 1) := by decide +kernel
theorem dX0_findDeciding_27 : decode cX0_findDeciding 27 = .ok (.aload_n 0, 1) := by decide +kernel
theorem dX0_findDeciding_28 : decode cX0_findDeciding 28 = .ok (.getfield 24, 3) := by decide +kernel
theorem dX0_findDeciding_31 : decode cX0_findDeciding 31 = .ok (.iload_n 1, 1) := by decide +kernel
theorem dX0_findDeciding_32 : decode cX0_findDeciding 32 = .ok (.iconst (-1), 1) := by decide +kernel
theorem dX0_findDeciding_33 : decode cX0_findDeciding 33 = .ok (.iastore, 1) := by decide +kernel
theorem dX0_findDeciding_34 : decode cX0_findDeciding 34 = .ok (.iinc 1 1, 3) := by decide +kernel
theorem dX0_findDeciding_37 : decode cX0_findDeciding 37 = .ok (.goto (-35), 3) := by decide +kernel
theorem dX0_findDeciding_40 : decode cX0_findDeciding 40 = .ok (.iconst 0, 1) := by decide +kernel
theorem dX0_findDeciding_41 : decode cX0_findDeciding 41 = .ok (.istore_n 1, 1) := by decide +kernel
theorem dX0_findDeciding_42 : decode cX0_findDeciding 42 = .ok (.iload_n 1, 1) := by decide +kernel
theorem dX0_findDeciding_43 : decode cX0_findDeciding 43 = .ok (.aload_n 0, 1) := by decide +kernel
theorem dX0_findDeciding_44 : decode cX0_findDeciding 44 = .ok (.getfield 12, 3) := by decide +kernel
theorem dX0_findDeciding_47 : decode cX0_findDeciding 47 = .ok (.invokevirtual 84, 3) := by decide +kernel
theorem dX0_findDeciding_50 : decode cX0_findDeciding 50 = .ok (.if_icmp .ge 24, 3) := by decide +kernel
theorem dX0_findDeciding_53 : decode cX0_findDeciding 53 = .ok (.aload_n 0, 1) := by decide +kernel
theorem dX0_findDeciding_54 : decode cX0_findDeciding 54 = .ok (.aload_n 0, 1) := by decide +kernel
theorem dX0_findDeciding_55 : decode cX0_findDeciding 55 = .ok (.getfield 12, 3) := by decide +kernel
theorem dX0_findDeciding_58 : decode cX0_findDeciding 58 = .ok (.iload_n 1, 1) := by decide +kernel
theorem dX0_findDeciding_59 : decode cX0_findDeciding 59 = .ok (.invokevirtual 88, 3) := by decide +kernel
theorem dX0_findDeciding_62 : decode cX0_findDeciding 62 = .ok (.checkcast 18, 3) := by decide +kernel
theorem dX0_findDeciding_65 : decode cX0_findDeciding 65 = .ok (.invokevirtual 92, 3) := by decide +kernel
theorem dX0_findDeciding_68 : decode cX0_findDeciding 68 = .ok (.iinc 1 1, 3) := by decide +kernel
theorem dX0_findDeciding_71 : decode cX0_findDeciding 71 = .ok (.goto (-29), 3) := by decide +kernel
theorem dX0_findDeciding_74 : decode cX0_findDeciding 74 = .ok (.return_, 1) := by decide +kernel
theorem dX0_letDecide_0 : decode cX0_letDecide 0 = .ok (.iconst 0, 1) := by decide +kernel
theorem dX0_letDecide_1 : decode cX0_letDecide 1 = .ok (.istore_n 2, 1) := by decide +kernel
theorem dX0_letDecide_2 : decode cX0_letDecide 2 = .ok (.iload_n 2, 1) := by decide +kernel
theorem dX0_letDecide_3 : decode cX0_letDecide 3 = .ok (.aload_n 0, 1) := by decide +kernel
theorem dX0_letDecide_4 : decode cX0_letDecide 4 = .ok (.getfield 20, 3) := by decide +kernel
theorem dX0_letDecide_7 : decode cX0_letDecide 7 = .ok (.arraylength, 1) := by decide +kernel
theorem dX0_letDecide_8 : decode cX0_letDecide 8 = .ok (.if_icmp .ge 82, 3) := by decide +kernel
theorem dX0_letDecide_11 : decode cX0_letDecide 11 = .ok (.iload_n 2, 1) := by decide +kernel
theorem dX0_letDecide_12 : decode cX0_letDecide 12 = .ok (.aload_n 0, 1) := by decide +kernel
theorem dX0_letDecide_13 : decode cX0_letDecide 13 = .ok (.getfield 24, 3) := by decide +kernel
theorem dX0_letDecide_16 : decode cX0_letDecide 16 = .ok (.arraylength, 1) := by decide +kernel
theorem dX0_letDecide_17 : decode cX0_letDecide 17 = .ok (.if_icmp .ge 73, 3) := by decide +kernel
theorem dX0_letDecide_20 : decode cX0_letDecide 20 = .ok (.aload_n 0, 1) := by decide +kernel
theorem dX0_letDecide_21 : decode cX0_letDecide 21 = .ok (.getfield 20, 3) := by decide +kernel
theorem dX0_letDecide_24 : decode cX0_letDecide 24 = .ok (.iload_n 2, 1) := by decide +kernel
theorem dX0_letDecide_25 : decode cX0_letDecide 25 = .ok (.aaload, 1) := by decide +kernel
theorem dX0_letDecide_26 : decode cX0_letDecide 26 = .ok (.ifnonnull 11, 3) := by decide +kernel
theorem dX0_letDecide_29 : decode cX0_letDecide 29 = .ok (.aload_n 1, 1) := by decide +kernel
theorem dX0_letDecide_30 : decode cX0_letDecide 30 = .ok (.iload_n 2, 1) := by decide +kernel
theorem dX0_letDecide_31 : decode cX0_letDecide 31 = .ok (.invokevirtual 71, 3) := by decide +kernel
theorem dX0_letDecide_34 : decode cX0_letDecide 34 = .ok (.goto 4, 3) := by decide +kernel
theorem dX0_letDecide_37 : decode cX0_letDecide 37 = .ok (.aconst_null, 1) := by decide +kernel
theorem dX0_letDecide_38 : decode cX0_letDecide 38 = .ok (.astore_n 3, 1) := by decide +kernel
theorem dX0_letDecide_39 : decode cX0_letDecide 39 = .ok (.aload_n 3, 1) := by decide +kernel
theorem dX0_letDecide_40 : decode cX0_letDecide 40 = .ok (.ifnull 44, 3) := by decide +kernel
theorem dX0_letDecide_43 : decode cX0_letDecide 43 = .ok (.aload_n 1, 1) := by decide +kernel
theorem dX0_letDecide_44 : decode cX0_letDecide 44 = .ok (.getfield 96, 3) := by decide +kernel
theorem dX0_letDecide_47 : decode cX0_letDecide 47 = .ok (.aload_n 0, 1) := by decide +kernel
theorem dX0_letDecide_48 : decode cX0_letDecide 48 = .ok (.getfield 24, 3) := by decide +kernel
theorem dX0_letDecide_51 : decode cX0_letDecide 51 = .ok (.iload_n 2, 1) := by decide +kernel
theorem dX0_letDecide_52 : decode cX0_letDecide 52 = .ok (.iaload, 1) := by decide +kernel
theorem dX0_letDecide_53 : decode cX0_letDecide 53 = .ok (.if_icmp .eq 31, 3) := by decide +kernel
theorem dX0_letDecide_56 : decode cX0_letDecide 56 = .ok (.aload_n 3, 1) := by decide +kernel
theorem dX0_letDecide_57 : decode cX0_letDecide 57 = .ok (.getfield 75, 3) := by decide +kernel
theorem dX0_letDecide_60 : decode cX0_letDecide 60 = .ok (.iconst 3, 1) := by decide +kernel
theorem dX0_letDecide_61 : decode cX0_letDecide 61 = .ok (.if_icmp .ne 16, 3) := by decide +kernel
theorem dX0_letDecide_64 : decode cX0_letDecide 64 = .ok (.aload_n 0, 1) := by decide +kernel
theorem dX0_letDecide_65 : decode cX0_letDecide 65 = .ok (.getfield 24, 3) := by decide +kernel
theorem dX0_letDecide_68 : decode cX0_letDecide 68 = .ok (.iload_n 2, 1) := by decide +kernel
theorem dX0_letDecide_69 : decode cX0_letDecide 69 = .ok (.aload_n 1, 1) := by decide +kernel
theorem dX0_letDecide_70 : decode cX0_letDecide 70 = .ok (.getfield 96, 3) := by decide +kernel
theorem dX0_letDecide_73 : decode cX0_letDecide 73 = .ok (.iastore, 1) := by decide +kernel
theorem dX0_letDecide_74 : decode cX0_letDecide 74 = .ok (.goto 10, 3) := by decide +kernel
theorem dX0_letDecide_77 : decode cX0_letDecide 77 = .ok (.aload_n 0, 1) := by decide +kernel
theorem dX0_letDecide_78 : decode cX0_letDecide 78 = .ok (.getfield 20, 3) := by decide +kernel
theorem dX0_letDecide_81 : decode cX0_letDecide 81 = .ok (.iload_n 2, 1) := by decide +kernel
theorem dX0_letDecide_82 : decode cX0_letDecide 82 = .ok (.aload_n 1, 1) := by decide +kernel
theorem dX0_letDecide_83 : decode cX0_letDecide 83 = .ok (.aastore, 1) := by decide +kernel
theorem dX0_letDecide_84 : decode cX0_letDecide 84 = .ok (.iinc 2 1, 3) := by decide +kernel
theorem dX0_letDecide_87 : decode cX0_letDecide 87 = .ok (.goto (-85), 3) := by decide +kernel
theorem dX0_letDecide_90 : decode cX0_letDecide 90 = .ok (.return_, 1) := by decide +kernel
theorem dX0_findOne_0 : decode cX0_findOne 0 = .ok (.iload_n 2, 1) := by decide +kernel
theorem dX0_findOne_1 : decode cX0_findOne 1 = .ok (.ifCond .lt 21, 3) := by decide +kernel
theorem dX0_findOne_4 : decode cX0_findOne 4 = .ok (.iload_n 2, 1) := by decide +kernel
theorem dX0_findOne_5 : decode cX0_findOne 5 = .ok (.aload_n 0, 1) := by decide +kernel
theorem dX0_findOne_6 : decode cX0_findOne 6 = .ok (.getfield 20, 3) := by decide +kernel
theorem dX0_findOne_9 : decode cX0_findOne 9 = .ok (.arraylength, 1) := by decide +kernel
theorem dX0_findOne_10 : decode cX0_findOne 10 = .ok (.if_icmp .ge 12, 3) := by decide +kernel
theorem dX0_findOne_13 : decode cX0_findOne 13 = .ok (.aload_n 0, 1) := by decide +kernel
theorem dX0_findOne_14 : decode cX0_findOne 14 = .ok (.getfield 20, 3) := by decide +kernel
theorem dX0_findOne_17 : decode cX0_findOne 17 = .ok (.iload_n 2, 1) := by decide +kernel
theorem dX0_findOne_18 : decode cX0_findOne 18 = .ok (.aaload, 1) := by decide +kernel
theorem dX0_findOne_19 : decode cX0_findOne 19 = .ok (.goto 4, 3) := by decide +kernel
theorem dX0_findOne_22 : decode cX0_findOne 22 = .ok (.aconst_null, 1) := by decide +kernel
theorem dX0_findOne_23 : decode cX0_findOne 23 = .ok (.astore_n 3, 1) := by decide +kernel
theorem dX0_findOne_24 : decode cX0_findOne 24 = .ok (.aload_n 3, 1) := by decide +kernel
theorem dX0_findOne_25 : decode cX0_findOne 25 = .ok (.ifnonnull 7, 3) := by decide +kernel
theorem dX0_findOne_28 : decode cX0_findOne 28 = .ok (.aconst_null, 1) := by decide +kernel
theorem dX0_findOne_29 : decode cX0_findOne 29 = .ok (.goto 8, 3) := by decide +kernel
theorem dX0_findOne_32 : decode cX0_findOne 32 = .ok (.aload_n 3, 1) := by decide +kernel
theorem dX0_findOne_33 : decode cX0_findOne 33 = .ok (.iload_n 2, 1) := by decide +kernel
theorem dX0_findOne_34 : decode cX0_findOne 34 = .ok (.invokevirtual 71, 3) := by decide +kernel
theorem dX0_findOne_37 : decode cX0_findOne 37 = .ok (.astore 4, 2) := by decide +kernel
theorem dX0_findOne_39 : decode cX0_findOne 39 = .ok (.iload_n 2, 1) := by decide +kernel
theorem dX0_findOne_40 : decode cX0_findOne 40 = .ok (.invokestatic 99, 3) := by decide +kernel
theorem dX0_findOne_43 : decode cX0_findOne 43 = .ok (.istore 5, 2) := by decide +kernel
theorem dX0_findOne_45 : decode cX0_findOne 45 = .ok (.aload_n 3, 1) := by decide +kernel
theorem dX0_findOne_46 : decode cX0_findOne 46 = .ok (.ifnull 106, 3) := by decide +kernel
theorem dX0_findOne_49 : decode cX0_findOne 49 = .ok (.aload 4, 2) := by decide +kernel
theorem dX0_findOne_51 : decode cX0_findOne 51 = .ok (.ifnull 101, 3) := by decide +kernel
theorem dX0_findOne_54 : decode cX0_findOne 54 = .ok (.aload 4, 2) := by decide +kernel
theorem dX0_findOne_56 : decode cX0_findOne 56 = .ok (.getfield 75, 3) := by decide +kernel
theorem dX0_findOne_59 : decode cX0_findOne 59 = .ok (.iconst 4, 1) := by decide +kernel
theorem dX0_findOne_60 : decode cX0_findOne 60 = .ok (.if_icmp .ne 21, 3) := by decide +kernel
theorem dX0_findOne_63 : decode cX0_findOne 63 = .ok (.aload_n 1, 1) := by decide +kernel
theorem dX0_findOne_64 : decode cX0_findOne 64 = .ok (.getfield 59, 3) := by decide +kernel
theorem dX0_findOne_67 : decode cX0_findOne 67 = .ok (.iload_n 2, 1) := by decide +kernel
theorem dX0_findOne_68 : decode cX0_findOne 68 = .ok (.aload 4, 2) := by decide +kernel
theorem dX0_findOne_70 : decode cX0_findOne 70 = .ok (.getfield 104, 3) := by decide +kernel
theorem dX0_findOne_73 : decode cX0_findOne 73 = .ok (.aload_n 3, 1) := by decide +kernel
theorem dX0_findOne_74 : decode cX0_findOne 74 = .ok (.getfield 107, 3) := by decide +kernel
theorem dX0_findOne_77 : decode cX0_findOne 77 = .ok (.invokevirtual 65, 3) := by decide +kernel
theorem dX0_findOne_80 : decode cX0_findOne 80 = .ok (.return_, 1) := by decide +kernel
theorem dX0_findOne_81 : decode cX0_findOne 81 = .ok (.aload 4, 2) := by decide +kernel
theorem dX0_findOne_83 : decode cX0_findOne 83 = .ok (.getfield 75, 3) := by decide +kernel
theorem dX0_findOne_86 : decode cX0_findOne 86 = .ok (.iconst 5, 1) := by decide +kernel
theorem dX0_findOne_87 : decode cX0_findOne 87 = .ok (.if_icmp .ne 36, 3) := by decide +kernel
theorem dX0_findOne_90 : decode cX0_findOne 90 = .ok (.aload 4, 2) := by decide +kernel
theorem dX0_findOne_92 : decode cX0_findOne 92 = .ok (.iload_n 2, 1) := by decide +kernel
theorem dX0_findOne_93 : decode cX0_findOne 93 = .ok (.aload_n 1, 1) := by decide +kernel
theorem dX0_findOne_94 : decode cX0_findOne 94 = .ok (.getfield 59, 3) := by decide +kernel
theorem dX0_findOne_97 : decode cX0_findOne 97 = .ok (.invokevirtual 108, 3) := by decide +kernel
theorem dX0_findOne_100 : decode cX0_findOne 100 = .ok (.istore 6, 2) := by decide +kernel
theorem dX0_findOne_102 : decode cX0_findOne 102 = .ok (.iload 6, 2) := by decide +kernel
theorem dX0_findOne_104 : decode cX0_findOne 104 = .ok (.iconst (-1), 1) := by decide +kernel
theorem dX0_findOne_105 : decode cX0_findOne 105 = .ok (.if_icmp .eq 18, 3) := by decide +kernel
theorem dX0_findOne_108 : decode cX0_findOne 108 = .ok (.aload_n 1, 1) := by decide +kernel
theorem dX0_findOne_109 : decode cX0_findOne 109 = .ok (.getfield 59, 3) := by decide +kernel
theorem dX0_findOne_112 : decode cX0_findOne 112 = .ok (.iload_n 2, 1) := by decide +kernel
theorem dX0_findOne_113 : decode cX0_findOne 113 = .ok (.iload 6, 2) := by decide +kernel
theorem dX0_findOne_115 : decode cX0_findOne 115 = .ok (.aload_n 3, 1) := by decide +kernel
theorem dX0_findOne_116 : decode cX0_findOne 116 = .ok (.getfield 107, 3) := by decide +kernel
theorem dX0_findOne_119 : decode cX0_findOne 119 = .ok (.invokevirtual 65, 3) := by decide +kernel
theorem dX0_findOne_122 : decode cX0_findOne 122 = .ok (.return_, 1) := by decide +kernel
theorem dX0_findOne_123 : decode cX0_findOne 123 = .ok (.aload 4, 2) := by decide +kernel
theorem dX0_findOne_125 : decode cX0_findOne 125 = .ok (.getfield 75, 3) := by decide +kernel
theorem dX0_findOne_128 : decode cX0_findOne 128 = .ok (.ifCond .eq 17, 3) := by decide +kernel
theorem dX0_findOne_131 : decode cX0_findOne 131 = .ok (.iload 5, 2) := by decide +kernel
theorem dX0_findOne_133 : decode cX0_findOne 133 = .ok (.ifCond .eq 16, 3) := by decide +kernel
theorem dX0_findOne_136 : decode cX0_findOne 136 = .ok (.aload 4, 2) := by decide +kernel
theorem dX0_findOne_138 : decode cX0_findOne 138 = .ok (.getfield 75, 3) := by decide +kernel
theorem dX0_findOne_141 : decode cX0_findOne 141 = .ok (.iconst 1, 1) := by decide +kernel
theorem dX0_findOne_142 : decode cX0_findOne 142 = .ok (.if_icmp .eq 7, 3) := by decide +kernel
theorem dX0_findOne_145 : decode cX0_findOne 145 = .ok (.iconst 1, 1) := by decide +kernel
theorem dX0_findOne_146 : decode cX0_findOne 146 = .ok (.goto 4, 3) := by decide +kernel
theorem dX0_findOne_149 : decode cX0_findOne 149 = .ok (.iconst 0, 1) := by decide +kernel
theorem dX0_findOne_150 : decode cX0_findOne 150 = .ok (.istore 5, 2) := by decide +kernel
theorem dX0_findOne_152 : decode cX0_findOne 152 = .ok (.iload 5, 2) := by decide +kernel
theorem dX0_findOne_154 : decode cX0_findOne 154 = .ok (.ifCond .eq 42, 3) := by decide +kernel
theorem dX0_findOne_157 : decode cX0_findOne 157 = .ok (.aload_n 1, 1) := by decide +kernel
theorem dX0_findOne_158 : decode cX0_findOne 158 = .ok (.getfield 112, 3) := by decide +kernel
theorem dX0_findOne_161 : decode cX0_findOne 161 = .ok (.ifnull 35, 3) := by decide +kernel
theorem dX0_findOne_164 : decode cX0_findOne 164 = .ok (.aload_n 1, 1) := by decide +kernel
theorem dX0_findOne_165 : decode cX0_findOne 165 = .ok (.getfield 112, 3) := by decide +kernel
theorem dX0_findOne_168 : decode cX0_findOne 168 = .ok (.getfield 59, 3) := by decide +kernel
theorem dX0_findOne_171 : decode cX0_findOne 171 = .ok (.astore 6, 2) := by decide +kernel
theorem dX0_findOne_173 : decode cX0_findOne 173 = .ok (.aload_n 1, 1) := by decide +kernel
theorem dX0_findOne_174 : decode cX0_findOne 174 = .ok (.getfield 59, 3) := by decide +kernel
theorem dX0_findOne_177 : decode cX0_findOne 177 = .ok (.iload_n 2, 1) := by decide +kernel
theorem dX0_findOne_178 : decode cX0_findOne 178 = .ok (.aload 6, 2) := by decide +kernel
theorem dX0_findOne_180 : decode cX0_findOne 180 = .ok (.iload_n 2, 1) := by decide +kernel
theorem dX0_findOne_181 : decode cX0_findOne 181 = .ok (.invokevirtual 116, 3) := by decide +kernel
theorem dX0_findOne_184 : decode cX0_findOne 184 = .ok (.aload 6, 2) := by decide +kernel
theorem dX0_findOne_186 : decode cX0_findOne 186 = .ok (.iload_n 2, 1) := by decide +kernel
theorem dX0_findOne_187 : decode cX0_findOne 187 = .ok (.invokevirtual 120, 3) := by decide +kernel
theorem dX0_findOne_190 : decode cX0_findOne 190 = .ok (.invokevirtual 65, 3) := by decide +kernel
theorem dX0_findOne_193 : decode cX0_findOne 193 = .ok (.goto 16, 3) := by decide +kernel
theorem dX0_findOne_196 : decode cX0_findOne 196 = .ok (.aload_n 1, 1) := by decide +kernel
theorem dX0_findOne_197 : decode cX0_findOne 197 = .ok (.getfield 59, 3) := by decide +kernel
theorem dX0_findOne_200 : decode cX0_findOne 200 = .ok (.iload_n 2, 1) := by decide +kernel
theorem dX0_findOne_201 : decode cX0_findOne 201 = .ok (.iload_n 2, 1) := by decide +kernel
theorem dX0_findOne_202 : decode cX0_findOne 202 = .ok (.invokestatic 123, 3) := by decide +kernel
theorem dX0_findOne_205 : decode cX0_findOne 205 = .ok (.iconst (-1), 1) := by decide +kernel
theorem dX0_findOne_206 : decode cX0_findOne 206 = .ok (.invokevirtual 65, 3) := by decide +kernel
theorem dX0_findOne_209 : decode cX0_findOne 209 = .ok (.return_, 1) := by decide +kernel
theorem dX1_init_0 : decode cX1_init 0 = .ok (.aload_n 0, 1) := by decide +kernel
theorem dX1_init_1 : decode cX1_init 1 = .ok (.invokespecial 3, 3) := by decide +kernel
theorem dX1_init_4 : decode cX1_init 4 = .ok (.aload_n 0, 1) := by decide +kernel
theorem dX1_init_5 : decode cX1_init 5 = .ok (.iload_n 1, 1) := by decide +kernel
theorem dX1_init_6 : decode cX1_init 6 = .ok (.putfield 9, 3) := by decide +kernel
theorem dX1_init_9 : decode cX1_init 9 = .ok (.aload_n 0, 1) := by decide +kernel
theorem dX1_init_10 : decode cX1_init 10 = .ok (.iload_n 2, 1) := by decide +kernel
theorem dX1_init_11 : decode cX1_init 11 = .ok (.putfield 15, 3) := by decide +kernel
theorem dX1_init_14 : decode cX1_init 14 = .ok (.aload_n 0, 1) := by decide +kernel
theorem dX1_init_15 : decode cX1_init 15 = .ok (.iload_n 3, 1) := by decide +kernel
theorem dX1_init_16 : decode cX1_init 16 = .ok (.putfield 18, 3) := by decide +kernel
theorem dX1_init_19 : decode cX1_init 19 = .ok (.return_, 1) := by decide +kernel
theorem dX1_numberByVariable_0 : decode cX1_numberByVariable 0 = .ok (.aload_n 2, 1) := by decide +kernel
theorem dX1_numberByVariable_1 : decode cX1_numberByVariable 1 = .ok (.bipush 10, 2) := by decide +kernel
theorem dX1_numberByVariable_3 : decode cX1_numberByVariable 3 = .ok (.aload_n 0, 1) := by decide +kernel
theorem dX1_numberByVariable_4 : decode cX1_numberByVariable 4 = .ok (.getfield 18, 3) := by decide +kernel
theorem dX1_numberByVariable_7 : decode cX1_numberByVariable 7 = .ok (.iadd, 1) := by decide +kernel
theorem dX1_numberByVariable_8 : decode cX1_numberByVariable 8 = .ok (.invokevirtual 21, 3) := by decide +kernel
theorem dX1_numberByVariable_11 : decode cX1_numberByVariable 11 = .ok (.istore_n 3, 1) := by decide +kernel
theorem dX1_numberByVariable_12 : decode cX1_numberByVariable 12 = .ok (.iload_n 3, 1) := by decide +kernel
theorem dX1_numberByVariable_13 : decode cX1_numberByVariable 13 = .ok (.iconst (-1), 1) := by decide +kernel
theorem dX1_numberByVariable_14 : decode cX1_numberByVariable 14 = .ok (.if_icmp .eq 15, 3) := by decide +kernel
theorem dX1_numberByVariable_17 : decode cX1_numberByVariable 17 = .ok (.iload_n 1, 1) := by decide +kernel
theorem dX1_numberByVariable_18 : decode cX1_numberByVariable 18 = .ok (.iload_n 3, 1) := by decide +kernel
theorem dX1_numberByVariable_19 : decode cX1_numberByVariable 19 = .ok (.invokestatic 27, 3) := by decide +kernel
theorem dX1_numberByVariable_22 : decode cX1_numberByVariable 22 = .ok (.ifCond .eq 7, 3) := by decide +kernel
theorem dX1_numberByVariable_25 : decode cX1_numberByVariable 25 = .ok (.iload_n 3, 1) := by decide +kernel
theorem dX1_numberByVariable_26 : decode cX1_numberByVariable 26 = .ok (.goto 7, 3) := by decide +kernel
theorem dX1_numberByVariable_29 : decode cX1_numberByVariable 29 = .ok (.aload_n 0, 1) := by decide +kernel
theorem dX1_numberByVariable_30 : decode cX1_numberByVariable 30 = .ok (.getfield 15, 3) := by decide +kernel
theorem dX1_numberByVariable_33 : decode cX1_numberByVariable 33 = .ok (.ireturn, 1) := by decide +kernel
theorem dX2_init_0 : decode cX2_init 0 = .ok (.aload_n 0, 1) := by decide +kernel
theorem dX2_init_1 : decode cX2_init 1 = .ok (.invokespecial 3, 3) := by decide +kernel
theorem dX2_init_4 : decode cX2_init 4 = .ok (.aload_n 0, 1) := by decide +kernel
theorem dX2_init_5 : decode cX2_init 5 = .ok (.new 9, 3) := by decide +kernel
theorem dX2_init_8 : decode cX2_init 8 = .ok (.dup, 1) := by decide +kernel
theorem dX2_init_9 : decode cX2_init 9 = .ok (.invokespecial 11, 3) := by decide +kernel
theorem dX2_init_12 : decode cX2_init 12 = .ok (.putfield 12, 3) := by decide +kernel
theorem dX2_init_15 : decode cX2_init 15 = .ok (.aload_n 0, 1) := by decide +kernel
theorem dX2_init_16 : decode cX2_init 16 = .ok (.new 9, 3) := by decide +kernel
theorem dX2_init_19 : decode cX2_init 19 = .ok (.dup, 1) := by decide +kernel
theorem dX2_init_20 : decode cX2_init 20 = .ok (.invokespecial 11, 3) := by decide +kernel
theorem dX2_init_23 : decode cX2_init 23 = .ok (.putfield 18, 3) := by decide +kernel
theorem dX2_init_26 : decode cX2_init 26 = .ok (.return_, 1) := by decide +kernel
theorem dX2_begin_0 : decode cX2_begin 0 = .ok (.aload_n 0, 1) := by decide +kernel
theorem dX2_begin_1 : decode cX2_begin 1 = .ok (.iload_n 1, 1) := by decide +kernel
theorem dX2_begin_2 : decode cX2_begin 2 = .ok (.putfield 21, 3) := by decide +kernel
theorem dX2_begin_5 : decode cX2_begin 5 = .ok (.aload_n 0, 1) := by decide +kernel
theorem dX2_begin_6 : decode cX2_begin 6 = .ok (.iload_n 2, 1) := by decide +kernel
theorem dX2_begin_7 : decode cX2_begin 7 = .ok (.putfield 25, 3) := by decide +kernel
theorem dX2_begin_10 : decode cX2_begin 10 = .ok (.aload_n 0, 1) := by decide +kernel
theorem dX2_begin_11 : decode cX2_begin 11 = .ok (.iload_n 3, 1) := by decide +kernel
theorem dX2_begin_12 : decode cX2_begin 12 = .ok (.putfield 28, 3) := by decide +kernel
theorem dX2_begin_15 : decode cX2_begin 15 = .ok (.aload_n 0, 1) := by decide +kernel
theorem dX2_begin_16 : decode cX2_begin 16 = .ok (.iconst 0, 1) := by decide +kernel
theorem dX2_begin_17 : decode cX2_begin 17 = .ok (.putfield 31, 3) := by decide +kernel
theorem dX2_begin_20 : decode cX2_begin 20 = .ok (.aload_n 0, 1) := by decide +kernel
theorem dX2_begin_21 : decode cX2_begin 21 = .ok (.iconst 0, 1) := by decide +kernel
theorem dX2_begin_22 : decode cX2_begin 22 = .ok (.putfield 34, 3) := by decide +kernel
theorem dX2_begin_25 : decode cX2_begin 25 = .ok (.aload_n 0, 1) := by decide +kernel
theorem dX2_begin_26 : decode cX2_begin 26 = .ok (.aconst_null, 1) := by decide +kernel
theorem dX2_begin_27 : decode cX2_begin 27 = .ok (.putfield 38, 3) := by decide +kernel
theorem dX2_begin_30 : decode cX2_begin 30 = .ok (.aload_n 0, 1) := by decide +kernel
theorem dX2_begin_31 : decode cX2_begin 31 = .ok (.aconst_null, 1) := by decide +kernel
theorem dX2_begin_32 : decode cX2_begin 32 = .ok (.putfield 42, 3) := by decide +kernel
theorem dX2_begin_35 : decode cX2_begin 35 = .ok (.aload_n 0, 1) := by decide +kernel
theorem dX2_begin_36 : decode cX2_begin 36 = .ok (.aconst_null, 1) := by decide +kernel
theorem dX2_begin_37 : decode cX2_begin 37 = .ok (.putfield 45, 3) := by decide +kernel
theorem dX2_begin_40 : decode cX2_begin 40 = .ok (.aload_n 0, 1) := by decide +kernel
theorem dX2_begin_41 : decode cX2_begin 41 = .ok (.aconst_null, 1) := by decide +kernel
theorem dX2_begin_42 : decode cX2_begin 42 = .ok (.putfield 48, 3) := by decide +kernel
theorem dX2_begin_45 : decode cX2_begin 45 = .ok (.aload_n 0, 1) := by decide +kernel
theorem dX2_begin_46 : decode cX2_begin 46 = .ok (.aconst_null, 1) := by decide +kernel
theorem dX2_begin_47 : decode cX2_begin 47 = .ok (.putfield 51, 3) := by decide +kernel
theorem dX2_begin_50 : decode cX2_begin 50 = .ok (.aload_n 0, 1) := by decide +kernel
theorem dX2_begin_51 : decode cX2_begin 51 = .ok (.getfield 12, 3) := by decide +kernel
theorem dX2_begin_54 : decode cX2_begin 54 = .ok (.iconst 0, 1) := by decide +kernel
theorem dX2_begin_55 : decode cX2_begin 55 = .ok (.putfield 54, 3) := by decide +kernel
theorem dX2_begin_58 : decode cX2_begin 58 = .ok (.return_, 1) := by decide +kernel
theorem dX2_takeFresh_0 : decode cX2_takeFresh 0 = .ok (.aload_n 0, 1) := by decide +kernel
theorem dX2_takeFresh_1 : decode cX2_takeFresh 1 = .ok (.getfield 12, 3) := by decide +kernel
theorem dX2_takeFresh_4 : decode cX2_takeFresh 4 = .ok (.astore_n 1, 1) := by decide +kernel
theorem dX2_takeFresh_5 : decode cX2_takeFresh 5 = .ok (.aload_n 0, 1) := by decide +kernel
theorem dX2_takeFresh_6 : decode cX2_takeFresh 6 = .ok (.aload_n 0, 1) := by decide +kernel
theorem dX2_takeFresh_7 : decode cX2_takeFresh 7 = .ok (.getfield 18, 3) := by decide +kernel
theorem dX2_takeFresh_10 : decode cX2_takeFresh 10 = .ok (.putfield 12, 3) := by decide +kernel
theorem dX2_takeFresh_13 : decode cX2_takeFresh 13 = .ok (.aload_n 0, 1) := by decide +kernel
theorem dX2_takeFresh_14 : decode cX2_takeFresh 14 = .ok (.aload_n 1, 1) := by decide +kernel
theorem dX2_takeFresh_15 : decode cX2_takeFresh 15 = .ok (.putfield 18, 3) := by decide +kernel
theorem dX2_takeFresh_18 : decode cX2_takeFresh 18 = .ok (.aload_n 0, 1) := by decide +kernel
theorem dX2_takeFresh_19 : decode cX2_takeFresh 19 = .ok (.getfield 12, 3) := by decide +kernel
theorem dX2_takeFresh_22 : decode cX2_takeFresh 22 = .ok (.iconst 1, 1) := by decide +kernel
theorem dX2_takeFresh_23 : decode cX2_takeFresh 23 = .ok (.putfield 54, 3) := by decide +kernel
theorem dX2_takeFresh_26 : decode cX2_takeFresh 26 = .ok (.aload_n 1, 1) := by decide +kernel
theorem dX2_takeFresh_27 : decode cX2_takeFresh 27 = .ok (.getfield 54, 3) := by decide +kernel
theorem dX2_takeFresh_30 : decode cX2_takeFresh 30 = .ok (.ifCond .eq 14, 3) := by decide +kernel
theorem dX2_takeFresh_33 : decode cX2_takeFresh 33 = .ok (.aload_n 1, 1) := by decide +kernel
theorem dX2_takeFresh_34 : decode cX2_takeFresh 34 = .ok (.aload_n 0, 1) := by decide +kernel
theorem dX2_takeFresh_35 : decode cX2_takeFresh 35 = .ok (.getfield 12, 3) := by decide +kernel
theorem dX2_takeFresh_38 : decode cX2_takeFresh 38 = .ok (.invokevirtual 57, 3) := by decide +kernel
theorem dX2_takeFresh_41 : decode cX2_takeFresh 41 = .ok (.ifCond .ne 7, 3) := by decide +kernel
theorem dX2_takeFresh_44 : decode cX2_takeFresh 44 = .ok (.iconst 1, 1) := by decide +kernel
theorem dX2_takeFresh_45 : decode cX2_takeFresh 45 = .ok (.goto 4, 3) := by decide +kernel
theorem dX2_takeFresh_48 : decode cX2_takeFresh 48 = .ok (.iconst 0, 1) := by decide +kernel
theorem dX2_takeFresh_49 : decode cX2_takeFresh 49 = .ok (.ireturn, 1) := by decide +kernel
theorem dX2_isWithin_0 : decode cX2_isWithin 0 = .ok (.aload_n 0, 1) := by decide +kernel
theorem dX2_isWithin_1 : decode cX2_isWithin 1 = .ok (.astore_n 2, 1) := by decide +kernel
theorem dX2_isWithin_2 : decode cX2_isWithin 2 = .ok (.aload_n 2, 1) := by decide +kernel
theorem dX2_isWithin_3 : decode cX2_isWithin 3 = .ok (.ifnull 18, 3) := by decide +kernel
theorem dX2_isWithin_6 : decode cX2_isWithin 6 = .ok (.aload_n 2, 1) := by decide +kernel
theorem dX2_isWithin_7 : decode cX2_isWithin 7 = .ok (.aload_n 1, 1) := by decide +kernel
theorem dX2_isWithin_8 : decode cX2_isWithin 8 = .ok (.if_acmp .ne 5, 3) := by decide +kernel
theorem dX2_isWithin_11 : decode cX2_isWithin 11 = .ok (.iconst 1, 1) := by decide +kernel
theorem dX2_isWithin_12 : decode cX2_isWithin 12 = .ok (.ireturn, 1) := by decide +kernel
theorem dX2_isWithin_13 : decode cX2_isWithin 13 = .ok (.aload_n 2, 1) := by decide +kernel
theorem dX2_isWithin_14 : decode cX2_isWithin 14 = .ok (.getfield 38, 3) := by decide +kernel
theorem dX2_isWithin_17 : decode cX2_isWithin 17 = .ok (.astore_n 2, 1) := by decide +kernel
theorem dX2_isWithin_18 : decode cX2_isWithin 18 = .ok (.goto (-16), 3) := by decide +kernel
theorem dX2_isWithin_21 : decode cX2_isWithin 21 = .ok (.iconst 0, 1) := by decide +kernel
theorem dX2_isWithin_22 : decode cX2_isWithin 22 = .ok (.ireturn, 1) := by decide +kernel
theorem dX2_widthAround_0 : decode cX2_widthAround 0 = .ok (.aload_n 0, 1) := by decide +kernel
theorem dX2_widthAround_1 : decode cX2_widthAround 1 = .ok (.getfield 38, 3) := by decide +kernel
theorem dX2_widthAround_4 : decode cX2_widthAround 4 = .ok (.astore_n 1, 1) := by decide +kernel
theorem dX2_widthAround_5 : decode cX2_widthAround 5 = .ok (.aload_n 1, 1) := by decide +kernel
theorem dX2_widthAround_6 : decode cX2_widthAround 6 = .ok (.ifnull 26, 3) := by decide +kernel
theorem dX2_widthAround_9 : decode cX2_widthAround 9 = .ok (.aload_n 1, 1) := by decide +kernel
theorem dX2_widthAround_10 : decode cX2_widthAround 10 = .ok (.getfield 34, 3) := by decide +kernel
theorem dX2_widthAround_13 : decode cX2_widthAround 13 = .ok (.ifCond .eq 11, 3) := by decide +kernel
theorem dX2_widthAround_16 : decode cX2_widthAround 16 = .ok (.aload_n 1, 1) := by decide +kernel
theorem dX2_widthAround_17 : decode cX2_widthAround 17 = .ok (.getfield 18, 3) := by decide +kernel
theorem dX2_widthAround_20 : decode cX2_widthAround 20 = .ok (.getfield 61, 3) := by decide +kernel
theorem dX2_widthAround_23 : decode cX2_widthAround 23 = .ok (.ireturn, 1) := by decide +kernel
theorem dX2_widthAround_24 : decode cX2_widthAround 24 = .ok (.aload_n 1, 1) := by decide +kernel
theorem dX2_widthAround_25 : decode cX2_widthAround 25 = .ok (.getfield 38, 3) := by decide +kernel
theorem dX2_widthAround_28 : decode cX2_widthAround 28 = .ok (.astore_n 1, 1) := by decide +kernel
theorem dX2_widthAround_29 : decode cX2_widthAround 29 = .ok (.goto (-24), 3) := by decide +kernel
theorem dX2_widthAround_32 : decode cX2_widthAround 32 = .ok (.iconst (-1), 1) := by decide +kernel
theorem dX2_widthAround_33 : decode cX2_widthAround 33 = .ok (.ireturn, 1) := by decide +kernel
theorem dX3_measureRoot_0 : decode cX3_measureRoot 0 = .ok (.aload_n 0, 1) := by decide +kernel
theorem dX3_measureRoot_1 : decode cX3_measureRoot 1 = .ok (.aload_n 0, 1) := by decide +kernel
theorem dX3_measureRoot_2 : decode cX3_measureRoot 2 = .ok (.iconst 5, 1) := by decide +kernel
theorem dX3_measureRoot_3 : decode cX3_measureRoot 3 = .ok (.invokevirtual 9, 3) := by decide +kernel
theorem dX3_measureRoot_6 : decode cX3_measureRoot 6 = .ok (.iconst 3, 1) := by decide +kernel
theorem dX3_measureRoot_7 : decode cX3_measureRoot 7 = .ok (.if_icmp .eq 7, 3) := by decide +kernel
theorem dX3_measureRoot_10 : decode cX3_measureRoot 10 = .ok (.iconst 1, 1) := by decide +kernel
theorem dX3_measureRoot_11 : decode cX3_measureRoot 11 = .ok (.goto 4, 3) := by decide +kernel
theorem dX3_measureRoot_14 : decode cX3_measureRoot 14 = .ok (.iconst 0, 1) := by decide +kernel
theorem dX3_measureRoot_15 : decode cX3_measureRoot 15 = .ok (.invokevirtual 15, 3) := by decide +kernel
theorem dX3_measureRoot_18 : decode cX3_measureRoot 18 = .ok (.aload_n 0, 1) := by decide +kernel
theorem dX3_measureRoot_19 : decode cX3_measureRoot 19 = .ok (.getfield 19, 3) := by decide +kernel
theorem dX3_measureRoot_22 : decode cX3_measureRoot 22 = .ok (.ifCond .eq 12, 3) := by decide +kernel
theorem dX3_measureRoot_25 : decode cX3_measureRoot 25 = .ok (.aload_n 0, 1) := by decide +kernel
theorem dX3_measureRoot_26 : decode cX3_measureRoot 26 = .ok (.aload_n 0, 1) := by decide +kernel
theorem dX3_measureRoot_27 : decode cX3_measureRoot 27 = .ok (.iload_n 1, 1) := by decide +kernel
theorem dX3_measureRoot_28 : decode cX3_measureRoot 28 = .ok (.invokestatic 23, 3) := by decide +kernel
theorem dX3_measureRoot_31 : decode cX3_measureRoot 31 = .ok (.putfield 29, 3) := by decide +kernel
theorem dX3_measureRoot_34 : decode cX3_measureRoot 34 = .ok (.return_, 1) := by decide +kernel
theorem dX3_ownWidth_0 : decode cX3_ownWidth 0 = .ok (.aload_n 0, 1) := by decide +kernel
theorem dX3_ownWidth_1 : decode cX3_ownWidth 1 = .ok (.iconst 0, 1) := by decide +kernel
theorem dX3_ownWidth_2 : decode cX3_ownWidth 2 = .ok (.invokevirtual 9, 3) := by decide +kernel
theorem dX3_ownWidth_5 : decode cX3_ownWidth 5 = .ok (.istore_n 2, 1) := by decide +kernel
theorem dX3_ownWidth_6 : decode cX3_ownWidth 6 = .ok (.aload_n 0, 1) := by decide +kernel
theorem dX3_ownWidth_7 : decode cX3_ownWidth 7 = .ok (.iload_n 2, 1) := by decide +kernel
theorem dX3_ownWidth_8 : decode cX3_ownWidth 8 = .ok (.bipush (-2), 2) := by decide +kernel
theorem dX3_ownWidth_10 : decode cX3_ownWidth 10 = .ok (.if_icmp .ne 7, 3) := by decide +kernel
theorem dX3_ownWidth_13 : decode cX3_ownWidth 13 = .ok (.iload_n 1, 1) := by decide +kernel
theorem dX3_ownWidth_14 : decode cX3_ownWidth 14 = .ok (.goto 4, 3) := by decide +kernel
theorem dX3_ownWidth_17 : decode cX3_ownWidth 17 = .ok (.iload_n 2, 1) := by decide +kernel
theorem dX3_ownWidth_18 : decode cX3_ownWidth 18 = .ok (.invokevirtual 33, 3) := by decide +kernel
theorem dX3_ownWidth_21 : decode cX3_ownWidth 21 = .ok (.ireturn, 1) := by decide +kernel
theorem dX3_measureChildren_0 : decode cX3_measureChildren 0 = .ok (.aload_n 0, 1) := by decide +kernel
theorem dX3_measureChildren_1 : decode cX3_measureChildren 1 = .ok (.getfield 36, 3) := by decide +kernel
theorem dX3_measureChildren_4 : decode cX3_measureChildren 4 = .ok (.astore_n 1, 1) := by decide +kernel
theorem dX3_measureChildren_5 : decode cX3_measureChildren 5 = .ok (.aload_n 0, 1) := by decide +kernel
theorem dX3_measureChildren_6 : decode cX3_measureChildren 6 = .ok (.getfield 42, 3) := by decide +kernel
theorem dX3_measureChildren_9 : decode cX3_measureChildren 9 = .ok (.astore_n 2, 1) := by decide +kernel
theorem dX3_measureChildren_10 : decode cX3_measureChildren 10 = .ok (.aload_n 2, 1) := by decide +kernel
theorem dX3_measureChildren_11 : decode cX3_measureChildren 11 = .ok (.ifnull 42, 3) := by decide +kernel
theorem dX3_measureChildren_14 : decode cX3_measureChildren 14 = .ok (.aload_n 2, 1) := by decide +kernel
theorem dX3_measureChildren_15 : decode cX3_measureChildren 15 = .ok (.getfield 36, 3) := by decide +kernel
theorem dX3_measureChildren_18 : decode cX3_measureChildren 18 = .ok (.aload_n 1, 1) := by decide +kernel
theorem dX3_measureChildren_19 : decode cX3_measureChildren 19 = .ok (.getfield 19, 3) := by decide +kernel
theorem dX3_measureChildren_22 : decode cX3_measureChildren 22 = .ok (.ifCond .eq 19, 3) := by decide +kernel
theorem dX3_measureChildren_25 : decode cX3_measureChildren 25 = .ok (.aload_n 2, 1) := by decide +kernel
theorem dX3_measureChildren_26 : decode cX3_measureChildren 26 = .ok (.getfield 36, 3) := by decide +kernel
theorem dX3_measureChildren_29 : decode cX3_measureChildren 29 = .ok (.iconst 5, 1) := by decide +kernel
theorem dX3_measureChildren_30 : decode cX3_measureChildren 30 = .ok (.invokevirtual 9, 3) := by decide +kernel
theorem dX3_measureChildren_33 : decode cX3_measureChildren 33 = .ok (.iconst 3, 1) := by decide +kernel
theorem dX3_measureChildren_34 : decode cX3_measureChildren 34 = .ok (.if_icmp .eq 7, 3) := by decide +kernel
theorem dX3_measureChildren_37 : decode cX3_measureChildren 37 = .ok (.iconst 1, 1) := by decide +kernel
theorem dX3_measureChildren_38 : decode cX3_measureChildren 38 = .ok (.goto 4, 3) := by decide +kernel
theorem dX3_measureChildren_41 : decode cX3_measureChildren 41 = .ok (.iconst 0, 1) := by decide +kernel
theorem dX3_measureChildren_42 : decode cX3_measureChildren 42 = .ok (.invokevirtual 15, 3) := by decide +kernel
theorem dX3_measureChildren_45 : decode cX3_measureChildren 45 = .ok (.aload_n 2, 1) := by decide +kernel
theorem dX3_measureChildren_46 : decode cX3_measureChildren 46 = .ok (.getfield 46, 3) := by decide +kernel
theorem dX3_measureChildren_49 : decode cX3_measureChildren 49 = .ok (.astore_n 2, 1) := by decide +kernel
theorem dX3_measureChildren_50 : decode cX3_measureChildren 50 = .ok (.goto (-40), 3) := by decide +kernel
theorem dX3_measureChildren_53 : decode cX3_measureChildren 53 = .ok (.aload_n 1, 1) := by decide +kernel
theorem dX3_measureChildren_54 : decode cX3_measureChildren 54 = .ok (.getfield 19, 3) := by decide +kernel
theorem dX3_measureChildren_57 : decode cX3_measureChildren 57 = .ok (.ifCond .eq 53, 3) := by decide +kernel
theorem dX3_measureChildren_60 : decode cX3_measureChildren 60 = .ok (.aload_n 1, 1) := by decide +kernel
theorem dX3_measureChildren_61 : decode cX3_measureChildren 61 = .ok (.iconst 5, 1) := by decide +kernel
theorem dX3_measureChildren_62 : decode cX3_measureChildren 62 = .ok (.invokevirtual 9, 3) := by decide +kernel
theorem dX3_measureChildren_65 : decode cX3_measureChildren 65 = .ok (.lookupswitch 41 #[(1, 27), (2, 34)], 27) := by decide +kernel
theorem dX3_measureChildren_92 : decode cX3_measureChildren 92 = .ok (.aload_n 0, 1) := by decide +kernel
theorem dX3_measureChildren_93 : decode cX3_measureChildren 93 = .ok (.invokestatic 49, 3) := by decide +kernel
theorem dX3_measureChildren_96 : decode cX3_measureChildren 96 = .ok (.goto 14, 3) := by decide +kernel
theorem dX3_measureChildren_99 : decode cX3_measureChildren 99 = .ok (.aload_n 0, 1) := by decide +kernel
theorem dX3_measureChildren_100 : decode cX3_measureChildren 100 = .ok (.invokestatic 53, 3) := by decide +kernel
theorem dX3_measureChildren_103 : decode cX3_measureChildren 103 = .ok (.goto 7, 3) := by decide +kernel
theorem dX3_measureChildren_106 : decode cX3_measureChildren 106 = .ok (.aload_n 0, 1) := by decide +kernel
theorem dX3_measureChildren_107 : decode cX3_measureChildren 107 = .ok (.invokestatic 56, 3) := by decide +kernel
theorem dX3_measureChildren_110 : decode cX3_measureChildren 110 = .ok (.return_, 1) := by decide +kernel
theorem dX3_measureBlock_0 : decode cX3_measureBlock 0 = .ok (.aload_n 0, 1) := by decide +kernel
theorem dX3_measureBlock_1 : decode cX3_measureBlock 1 = .ok (.getfield 42, 3) := by decide +kernel
theorem dX3_measureBlock_4 : decode cX3_measureBlock 4 = .ok (.astore_n 1, 1) := by decide +kernel
theorem dX3_measureBlock_5 : decode cX3_measureBlock 5 = .ok (.aload_n 1, 1) := by decide +kernel
theorem dX3_measureBlock_6 : decode cX3_measureBlock 6 = .ok (.ifnull 49, 3) := by decide +kernel
theorem dX3_measureBlock_9 : decode cX3_measureBlock 9 = .ok (.aload_n 1, 1) := by decide +kernel
theorem dX3_measureBlock_10 : decode cX3_measureBlock 10 = .ok (.getfield 36, 3) := by decide +kernel
theorem dX3_measureBlock_13 : decode cX3_measureBlock 13 = .ok (.astore_n 2, 1) := by decide +kernel
theorem dX3_measureBlock_14 : decode cX3_measureBlock 14 = .ok (.aload_n 2, 1) := by decide +kernel
theorem dX3_measureBlock_15 : decode cX3_measureBlock 15 = .ok (.getfield 19, 3) := by decide +kernel
theorem dX3_measureBlock_18 : decode cX3_measureBlock 18 = .ok (.ifCond .eq 29, 3) := by decide +kernel
theorem dX3_measureBlock_21 : decode cX3_measureBlock 21 = .ok (.aload_n 2, 1) := by decide +kernel
theorem dX3_measureBlock_22 : decode cX3_measureBlock 22 = .ok (.aload_n 2, 1) := by decide +kernel
theorem dX3_measureBlock_23 : decode cX3_measureBlock 23 = .ok (.aload_n 0, 1) := by decide +kernel
theorem dX3_measureBlock_24 : decode cX3_measureBlock 24 = .ok (.getfield 36, 3) := by decide +kernel
theorem dX3_measureBlock_27 : decode cX3_measureBlock 27 = .ok (.getfield 29, 3) := by decide +kernel
theorem dX3_measureBlock_30 : decode cX3_measureBlock 30 = .ok (.invokestatic 23, 3) := by decide +kernel
theorem dX3_measureBlock_33 : decode cX3_measureBlock 33 = .ok (.putfield 29, 3) := by decide +kernel
theorem dX3_measureBlock_36 : decode cX3_measureBlock 36 = .ok (.aload_n 2, 1) := by decide +kernel
theorem dX3_measureBlock_37 : decode cX3_measureBlock 37 = .ok (.aload_n 0, 1) := by decide +kernel
theorem dX3_measureBlock_38 : decode cX3_measureBlock 38 = .ok (.getfield 36, 3) := by decide +kernel
theorem dX3_measureBlock_41 : decode cX3_measureBlock 41 = .ok (.getfield 59, 3) := by decide +kernel
theorem dX3_measureBlock_44 : decode cX3_measureBlock 44 = .ok (.putfield 59, 3) := by decide +kernel
theorem dX3_measureBlock_47 : decode cX3_measureBlock 47 = .ok (.aload_n 1, 1) := by decide +kernel
theorem dX3_measureBlock_48 : decode cX3_measureBlock 48 = .ok (.getfield 46, 3) := by decide +kernel
theorem dX3_measureBlock_51 : decode cX3_measureBlock 51 = .ok (.astore_n 1, 1) := by decide +kernel
theorem dX3_measureBlock_52 : decode cX3_measureBlock 52 = .ok (.goto (-47), 3) := by decide +kernel
theorem dX3_measureBlock_55 : decode cX3_measureBlock 55 = .ok (.return_, 1) := by decide +kernel
theorem dX3_measureGrid_0 : decode cX3_measureGrid 0 = .ok (.aload_n 0, 1) := by decide +kernel
theorem dX3_measureGrid_1 : decode cX3_measureGrid 1 = .ok (.getfield 36, 3) := by decide +kernel
theorem dX3_measureGrid_4 : decode cX3_measureGrid 4 = .ok (.bipush 7, 2) := by decide +kernel
theorem dX3_measureGrid_6 : decode cX3_measureGrid 6 = .ok (.invokevirtual 9, 3) := by decide +kernel
theorem dX3_measureGrid_9 : decode cX3_measureGrid 9 = .ok (.istore_n 1, 1) := by decide +kernel
theorem dX3_measureGrid_10 : decode cX3_measureGrid 10 = .ok (.iload_n 1, 1) := by decide +kernel
theorem dX3_measureGrid_11 : decode cX3_measureGrid 11 = .ok (.iconst 1, 1) := by decide +kernel
theorem dX3_measureGrid_12 : decode cX3_measureGrid 12 = .ok (.if_icmp .ge 4, 3) := by decide +kernel
theorem dX3_measureGrid_15 : decode cX3_measureGrid 15 = .ok (.return_, 1) := by decide +kernel
theorem dX3_measureGrid_16 : decode cX3_measureGrid 16 = .ok (.aload_n 0, 1) := by decide +kernel
theorem dX3_measureGrid_17 : decode cX3_measureGrid 17 = .ok (.getfield 36, 3) := by decide +kernel
theorem dX3_measureGrid_20 : decode cX3_measureGrid 20 = .ok (.getfield 29, 3) := by decide +kernel
theorem dX3_measureGrid_23 : decode cX3_measureGrid 23 = .ok (.iload_n 1, 1) := by decide +kernel
theorem dX3_measureGrid_24 : decode cX3_measureGrid 24 = .ok (.idiv, 1) := by decide +kernel
theorem dX3_measureGrid_25 : decode cX3_measureGrid 25 = .ok (.istore_n 2, 1) := by decide +kernel
theorem dX3_measureGrid_26 : decode cX3_measureGrid 26 = .ok (.aload_n 0, 1) := by decide +kernel
theorem dX3_measureGrid_27 : decode cX3_measureGrid 27 = .ok (.getfield 36, 3) := by decide +kernel
theorem dX3_measureGrid_30 : decode cX3_measureGrid 30 = .ok (.getfield 29, 3) := by decide +kernel
theorem dX3_measureGrid_33 : decode cX3_measureGrid 33 = .ok (.iload_n 1, 1) := by decide +kernel
theorem dX3_measureGrid_34 : decode cX3_measureGrid 34 = .ok (.irem, 1) := by decide +kernel
theorem dX3_measureGrid_35 : decode cX3_measureGrid 35 = .ok (.istore_n 3, 1) := by decide +kernel
theorem dX3_measureGrid_36 : decode cX3_measureGrid 36 = .ok (.iconst 0, 1) := by decide +kernel
theorem dX3_measureGrid_37 : decode cX3_measureGrid 37 = .ok (.istore 4, 2) := by decide +kernel
theorem dX3_measureGrid_39 : decode cX3_measureGrid 39 = .ok (.aload_n 0, 1) := by decide +kernel
theorem dX3_measureGrid_40 : decode cX3_measureGrid 40 = .ok (.getfield 42, 3) := by decide +kernel
theorem dX3_measureGrid_43 : decode cX3_measureGrid 43 = .ok (.astore 5, 2) := by decide +kernel
theorem dX3_measureGrid_45 : decode cX3_measureGrid 45 = .ok (.aload 5, 2) := by decide +kernel
theorem dX3_measureGrid_47 : decode cX3_measureGrid 47 = .ok (.ifnull 88, 3) := by decide +kernel
theorem dX3_measureGrid_50 : decode cX3_measureGrid 50 = .ok (.aload 5, 2) := by decide +kernel
theorem dX3_measureGrid_52 : decode cX3_measureGrid 52 = .ok (.getfield 36, 3) := by decide +kernel
theorem dX3_measureGrid_55 : decode cX3_measureGrid 55 = .ok (.astore 6, 2) := by decide +kernel
theorem dX3_measureGrid_57 : decode cX3_measureGrid 57 = .ok (.aload 6, 2) := by decide +kernel
theorem dX3_measureGrid_59 : decode cX3_measureGrid 59 = .ok (.getfield 19, 3) := by decide +kernel
theorem dX3_measureGrid_62 : decode cX3_measureGrid 62 = .ok (.ifCond .eq 63, 3) := by decide +kernel
theorem dX3_measureGrid_65 : decode cX3_measureGrid 65 = .ok (.aload 6, 2) := by decide +kernel
theorem dX3_measureGrid_67 : decode cX3_measureGrid 67 = .ok (.iload 4, 2) := by decide +kernel
theorem dX3_measureGrid_69 : decode cX3_measureGrid 69 = .ok (.iload_n 3, 1) := by decide +kernel
theorem dX3_measureGrid_70 : decode cX3_measureGrid 70 = .ok (.if_icmp .ge 9, 3) := by decide +kernel
theorem dX3_measureGrid_73 : decode cX3_measureGrid 73 = .ok (.iload_n 2, 1) := by decide +kernel
theorem dX3_measureGrid_74 : decode cX3_measureGrid 74 = .ok (.iconst 1, 1) := by decide +kernel
theorem dX3_measureGrid_75 : decode cX3_measureGrid 75 = .ok (.iadd, 1) := by decide +kernel
theorem dX3_measureGrid_76 : decode cX3_measureGrid 76 = .ok (.goto 4, 3) := by decide +kernel
theorem dX3_measureGrid_79 : decode cX3_measureGrid 79 = .ok (.iload_n 2, 1) := by decide +kernel
theorem dX3_measureGrid_80 : decode cX3_measureGrid 80 = .ok (.putfield 29, 3) := by decide +kernel
theorem dX3_measureGrid_83 : decode cX3_measureGrid 83 = .ok (.aload 6, 2) := by decide +kernel
theorem dX3_measureGrid_85 : decode cX3_measureGrid 85 = .ok (.aload_n 0, 1) := by decide +kernel
theorem dX3_measureGrid_86 : decode cX3_measureGrid 86 = .ok (.getfield 36, 3) := by decide +kernel
theorem dX3_measureGrid_89 : decode cX3_measureGrid 89 = .ok (.getfield 59, 3) := by decide +kernel
theorem dX3_measureGrid_92 : decode cX3_measureGrid 92 = .ok (.iload 4, 2) := by decide +kernel
theorem dX3_measureGrid_94 : decode cX3_measureGrid 94 = .ok (.iload_n 2, 1) := by decide +kernel
theorem dX3_measureGrid_95 : decode cX3_measureGrid 95 = .ok (.imul, 1) := by decide +kernel
theorem dX3_measureGrid_96 : decode cX3_measureGrid 96 = .ok (.iadd, 1) := by decide +kernel
theorem dX3_measureGrid_97 : decode cX3_measureGrid 97 = .ok (.iload 4, 2) := by decide +kernel
theorem dX3_measureGrid_99 : decode cX3_measureGrid 99 = .ok (.iload_n 3, 1) := by decide +kernel
theorem dX3_measureGrid_100 : decode cX3_measureGrid 100 = .ok (.invokestatic 62, 3) := by decide +kernel
theorem dX3_measureGrid_103 : decode cX3_measureGrid 103 = .ok (.iadd, 1) := by decide +kernel
theorem dX3_measureGrid_104 : decode cX3_measureGrid 104 = .ok (.putfield 59, 3) := by decide +kernel
theorem dX3_measureGrid_107 : decode cX3_measureGrid 107 = .ok (.iload 4, 2) := by decide +kernel
theorem dX3_measureGrid_109 : decode cX3_measureGrid 109 = .ok (.iconst 1, 1) := by decide +kernel
theorem dX3_measureGrid_110 : decode cX3_measureGrid 110 = .ok (.iadd, 1) := by decide +kernel
theorem dX3_measureGrid_111 : decode cX3_measureGrid 111 = .ok (.iload_n 1, 1) := by decide +kernel
theorem dX3_measureGrid_112 : decode cX3_measureGrid 112 = .ok (.if_icmp .ge 10, 3) := by decide +kernel
theorem dX3_measureGrid_115 : decode cX3_measureGrid 115 = .ok (.iload 4, 2) := by decide +kernel
theorem dX3_measureGrid_117 : decode cX3_measureGrid 117 = .ok (.iconst 1, 1) := by decide +kernel
theorem dX3_measureGrid_118 : decode cX3_measureGrid 118 = .ok (.iadd, 1) := by decide +kernel
theorem dX3_measureGrid_119 : decode cX3_measureGrid 119 = .ok (.goto 4, 3) := by decide +kernel
theorem dX3_measureGrid_122 : decode cX3_measureGrid 122 = .ok (.iconst 0, 1) := by decide +kernel
theorem dX3_measureGrid_123 : decode cX3_measureGrid 123 = .ok (.istore 4, 2) := by decide +kernel
theorem dX3_measureGrid_125 : decode cX3_measureGrid 125 = .ok (.aload 5, 2) := by decide +kernel
theorem dX3_measureGrid_127 : decode cX3_measureGrid 127 = .ok (.getfield 46, 3) := by decide +kernel
theorem dX3_measureGrid_130 : decode cX3_measureGrid 130 = .ok (.astore 5, 2) := by decide +kernel
theorem dX3_measureGrid_132 : decode cX3_measureGrid 132 = .ok (.goto (-87), 3) := by decide +kernel
theorem dX3_measureGrid_135 : decode cX3_measureGrid 135 = .ok (.return_, 1) := by decide +kernel
theorem dX3_measureRow_0 : decode cX3_measureRow 0 = .ok (.aload_n 0, 1) := by decide +kernel
theorem dX3_measureRow_1 : decode cX3_measureRow 1 = .ok (.getfield 42, 3) := by decide +kernel
theorem dX3_measureRow_4 : decode cX3_measureRow 4 = .ok (.astore_n 1, 1) := by decide +kernel
theorem dX3_measureRow_5 : decode cX3_measureRow 5 = .ok (.aload_n 1, 1) := by decide +kernel
theorem dX3_measureRow_6 : decode cX3_measureRow 6 = .ok (.ifnull 58, 3) := by decide +kernel
theorem dX3_measureRow_9 : decode cX3_measureRow 9 = .ok (.aload_n 1, 1) := by decide +kernel
theorem dX3_measureRow_10 : decode cX3_measureRow 10 = .ok (.getfield 36, 3) := by decide +kernel
theorem dX3_measureRow_13 : decode cX3_measureRow 13 = .ok (.astore_n 2, 1) := by decide +kernel
theorem dX3_measureRow_14 : decode cX3_measureRow 14 = .ok (.aload_n 2, 1) := by decide +kernel
theorem dX3_measureRow_15 : decode cX3_measureRow 15 = .ok (.getfield 19, 3) := by decide +kernel
theorem dX3_measureRow_18 : decode cX3_measureRow 18 = .ok (.ifCond .eq 38, 3) := by decide +kernel
theorem dX3_measureRow_21 : decode cX3_measureRow 21 = .ok (.aload_n 1, 1) := by decide +kernel
theorem dX3_measureRow_22 : decode cX3_measureRow 22 = .ok (.getfield 68, 3) := by decide +kernel
theorem dX3_measureRow_25 : decode cX3_measureRow 25 = .ok (.ifCond .eq 7, 3) := by decide +kernel
theorem dX3_measureRow_28 : decode cX3_measureRow 28 = .ok (.iconst 0, 1) := by decide +kernel
theorem dX3_measureRow_29 : decode cX3_measureRow 29 = .ok (.goto 10, 3) := by decide +kernel
theorem dX3_measureRow_32 : decode cX3_measureRow 32 = .ok (.aload_n 1, 1) := by decide +kernel
theorem dX3_measureRow_33 : decode cX3_measureRow 33 = .ok (.getfield 71, 3) := by decide +kernel
theorem dX3_measureRow_36 : decode cX3_measureRow 36 = .ok (.invokestatic 74, 3) := by decide +kernel
theorem dX3_measureRow_39 : decode cX3_measureRow 39 = .ok (.istore_n 3, 1) := by decide +kernel
theorem dX3_measureRow_40 : decode cX3_measureRow 40 = .ok (.aload_n 2, 1) := by decide +kernel
theorem dX3_measureRow_41 : decode cX3_measureRow 41 = .ok (.aload_n 2, 1) := by decide +kernel
theorem dX3_measureRow_42 : decode cX3_measureRow 42 = .ok (.iload_n 3, 1) := by decide +kernel
theorem dX3_measureRow_43 : decode cX3_measureRow 43 = .ok (.aload_n 2, 1) := by decide +kernel
theorem dX3_measureRow_44 : decode cX3_measureRow 44 = .ok (.bipush 9, 2) := by decide +kernel
theorem dX3_measureRow_46 : decode cX3_measureRow 46 = .ok (.invokevirtual 9, 3) := by decide +kernel
theorem dX3_measureRow_49 : decode cX3_measureRow 49 = .ok (.imul, 1) := by decide +kernel
theorem dX3_measureRow_50 : decode cX3_measureRow 50 = .ok (.invokestatic 23, 3) := by decide +kernel
theorem dX3_measureRow_53 : decode cX3_measureRow 53 = .ok (.putfield 29, 3) := by decide +kernel
theorem dX3_measureRow_56 : decode cX3_measureRow 56 = .ok (.aload_n 1, 1) := by decide +kernel
theorem dX3_measureRow_57 : decode cX3_measureRow 57 = .ok (.getfield 46, 3) := by decide +kernel
theorem dX3_measureRow_60 : decode cX3_measureRow 60 = .ok (.astore_n 1, 1) := by decide +kernel
theorem dX3_measureRow_61 : decode cX3_measureRow 61 = .ok (.goto (-56), 3) := by decide +kernel
theorem dX3_measureRow_64 : decode cX3_measureRow 64 = .ok (.iconst 0, 1) := by decide +kernel
theorem dX3_measureRow_65 : decode cX3_measureRow 65 = .ok (.istore_n 1, 1) := by decide +kernel
theorem dX3_measureRow_66 : decode cX3_measureRow 66 = .ok (.iconst 0, 1) := by decide +kernel
theorem dX3_measureRow_67 : decode cX3_measureRow 67 = .ok (.istore_n 2, 1) := by decide +kernel
theorem dX3_measureRow_68 : decode cX3_measureRow 68 = .ok (.iload_n 2, 1) := by decide +kernel
theorem dX3_measureRow_69 : decode cX3_measureRow 69 = .ok (.bipush 24, 2) := by decide +kernel
theorem dX3_measureRow_71 : decode cX3_measureRow 71 = .ok (.if_icmp .gt 18, 3) := by decide +kernel
theorem dX3_measureRow_74 : decode cX3_measureRow 74 = .ok (.iload_n 1, 1) := by decide +kernel
theorem dX3_measureRow_75 : decode cX3_measureRow 75 = .ok (.ifCond .ne 14, 3) := by decide +kernel
theorem dX3_measureRow_78 : decode cX3_measureRow 78 = .ok (.aload_n 0, 1) := by decide +kernel
theorem dX3_measureRow_79 : decode cX3_measureRow 79 = .ok (.invokestatic 79, 3) := by decide +kernel
theorem dX3_measureRow_82 : decode cX3_measureRow 82 = .ok (.istore_n 1, 1) := by decide +kernel
theorem dX3_measureRow_83 : decode cX3_measureRow 83 = .ok (.iinc 2 1, 3) := by decide +kernel
theorem dX3_measureRow_86 : decode cX3_measureRow 86 = .ok (.goto (-18), 3) := by decide +kernel
theorem dX3_measureRow_89 : decode cX3_measureRow 89 = .ok (.aload_n 0, 1) := by decide +kernel
theorem dX3_measureRow_90 : decode cX3_measureRow 90 = .ok (.getfield 36, 3) := by decide +kernel
theorem dX3_measureRow_93 : decode cX3_measureRow 93 = .ok (.getfield 59, 3) := by decide +kernel
theorem dX3_measureRow_96 : decode cX3_measureRow 96 = .ok (.istore_n 2, 1) := by decide +kernel
theorem dX3_measureRow_97 : decode cX3_measureRow 97 = .ok (.aload_n 0, 1) := by decide +kernel
theorem dX3_measureRow_98 : decode cX3_measureRow 98 = .ok (.getfield 42, 3) := by decide +kernel
theorem dX3_measureRow_101 : decode cX3_measureRow 101 = .ok (.astore_n 3, 1) := by decide +kernel
theorem dX3_measureRow_102 : decode cX3_measureRow 102 = .ok (.aload_n 3, 1) := by decide +kernel
theorem dX3_measureRow_103 : decode cX3_measureRow 103 = .ok (.ifnull 39, 3) := by decide +kernel
theorem dX3_measureRow_106 : decode cX3_measureRow 106 = .ok (.aload_n 3, 1) := by decide +kernel
theorem dX3_measureRow_107 : decode cX3_measureRow 107 = .ok (.getfield 36, 3) := by decide +kernel
theorem dX3_measureRow_110 : decode cX3_measureRow 110 = .ok (.astore 4, 2) := by decide +kernel
theorem dX3_measureRow_112 : decode cX3_measureRow 112 = .ok (.aload 4, 2) := by decide +kernel
theorem dX3_measureRow_114 : decode cX3_measureRow 114 = .ok (.getfield 19, 3) := by decide +kernel
theorem dX3_measureRow_117 : decode cX3_measureRow 117 = .ok (.ifCond .eq 17, 3) := by decide +kernel
theorem dX3_measureRow_120 : decode cX3_measureRow 120 = .ok (.aload 4, 2) := by decide +kernel
theorem dX3_measureRow_122 : decode cX3_measureRow 122 = .ok (.iload_n 2, 1) := by decide +kernel
theorem dX3_measureRow_123 : decode cX3_measureRow 123 = .ok (.putfield 59, 3) := by decide +kernel
theorem dX3_measureRow_126 : decode cX3_measureRow 126 = .ok (.iload_n 2, 1) := by decide +kernel
theorem dX3_measureRow_127 : decode cX3_measureRow 127 = .ok (.aload 4, 2) := by decide +kernel
theorem dX3_measureRow_129 : decode cX3_measureRow 129 = .ok (.getfield 29, 3) := by decide +kernel
theorem dX3_measureRow_132 : decode cX3_measureRow 132 = .ok (.iadd, 1) := by decide +kernel
theorem dX3_measureRow_133 : decode cX3_measureRow 133 = .ok (.istore_n 2, 1) := by decide +kernel
theorem dX3_measureRow_134 : decode cX3_measureRow 134 = .ok (.aload_n 3, 1) := by decide +kernel
theorem dX3_measureRow_135 : decode cX3_measureRow 135 = .ok (.getfield 46, 3) := by decide +kernel
theorem dX3_measureRow_138 : decode cX3_measureRow 138 = .ok (.astore_n 3, 1) := by decide +kernel
theorem dX3_measureRow_139 : decode cX3_measureRow 139 = .ok (.goto (-37), 3) := by decide +kernel
theorem dX3_measureRow_142 : decode cX3_measureRow 142 = .ok (.return_, 1) := by decide +kernel
theorem dX3_shareRest_0 : decode cX3_shareRest 0 = .ok (.aload_n 0, 1) := by decide +kernel
theorem dX3_shareRest_1 : decode cX3_shareRest 1 = .ok (.getfield 36, 3) := by decide +kernel
theorem dX3_shareRest_4 : decode cX3_shareRest 4 = .ok (.getfield 29, 3) := by decide +kernel
theorem dX3_shareRest_7 : decode cX3_shareRest 7 = .ok (.istore_n 1, 1) := by decide +kernel
theorem dX3_shareRest_8 : decode cX3_shareRest 8 = .ok (.iconst 0, 1) := by decide +kernel
theorem dX3_shareRest_9 : decode cX3_shareRest 9 = .ok (.istore_n 2, 1) := by decide +kernel
theorem dX3_shareRest_10 : decode cX3_shareRest 10 = .ok (.aload_n 0, 1) := by decide +kernel
theorem dX3_shareRest_11 : decode cX3_shareRest 11 = .ok (.getfield 42, 3) := by decide +kernel
theorem dX3_shareRest_14 : decode cX3_shareRest 14 = .ok (.astore_n 3, 1) := by decide +kernel
theorem dX3_shareRest_15 : decode cX3_shareRest 15 = .ok (.aload_n 3, 1) := by decide +kernel
theorem dX3_shareRest_16 : decode cX3_shareRest 16 = .ok (.ifnull 55, 3) := by decide +kernel
theorem dX3_shareRest_19 : decode cX3_shareRest 19 = .ok (.aload_n 3, 1) := by decide +kernel
theorem dX3_shareRest_20 : decode cX3_shareRest 20 = .ok (.getfield 36, 3) := by decide +kernel
theorem dX3_shareRest_23 : decode cX3_shareRest 23 = .ok (.astore 4, 2) := by decide +kernel
theorem dX3_shareRest_25 : decode cX3_shareRest 25 = .ok (.aload 4, 2) := by decide +kernel
theorem dX3_shareRest_27 : decode cX3_shareRest 27 = .ok (.getfield 19, 3) := by decide +kernel
theorem dX3_shareRest_30 : decode cX3_shareRest 30 = .ok (.ifCond .eq 33, 3) := by decide +kernel
theorem dX3_shareRest_33 : decode cX3_shareRest 33 = .ok (.iload_n 1, 1) := by decide +kernel
theorem dX3_shareRest_34 : decode cX3_shareRest 34 = .ok (.aload 4, 2) := by decide +kernel
theorem dX3_shareRest_36 : decode cX3_shareRest 36 = .ok (.getfield 29, 3) := by decide +kernel
theorem dX3_shareRest_39 : decode cX3_shareRest 39 = .ok (.isub, 1) := by decide +kernel
theorem dX3_shareRest_40 : decode cX3_shareRest 40 = .ok (.istore_n 1, 1) := by decide +kernel
theorem dX3_shareRest_41 : decode cX3_shareRest 41 = .ok (.iload_n 2, 1) := by decide +kernel
theorem dX3_shareRest_42 : decode cX3_shareRest 42 = .ok (.aload 4, 2) := by decide +kernel
theorem dX3_shareRest_44 : decode cX3_shareRest 44 = .ok (.getfield 83, 3) := by decide +kernel
theorem dX3_shareRest_47 : decode cX3_shareRest 47 = .ok (.ifCond .eq 7, 3) := by decide +kernel
theorem dX3_shareRest_50 : decode cX3_shareRest 50 = .ok (.iconst 0, 1) := by decide +kernel
theorem dX3_shareRest_51 : decode cX3_shareRest 51 = .ok (.goto 10, 3) := by decide +kernel
theorem dX3_shareRest_54 : decode cX3_shareRest 54 = .ok (.aload 4, 2) := by decide +kernel
theorem dX3_shareRest_56 : decode cX3_shareRest 56 = .ok (.bipush 6, 2) := by decide +kernel
theorem dX3_shareRest_58 : decode cX3_shareRest 58 = .ok (.invokevirtual 9, 3) := by decide +kernel
theorem dX3_shareRest_61 : decode cX3_shareRest 61 = .ok (.iadd, 1) := by decide +kernel
theorem dX3_shareRest_62 : decode cX3_shareRest 62 = .ok (.istore_n 2, 1) := by decide +kernel
theorem dX3_shareRest_63 : decode cX3_shareRest 63 = .ok (.aload_n 3, 1) := by decide +kernel
theorem dX3_shareRest_64 : decode cX3_shareRest 64 = .ok (.getfield 46, 3) := by decide +kernel
theorem dX3_shareRest_67 : decode cX3_shareRest 67 = .ok (.astore_n 3, 1) := by decide +kernel
theorem dX3_shareRest_68 : decode cX3_shareRest 68 = .ok (.goto (-53), 3) := by decide +kernel
theorem dX3_shareRest_71 : decode cX3_shareRest 71 = .ok (.iload_n 1, 1) := by decide +kernel
theorem dX3_shareRest_72 : decode cX3_shareRest 72 = .ok (.ifCond .le 7, 3) := by decide +kernel
theorem dX3_shareRest_75 : decode cX3_shareRest 75 = .ok (.iload_n 2, 1) := by decide +kernel
theorem dX3_shareRest_76 : decode cX3_shareRest 76 = .ok (.ifCond .gt 5, 3) := by decide +kernel
theorem dX3_shareRest_79 : decode cX3_shareRest 79 = .ok (.iconst 1, 1) := by decide +kernel
theorem dX3_shareRest_80 : decode cX3_shareRest 80 = .ok (.ireturn, 1) := by decide +kernel
theorem dX3_shareRest_81 : decode cX3_shareRest 81 = .ok (.aload_n 0, 1) := by decide +kernel
theorem dX3_shareRest_82 : decode cX3_shareRest 82 = .ok (.iload_n 1, 1) := by decide +kernel
theorem dX3_shareRest_83 : decode cX3_shareRest 83 = .ok (.iload_n 2, 1) := by decide +kernel
theorem dX3_shareRest_84 : decode cX3_shareRest 84 = .ok (.invokestatic 86, 3) := by decide +kernel
theorem dX3_shareRest_87 : decode cX3_shareRest 87 = .ok (.aload_n 0, 1) := by decide +kernel
theorem dX3_shareRest_88 : decode cX3_shareRest 88 = .ok (.invokestatic 90, 3) := by decide +kernel
theorem dX3_shareRest_91 : decode cX3_shareRest 91 = .ok (.ifCond .eq 5, 3) := by decide +kernel
theorem dX3_shareRest_94 : decode cX3_shareRest 94 = .ok (.iconst 0, 1) := by decide +kernel
theorem dX3_shareRest_95 : decode cX3_shareRest 95 = .ok (.ireturn, 1) := by decide +kernel
theorem dX3_shareRest_96 : decode cX3_shareRest 96 = .ok (.aload_n 0, 1) := by decide +kernel
theorem dX3_shareRest_97 : decode cX3_shareRest 97 = .ok (.getfield 42, 3) := by decide +kernel
theorem dX3_shareRest_100 : decode cX3_shareRest 100 = .ok (.astore_n 3, 1) := by decide +kernel
theorem dX3_shareRest_101 : decode cX3_shareRest 101 = .ok (.aload_n 3, 1) := by decide +kernel
theorem dX3_shareRest_102 : decode cX3_shareRest 102 = .ok (.ifnull 30, 3) := by decide +kernel
theorem dX3_shareRest_105 : decode cX3_shareRest 105 = .ok (.aload_n 3, 1) := by decide +kernel
theorem dX3_shareRest_106 : decode cX3_shareRest 106 = .ok (.getfield 36, 3) := by decide +kernel
theorem dX3_shareRest_109 : decode cX3_shareRest 109 = .ok (.dup, 1) := by decide +kernel
theorem dX3_shareRest_110 : decode cX3_shareRest 110 = .ok (.getfield 29, 3) := by decide +kernel
theorem dX3_shareRest_113 : decode cX3_shareRest 113 = .ok (.aload_n 3, 1) := by decide +kernel
theorem dX3_shareRest_114 : decode cX3_shareRest 114 = .ok (.getfield 36, 3) := by decide +kernel
theorem dX3_shareRest_117 : decode cX3_shareRest 117 = .ok (.getfield 93, 3) := by decide +kernel
theorem dX3_shareRest_120 : decode cX3_shareRest 120 = .ok (.iadd, 1) := by decide +kernel
theorem dX3_shareRest_121 : decode cX3_shareRest 121 = .ok (.putfield 29, 3) := by decide +kernel
theorem dX3_shareRest_124 : decode cX3_shareRest 124 = .ok (.aload_n 3, 1) := by decide +kernel
theorem dX3_shareRest_125 : decode cX3_shareRest 125 = .ok (.getfield 46, 3) := by decide +kernel
theorem dX3_shareRest_128 : decode cX3_shareRest 128 = .ok (.astore_n 3, 1) := by decide +kernel
theorem dX3_shareRest_129 : decode cX3_shareRest 129 = .ok (.goto (-28), 3) := by decide +kernel
theorem dX3_shareRest_132 : decode cX3_shareRest 132 = .ok (.iconst 1, 1) := by decide +kernel
theorem dX3_shareRest_133 : decode cX3_shareRest 133 = .ok (.ireturn, 1) := by decide +kernel
theorem dX3_findGains_0 : decode cX3_findGains 0 = .ok (.iload_n 1, 1) := by decide +kernel
theorem dX3_findGains_1 : decode cX3_findGains 1 = .ok (.istore_n 3, 1) := by decide +kernel
theorem dX3_findGains_2 : decode cX3_findGains 2 = .ok (.aload_n 0, 1) := by decide +kernel
theorem dX3_findGains_3 : decode cX3_findGains 3 = .ok (.getfield 42, 3) := by decide +kernel
theorem dX3_findGains_6 : decode cX3_findGains 6 = .ok (.astore 4, 2) := by decide +kernel
theorem dX3_findGains_8 : decode cX3_findGains 8 = .ok (.aload 4, 2) := by decide +kernel
theorem dX3_findGains_10 : decode cX3_findGains 10 = .ok (.ifnull 68, 3) := by decide +kernel
theorem dX3_findGains_13 : decode cX3_findGains 13 = .ok (.aload 4, 2) := by decide +kernel
theorem dX3_findGains_15 : decode cX3_findGains 15 = .ok (.getfield 36, 3) := by decide +kernel
theorem dX3_findGains_18 : decode cX3_findGains 18 = .ok (.astore 5, 2) := by decide +kernel
theorem dX3_findGains_20 : decode cX3_findGains 20 = .ok (.aload 5, 2) := by decide +kernel
theorem dX3_findGains_22 : decode cX3_findGains 22 = .ok (.aload 5, 2) := by decide +kernel
theorem dX3_findGains_24 : decode cX3_findGains 24 = .ok (.getfield 19, 3) := by decide +kernel
theorem dX3_findGains_27 : decode cX3_findGains 27 = .ok (.ifCond .eq 29, 3) := by decide +kernel
theorem dX3_findGains_30 : decode cX3_findGains 30 = .ok (.aload 5, 2) := by decide +kernel
theorem dX3_findGains_32 : decode cX3_findGains 32 = .ok (.getfield 83, 3) := by decide +kernel
theorem dX3_findGains_35 : decode cX3_findGains 35 = .ok (.ifCond .ne 21, 3) := by decide +kernel
theorem dX3_findGains_38 : decode cX3_findGains 38 = .ok (.iload_n 2, 1) := by decide +kernel
theorem dX3_findGains_39 : decode cX3_findGains 39 = .ok (.ifCond .le 17, 3) := by decide +kernel
theorem dX3_findGains_42 : decode cX3_findGains 42 = .ok (.iload_n 1, 1) := by decide +kernel
theorem dX3_findGains_43 : decode cX3_findGains 43 = .ok (.aload 5, 2) := by decide +kernel
theorem dX3_findGains_45 : decode cX3_findGains 45 = .ok (.bipush 6, 2) := by decide +kernel
theorem dX3_findGains_47 : decode cX3_findGains 47 = .ok (.invokevirtual 9, 3) := by decide +kernel
theorem dX3_findGains_50 : decode cX3_findGains 50 = .ok (.imul, 1) := by decide +kernel
theorem dX3_findGains_51 : decode cX3_findGains 51 = .ok (.iload_n 2, 1) := by decide +kernel
theorem dX3_findGains_52 : decode cX3_findGains 52 = .ok (.idiv, 1) := by decide +kernel
theorem dX3_findGains_53 : decode cX3_findGains 53 = .ok (.goto 4, 3) := by decide +kernel
theorem dX3_findGains_56 : decode cX3_findGains 56 = .ok (.iconst 0, 1) := by decide +kernel
theorem dX3_findGains_57 : decode cX3_findGains 57 = .ok (.putfield 93, 3) := by decide +kernel
theorem dX3_findGains_60 : decode cX3_findGains 60 = .ok (.iload_n 3, 1) := by decide +kernel
theorem dX3_findGains_61 : decode cX3_findGains 61 = .ok (.aload 5, 2) := by decide +kernel
theorem dX3_findGains_63 : decode cX3_findGains 63 = .ok (.getfield 93, 3) := by decide +kernel
theorem dX3_findGains_66 : decode cX3_findGains 66 = .ok (.isub, 1) := by decide +kernel
theorem dX3_findGains_67 : decode cX3_findGains 67 = .ok (.istore_n 3, 1) := by decide +kernel
theorem dX3_findGains_68 : decode cX3_findGains 68 = .ok (.aload 4, 2) := by decide +kernel
theorem dX3_findGains_70 : decode cX3_findGains 70 = .ok (.getfield 46, 3) := by decide +kernel
theorem dX3_findGains_73 : decode cX3_findGains 73 = .ok (.astore 4, 2) := by decide +kernel
theorem dX3_findGains_75 : decode cX3_findGains 75 = .ok (.goto (-67), 3) := by decide +kernel
theorem dX3_findGains_78 : decode cX3_findGains 78 = .ok (.aload_n 0, 1) := by decide +kernel
theorem dX3_findGains_79 : decode cX3_findGains 79 = .ok (.getfield 42, 3) := by decide +kernel
theorem dX3_findGains_82 : decode cX3_findGains 82 = .ok (.astore 4, 2) := by decide +kernel
theorem dX3_findGains_84 : decode cX3_findGains 84 = .ok (.aload 4, 2) := by decide +kernel
theorem dX3_findGains_86 : decode cX3_findGains 86 = .ok (.ifnull 64, 3) := by decide +kernel
theorem dX3_findGains_89 : decode cX3_findGains 89 = .ok (.iload_n 3, 1) := by decide +kernel
theorem dX3_findGains_90 : decode cX3_findGains 90 = .ok (.ifCond .le 60, 3) := by decide +kernel
theorem dX3_findGains_93 : decode cX3_findGains 93 = .ok (.aload 4, 2) := by decide +kernel
theorem dX3_findGains_95 : decode cX3_findGains 95 = .ok (.getfield 36, 3) := by decide +kernel
theorem dX3_findGains_98 : decode cX3_findGains 98 = .ok (.astore 5, 2) := by decide +kernel
theorem dX3_findGains_100 : decode cX3_findGains 100 = .ok (.aload 5, 2) := by decide +kernel
theorem dX3_findGains_102 : decode cX3_findGains 102 = .ok (.getfield 19, 3) := by decide +kernel
theorem dX3_findGains_105 : decode cX3_findGains 105 = .ok (.ifCond .eq 35, 3) := by decide +kernel
theorem dX3_findGains_108 : decode cX3_findGains 108 = .ok (.aload 5, 2) := by decide +kernel
theorem dX3_findGains_110 : decode cX3_findGains 110 = .ok (.getfield 83, 3) := by decide +kernel
theorem dX3_findGains_113 : decode cX3_findGains 113 = .ok (.ifCond .ne 27, 3) := by decide +kernel
theorem dX3_findGains_116 : decode cX3_findGains 116 = .ok (.aload 5, 2) := by decide +kernel
theorem dX3_findGains_118 : decode cX3_findGains 118 = .ok (.bipush 6, 2) := by decide +kernel
theorem dX3_findGains_120 : decode cX3_findGains 120 = .ok (.invokevirtual 9, 3) := by decide +kernel
theorem dX3_findGains_123 : decode cX3_findGains 123 = .ok (.ifCond .le 17, 3) := by decide +kernel
theorem dX3_findGains_126 : decode cX3_findGains 126 = .ok (.aload 5, 2) := by decide +kernel
theorem dX3_findGains_128 : decode cX3_findGains 128 = .ok (.dup, 1) := by decide +kernel
theorem dX3_findGains_129 : decode cX3_findGains 129 = .ok (.getfield 93, 3) := by decide +kernel
theorem dX3_findGains_132 : decode cX3_findGains 132 = .ok (.iconst 1, 1) := by decide +kernel
theorem dX3_findGains_133 : decode cX3_findGains 133 = .ok (.iadd, 1) := by decide +kernel
theorem dX3_findGains_134 : decode cX3_findGains 134 = .ok (.putfield 93, 3) := by decide +kernel
theorem dX3_findGains_137 : decode cX3_findGains 137 = .ok (.iinc 3 (-1), 3) := by decide +kernel
theorem dX3_findGains_140 : decode cX3_findGains 140 = .ok (.aload 4, 2) := by decide +kernel
theorem dX3_findGains_142 : decode cX3_findGains 142 = .ok (.getfield 46, 3) := by decide +kernel
theorem dX3_findGains_145 : decode cX3_findGains 145 = .ok (.astore 4, 2) := by decide +kernel
theorem dX3_findGains_147 : decode cX3_findGains 147 = .ok (.goto (-63), 3) := by decide +kernel
theorem dX3_findGains_150 : decode cX3_findGains 150 = .ok (.return_, 1) := by decide +kernel
theorem dX3_freezeTooWide_0 : decode cX3_freezeTooWide 0 = .ok (.iconst 0, 1) := by decide +kernel
theorem dX3_freezeTooWide_1 : decode cX3_freezeTooWide 1 = .ok (.istore_n 1, 1) := by decide +kernel
theorem dX3_freezeTooWide_2 : decode cX3_freezeTooWide 2 = .ok (.aload_n 0, 1) := by decide +kernel
theorem dX3_freezeTooWide_3 : decode cX3_freezeTooWide 3 = .ok (.getfield 42, 3) := by decide +kernel
theorem dX3_freezeTooWide_6 : decode cX3_freezeTooWide 6 = .ok (.astore_n 2, 1) := by decide +kernel
theorem dX3_freezeTooWide_7 : decode cX3_freezeTooWide 7 = .ok (.aload_n 2, 1) := by decide +kernel
theorem dX3_freezeTooWide_8 : decode cX3_freezeTooWide 8 = .ok (.ifnull 69, 3) := by decide +kernel
theorem dX3_freezeTooWide_11 : decode cX3_freezeTooWide 11 = .ok (.aload_n 2, 1) := by decide +kernel
theorem dX3_freezeTooWide_12 : decode cX3_freezeTooWide 12 = .ok (.getfield 36, 3) := by decide +kernel
theorem dX3_freezeTooWide_15 : decode cX3_freezeTooWide 15 = .ok (.astore_n 3, 1) := by decide +kernel
theorem dX3_freezeTooWide_16 : decode cX3_freezeTooWide 16 = .ok (.aload_n 3, 1) := by decide +kernel
theorem dX3_freezeTooWide_17 : decode cX3_freezeTooWide 17 = .ok (.getfield 29, 3) := by decide +kernel
theorem dX3_freezeTooWide_20 : decode cX3_freezeTooWide 20 = .ok (.aload_n 3, 1) := by decide +kernel
theorem dX3_freezeTooWide_21 : decode cX3_freezeTooWide 21 = .ok (.getfield 93, 3) := by decide +kernel
theorem dX3_freezeTooWide_24 : decode cX3_freezeTooWide 24 = .ok (.iadd, 1) := by decide +kernel
theorem dX3_freezeTooWide_25 : decode cX3_freezeTooWide 25 = .ok (.istore 4, 2) := by decide +kernel
theorem dX3_freezeTooWide_27 : decode cX3_freezeTooWide 27 = .ok (.aload_n 3, 1) := by decide +kernel
theorem dX3_freezeTooWide_28 : decode cX3_freezeTooWide 28 = .ok (.iload 4, 2) := by decide +kernel
theorem dX3_freezeTooWide_30 : decode cX3_freezeTooWide 30 = .ok (.invokevirtual 33, 3) := by decide +kernel
theorem dX3_freezeTooWide_33 : decode cX3_freezeTooWide 33 = .ok (.istore 5, 2) := by decide +kernel
theorem dX3_freezeTooWide_35 : decode cX3_freezeTooWide 35 = .ok (.aload_n 3, 1) := by decide +kernel
theorem dX3_freezeTooWide_36 : decode cX3_freezeTooWide 36 = .ok (.getfield 19, 3) := by decide +kernel
theorem dX3_freezeTooWide_39 : decode cX3_freezeTooWide 39 = .ok (.ifCond .eq 30, 3) := by decide +kernel
theorem dX3_freezeTooWide_42 : decode cX3_freezeTooWide 42 = .ok (.aload_n 3, 1) := by decide +kernel
theorem dX3_freezeTooWide_43 : decode cX3_freezeTooWide 43 = .ok (.getfield 83, 3) := by decide +kernel
theorem dX3_freezeTooWide_46 : decode cX3_freezeTooWide 46 = .ok (.ifCond .ne 23, 3) := by decide +kernel
theorem dX3_freezeTooWide_49 : decode cX3_freezeTooWide 49 = .ok (.iload 5, 2) := by decide +kernel
theorem dX3_freezeTooWide_51 : decode cX3_freezeTooWide 51 = .ok (.iload 4, 2) := by decide +kernel
theorem dX3_freezeTooWide_53 : decode cX3_freezeTooWide 53 = .ok (.if_icmp .ge 16, 3) := by decide +kernel
theorem dX3_freezeTooWide_56 : decode cX3_freezeTooWide 56 = .ok (.aload_n 3, 1) := by decide +kernel
theorem dX3_freezeTooWide_57 : decode cX3_freezeTooWide 57 = .ok (.iload 5, 2) := by decide +kernel
theorem dX3_freezeTooWide_59 : decode cX3_freezeTooWide 59 = .ok (.putfield 29, 3) := by decide +kernel
theorem dX3_freezeTooWide_62 : decode cX3_freezeTooWide 62 = .ok (.aload_n 3, 1) := by decide +kernel
theorem dX3_freezeTooWide_63 : decode cX3_freezeTooWide 63 = .ok (.iconst 1, 1) := by decide +kernel
theorem dX3_freezeTooWide_64 : decode cX3_freezeTooWide 64 = .ok (.putfield 83, 3) := by decide +kernel
theorem dX3_freezeTooWide_67 : decode cX3_freezeTooWide 67 = .ok (.iconst 1, 1) := by decide +kernel
theorem dX3_freezeTooWide_68 : decode cX3_freezeTooWide 68 = .ok (.istore_n 1, 1) := by decide +kernel
theorem dX3_freezeTooWide_69 : decode cX3_freezeTooWide 69 = .ok (.aload_n 2, 1) := by decide +kernel
theorem dX3_freezeTooWide_70 : decode cX3_freezeTooWide 70 = .ok (.getfield 46, 3) := by decide +kernel
theorem dX3_freezeTooWide_73 : decode cX3_freezeTooWide 73 = .ok (.astore_n 2, 1) := by decide +kernel
theorem dX3_freezeTooWide_74 : decode cX3_freezeTooWide 74 = .ok (.goto (-67), 3) := by decide +kernel
theorem dX3_freezeTooWide_77 : decode cX3_freezeTooWide 77 = .ok (.iload_n 1, 1) := by decide +kernel
theorem dX3_freezeTooWide_78 : decode cX3_freezeTooWide 78 = .ok (.ireturn, 1) := by decide +kernel
theorem dX3_findHeight_0 : decode cX3_findHeight 0 = .ok (.aload_n 0, 1) := by decide +kernel
theorem dX3_findHeight_1 : decode cX3_findHeight 1 = .ok (.getfield 36, 3) := by decide +kernel
theorem dX3_findHeight_4 : decode cX3_findHeight 4 = .ok (.astore_n 1, 1) := by decide +kernel
theorem dX3_findHeight_5 : decode cX3_findHeight 5 = .ok (.aload_n 1, 1) := by decide +kernel
theorem dX3_findHeight_6 : decode cX3_findHeight 6 = .ok (.getfield 19, 3) := by decide +kernel
theorem dX3_findHeight_9 : decode cX3_findHeight 9 = .ok (.ifCond .ne 4, 3) := by decide +kernel
theorem dX3_findHeight_12 : decode cX3_findHeight 12 = .ok (.return_, 1) := by decide +kernel
theorem dX3_findHeight_13 : decode cX3_findHeight 13 = .ok (.aload_n 1, 1) := by decide +kernel
theorem dX3_findHeight_14 : decode cX3_findHeight 14 = .ok (.bipush 9, 2) := by decide +kernel
theorem dX3_findHeight_16 : decode cX3_findHeight 16 = .ok (.invokevirtual 9, 3) := by decide +kernel
theorem dX3_findHeight_19 : decode cX3_findHeight 19 = .ok (.istore_n 2, 1) := by decide +kernel
theorem dX3_findHeight_20 : decode cX3_findHeight 20 = .ok (.aload_n 1, 1) := by decide +kernel
theorem dX3_findHeight_21 : decode cX3_findHeight 21 = .ok (.aload_n 0, 1) := by decide +kernel
theorem dX3_findHeight_22 : decode cX3_findHeight 22 = .ok (.getfield 71, 3) := by decide +kernel
theorem dX3_findHeight_25 : decode cX3_findHeight 25 = .ok (.iload_n 2, 1) := by decide +kernel
theorem dX3_findHeight_26 : decode cX3_findHeight 26 = .ok (.aload_n 1, 1) := by decide +kernel
theorem dX3_findHeight_27 : decode cX3_findHeight 27 = .ok (.getfield 29, 3) := by decide +kernel
theorem dX3_findHeight_30 : decode cX3_findHeight 30 = .ok (.invokestatic 96, 3) := by decide +kernel
theorem dX3_findHeight_33 : decode cX3_findHeight 33 = .ok (.putfield 100, 3) := by decide +kernel
theorem dX3_findHeight_36 : decode cX3_findHeight 36 = .ok (.aload_n 1, 1) := by decide +kernel
theorem dX3_findHeight_37 : decode cX3_findHeight 37 = .ok (.getfield 100, 3) := by decide +kernel
theorem dX3_findHeight_40 : decode cX3_findHeight 40 = .ok (.iload_n 2, 1) := by decide +kernel
theorem dX3_findHeight_41 : decode cX3_findHeight 41 = .ok (.imul, 1) := by decide +kernel
theorem dX3_findHeight_42 : decode cX3_findHeight 42 = .ok (.istore_n 3, 1) := by decide +kernel
theorem dX3_findHeight_43 : decode cX3_findHeight 43 = .ok (.aload_n 1, 1) := by decide +kernel
theorem dX3_findHeight_44 : decode cX3_findHeight 44 = .ok (.iconst 5, 1) := by decide +kernel
theorem dX3_findHeight_45 : decode cX3_findHeight 45 = .ok (.invokevirtual 9, 3) := by decide +kernel
theorem dX3_findHeight_48 : decode cX3_findHeight 48 = .ok (.lookupswitch 56 #[(1, 28), (2, 40)], 28) := by decide +kernel
theorem dX3_findHeight_76 : decode cX3_findHeight 76 = .ok (.aload_n 0, 1) := by decide +kernel
theorem dX3_findHeight_77 : decode cX3_findHeight 77 = .ok (.iload_n 3, 1) := by decide +kernel
theorem dX3_findHeight_78 : decode cX3_findHeight 78 = .ok (.bipush 24, 2) := by decide +kernel
theorem dX3_findHeight_80 : decode cX3_findHeight 80 = .ok (.invokestatic 103, 3) := by decide +kernel
theorem dX3_findHeight_83 : decode cX3_findHeight 83 = .ok (.istore 4, 2) := by decide +kernel
theorem dX3_findHeight_85 : decode cX3_findHeight 85 = .ok (.goto 26, 3) := by decide +kernel
theorem dX3_findHeight_88 : decode cX3_findHeight 88 = .ok (.aload_n 0, 1) := by decide +kernel
theorem dX3_findHeight_89 : decode cX3_findHeight 89 = .ok (.iload_n 3, 1) := by decide +kernel
theorem dX3_findHeight_90 : decode cX3_findHeight 90 = .ok (.aload_n 1, 1) := by decide +kernel
theorem dX3_findHeight_91 : decode cX3_findHeight 91 = .ok (.bipush 7, 2) := by decide +kernel
theorem dX3_findHeight_93 : decode cX3_findHeight 93 = .ok (.invokevirtual 9, 3) := by decide +kernel
theorem dX3_findHeight_96 : decode cX3_findHeight 96 = .ok (.invokestatic 103, 3) := by decide +kernel
theorem dX3_findHeight_99 : decode cX3_findHeight 99 = .ok (.istore 4, 2) := by decide +kernel
theorem dX3_findHeight_101 : decode cX3_findHeight 101 = .ok (.goto 10, 3) := by decide +kernel
theorem dX3_findHeight_104 : decode cX3_findHeight 104 = .ok (.aload_n 0, 1) := by decide +kernel
theorem dX3_findHeight_105 : decode cX3_findHeight 105 = .ok (.iload_n 3, 1) := by decide +kernel
theorem dX3_findHeight_106 : decode cX3_findHeight 106 = .ok (.invokestatic 107, 3) := by decide +kernel
theorem dX3_findHeight_109 : decode cX3_findHeight 109 = .ok (.istore 4, 2) := by decide +kernel
theorem dX3_findHeight_111 : decode cX3_findHeight 111 = .ok (.aload_n 1, 1) := by decide +kernel
theorem dX3_findHeight_112 : decode cX3_findHeight 112 = .ok (.iconst 1, 1) := by decide +kernel
theorem dX3_findHeight_113 : decode cX3_findHeight 113 = .ok (.invokevirtual 9, 3) := by decide +kernel
theorem dX3_findHeight_116 : decode cX3_findHeight 116 = .ok (.istore 5, 2) := by decide +kernel
theorem dX3_findHeight_118 : decode cX3_findHeight 118 = .ok (.aload_n 1, 1) := by decide +kernel
theorem dX3_findHeight_119 : decode cX3_findHeight 119 = .ok (.iload 5, 2) := by decide +kernel
theorem dX3_findHeight_121 : decode cX3_findHeight 121 = .ok (.bipush (-2), 2) := by decide +kernel
theorem dX3_findHeight_123 : decode cX3_findHeight 123 = .ok (.if_icmp .ne 8, 3) := by decide +kernel
theorem dX3_findHeight_126 : decode cX3_findHeight 126 = .ok (.iload 4, 2) := by decide +kernel
theorem dX3_findHeight_128 : decode cX3_findHeight 128 = .ok (.goto 5, 3) := by decide +kernel
theorem dX3_findHeight_131 : decode cX3_findHeight 131 = .ok (.iload 5, 2) := by decide +kernel
theorem dX3_findHeight_133 : decode cX3_findHeight 133 = .ok (.putfield 111, 3) := by decide +kernel
theorem dX3_findHeight_136 : decode cX3_findHeight 136 = .ok (.return_, 1) := by decide +kernel
theorem dX3_stackBlocks_0 : decode cX3_stackBlocks 0 = .ok (.iload_n 1, 1) := by decide +kernel
theorem dX3_stackBlocks_1 : decode cX3_stackBlocks 1 = .ok (.istore_n 2, 1) := by decide +kernel
theorem dX3_stackBlocks_2 : decode cX3_stackBlocks 2 = .ok (.iconst 0, 1) := by decide +kernel
theorem dX3_stackBlocks_3 : decode cX3_stackBlocks 3 = .ok (.istore_n 3, 1) := by decide +kernel
theorem dX3_stackBlocks_4 : decode cX3_stackBlocks 4 = .ok (.aload_n 0, 1) := by decide +kernel
theorem dX3_stackBlocks_5 : decode cX3_stackBlocks 5 = .ok (.getfield 42, 3) := by decide +kernel
theorem dX3_stackBlocks_8 : decode cX3_stackBlocks 8 = .ok (.astore 4, 2) := by decide +kernel
theorem dX3_stackBlocks_10 : decode cX3_stackBlocks 10 = .ok (.aload 4, 2) := by decide +kernel
theorem dX3_stackBlocks_12 : decode cX3_stackBlocks 12 = .ok (.ifnull 64, 3) := by decide +kernel
theorem dX3_stackBlocks_15 : decode cX3_stackBlocks 15 = .ok (.aload 4, 2) := by decide +kernel
theorem dX3_stackBlocks_17 : decode cX3_stackBlocks 17 = .ok (.getfield 36, 3) := by decide +kernel
theorem dX3_stackBlocks_20 : decode cX3_stackBlocks 20 = .ok (.astore 5, 2) := by decide +kernel
theorem dX3_stackBlocks_22 : decode cX3_stackBlocks 22 = .ok (.aload 5, 2) := by decide +kernel
theorem dX3_stackBlocks_24 : decode cX3_stackBlocks 24 = .ok (.getfield 19, 3) := by decide +kernel
theorem dX3_stackBlocks_27 : decode cX3_stackBlocks 27 = .ok (.ifCond .eq 39, 3) := by decide +kernel
theorem dX3_stackBlocks_30 : decode cX3_stackBlocks 30 = .ok (.aload 5, 2) := by decide +kernel
theorem dX3_stackBlocks_32 : decode cX3_stackBlocks 32 = .ok (.iload_n 2, 1) := by decide +kernel
theorem dX3_stackBlocks_33 : decode cX3_stackBlocks 33 = .ok (.iload_n 3, 1) := by decide +kernel
theorem dX3_stackBlocks_34 : decode cX3_stackBlocks 34 = .ok (.aload 5, 2) := by decide +kernel
theorem dX3_stackBlocks_36 : decode cX3_stackBlocks 36 = .ok (.iconst 3, 1) := by decide +kernel
theorem dX3_stackBlocks_37 : decode cX3_stackBlocks 37 = .ok (.invokevirtual 9, 3) := by decide +kernel
theorem dX3_stackBlocks_40 : decode cX3_stackBlocks 40 = .ok (.invokestatic 114, 3) := by decide +kernel
theorem dX3_stackBlocks_43 : decode cX3_stackBlocks 43 = .ok (.iadd, 1) := by decide +kernel
theorem dX3_stackBlocks_44 : decode cX3_stackBlocks 44 = .ok (.putfield 117, 3) := by decide +kernel
theorem dX3_stackBlocks_47 : decode cX3_stackBlocks 47 = .ok (.aload 5, 2) := by decide +kernel
theorem dX3_stackBlocks_49 : decode cX3_stackBlocks 49 = .ok (.getfield 117, 3) := by decide +kernel
theorem dX3_stackBlocks_52 : decode cX3_stackBlocks 52 = .ok (.aload 5, 2) := by decide +kernel
theorem dX3_stackBlocks_54 : decode cX3_stackBlocks 54 = .ok (.getfield 111, 3) := by decide +kernel
theorem dX3_stackBlocks_57 : decode cX3_stackBlocks 57 = .ok (.iadd, 1) := by decide +kernel
theorem dX3_stackBlocks_58 : decode cX3_stackBlocks 58 = .ok (.istore_n 2, 1) := by decide +kernel
theorem dX3_stackBlocks_59 : decode cX3_stackBlocks 59 = .ok (.aload 5, 2) := by decide +kernel
theorem dX3_stackBlocks_61 : decode cX3_stackBlocks 61 = .ok (.iconst 4, 1) := by decide +kernel
theorem dX3_stackBlocks_62 : decode cX3_stackBlocks 62 = .ok (.invokevirtual 9, 3) := by decide +kernel
theorem dX3_stackBlocks_65 : decode cX3_stackBlocks 65 = .ok (.istore_n 3, 1) := by decide +kernel
theorem dX3_stackBlocks_66 : decode cX3_stackBlocks 66 = .ok (.aload 4, 2) := by decide +kernel
theorem dX3_stackBlocks_68 : decode cX3_stackBlocks 68 = .ok (.getfield 46, 3) := by decide +kernel
theorem dX3_stackBlocks_71 : decode cX3_stackBlocks 71 = .ok (.astore 4, 2) := by decide +kernel
theorem dX3_stackBlocks_73 : decode cX3_stackBlocks 73 = .ok (.goto (-63), 3) := by decide +kernel
theorem dX3_stackBlocks_76 : decode cX3_stackBlocks 76 = .ok (.iload_n 2, 1) := by decide +kernel
theorem dX3_stackBlocks_77 : decode cX3_stackBlocks 77 = .ok (.iload_n 3, 1) := by decide +kernel
theorem dX3_stackBlocks_78 : decode cX3_stackBlocks 78 = .ok (.iadd, 1) := by decide +kernel
theorem dX3_stackBlocks_79 : decode cX3_stackBlocks 79 = .ok (.ireturn, 1) := by decide +kernel
theorem dX3_stackRows_0 : decode cX3_stackRows 0 = .ok (.iload_n 1, 1) := by decide +kernel
theorem dX3_stackRows_1 : decode cX3_stackRows 1 = .ok (.istore_n 3, 1) := by decide +kernel
theorem dX3_stackRows_2 : decode cX3_stackRows 2 = .ok (.iconst 0, 1) := by decide +kernel
theorem dX3_stackRows_3 : decode cX3_stackRows 3 = .ok (.istore 4, 2) := by decide +kernel
theorem dX3_stackRows_5 : decode cX3_stackRows 5 = .ok (.iconst 0, 1) := by decide +kernel
theorem dX3_stackRows_6 : decode cX3_stackRows 6 = .ok (.istore 5, 2) := by decide +kernel
theorem dX3_stackRows_8 : decode cX3_stackRows 8 = .ok (.aload_n 0, 1) := by decide +kernel
theorem dX3_stackRows_9 : decode cX3_stackRows 9 = .ok (.getfield 42, 3) := by decide +kernel
theorem dX3_stackRows_12 : decode cX3_stackRows 12 = .ok (.astore 6, 2) := by decide +kernel
theorem dX3_stackRows_14 : decode cX3_stackRows 14 = .ok (.aload 6, 2) := by decide +kernel
theorem dX3_stackRows_16 : decode cX3_stackRows 16 = .ok (.ifnull 73, 3) := by decide +kernel
theorem dX3_stackRows_19 : decode cX3_stackRows 19 = .ok (.aload 6, 2) := by decide +kernel
theorem dX3_stackRows_21 : decode cX3_stackRows 21 = .ok (.getfield 36, 3) := by decide +kernel
theorem dX3_stackRows_24 : decode cX3_stackRows 24 = .ok (.astore 7, 2) := by decide +kernel
theorem dX3_stackRows_26 : decode cX3_stackRows 26 = .ok (.aload 7, 2) := by decide +kernel
theorem dX3_stackRows_28 : decode cX3_stackRows 28 = .ok (.getfield 19, 3) := by decide +kernel
theorem dX3_stackRows_31 : decode cX3_stackRows 31 = .ok (.ifCond .eq 48, 3) := by decide +kernel
theorem dX3_stackRows_34 : decode cX3_stackRows 34 = .ok (.iload 5, 2) := by decide +kernel
theorem dX3_stackRows_36 : decode cX3_stackRows 36 = .ok (.iload_n 2, 1) := by decide +kernel
theorem dX3_stackRows_37 : decode cX3_stackRows 37 = .ok (.if_icmp .lt 14, 3) := by decide +kernel
theorem dX3_stackRows_40 : decode cX3_stackRows 40 = .ok (.iload_n 3, 1) := by decide +kernel
theorem dX3_stackRows_41 : decode cX3_stackRows 41 = .ok (.iload 4, 2) := by decide +kernel
theorem dX3_stackRows_43 : decode cX3_stackRows 43 = .ok (.iadd, 1) := by decide +kernel
theorem dX3_stackRows_44 : decode cX3_stackRows 44 = .ok (.istore_n 3, 1) := by decide +kernel
theorem dX3_stackRows_45 : decode cX3_stackRows 45 = .ok (.iconst 0, 1) := by decide +kernel
theorem dX3_stackRows_46 : decode cX3_stackRows 46 = .ok (.istore 4, 2) := by decide +kernel
theorem dX3_stackRows_48 : decode cX3_stackRows 48 = .ok (.iconst 0, 1) := by decide +kernel
theorem dX3_stackRows_49 : decode cX3_stackRows 49 = .ok (.istore 5, 2) := by decide +kernel
theorem dX3_stackRows_51 : decode cX3_stackRows 51 = .ok (.aload 7, 2) := by decide +kernel
theorem dX3_stackRows_53 : decode cX3_stackRows 53 = .ok (.iload_n 3, 1) := by decide +kernel
theorem dX3_stackRows_54 : decode cX3_stackRows 54 = .ok (.aload 7, 2) := by decide +kernel
theorem dX3_stackRows_56 : decode cX3_stackRows 56 = .ok (.iconst 3, 1) := by decide +kernel
theorem dX3_stackRows_57 : decode cX3_stackRows 57 = .ok (.invokevirtual 9, 3) := by decide +kernel
theorem dX3_stackRows_60 : decode cX3_stackRows 60 = .ok (.iadd, 1) := by decide +kernel
theorem dX3_stackRows_61 : decode cX3_stackRows 61 = .ok (.putfield 117, 3) := by decide +kernel
theorem dX3_stackRows_64 : decode cX3_stackRows 64 = .ok (.iload 4, 2) := by decide +kernel
theorem dX3_stackRows_66 : decode cX3_stackRows 66 = .ok (.aload 7, 2) := by decide +kernel
theorem dX3_stackRows_68 : decode cX3_stackRows 68 = .ok (.invokevirtual 120, 3) := by decide +kernel
theorem dX3_stackRows_71 : decode cX3_stackRows 71 = .ok (.invokestatic 114, 3) := by decide +kernel
theorem dX3_stackRows_74 : decode cX3_stackRows 74 = .ok (.istore 4, 2) := by decide +kernel
theorem dX3_stackRows_76 : decode cX3_stackRows 76 = .ok (.iinc 5 1, 3) := by decide +kernel
theorem dX3_stackRows_79 : decode cX3_stackRows 79 = .ok (.aload 6, 2) := by decide +kernel
theorem dX3_stackRows_81 : decode cX3_stackRows 81 = .ok (.getfield 46, 3) := by decide +kernel
theorem dX3_stackRows_84 : decode cX3_stackRows 84 = .ok (.astore 6, 2) := by decide +kernel
theorem dX3_stackRows_86 : decode cX3_stackRows 86 = .ok (.goto (-72), 3) := by decide +kernel
theorem dX3_stackRows_89 : decode cX3_stackRows 89 = .ok (.iload_n 3, 1) := by decide +kernel
theorem dX3_stackRows_90 : decode cX3_stackRows 90 = .ok (.iload 4, 2) := by decide +kernel
theorem dX3_stackRows_92 : decode cX3_stackRows 92 = .ok (.iadd, 1) := by decide +kernel
theorem dX3_stackRows_93 : decode cX3_stackRows 93 = .ok (.ireturn, 1) := by decide +kernel
theorem dX3_placeChildren_0 : decode cX3_placeChildren 0 = .ok (.aload_n 0, 1) := by decide +kernel
theorem dX3_placeChildren_1 : decode cX3_placeChildren 1 = .ok (.getfield 42, 3) := by decide +kernel
theorem dX3_placeChildren_4 : decode cX3_placeChildren 4 = .ok (.astore_n 1, 1) := by decide +kernel
theorem dX3_placeChildren_5 : decode cX3_placeChildren 5 = .ok (.aload_n 1, 1) := by decide +kernel
theorem dX3_placeChildren_6 : decode cX3_placeChildren 6 = .ok (.ifnull 40, 3) := by decide +kernel
theorem dX3_placeChildren_9 : decode cX3_placeChildren 9 = .ok (.aload_n 1, 1) := by decide +kernel
theorem dX3_placeChildren_10 : decode cX3_placeChildren 10 = .ok (.getfield 36, 3) := by decide +kernel
theorem dX3_placeChildren_13 : decode cX3_placeChildren 13 = .ok (.getfield 19, 3) := by decide +kernel
theorem dX3_placeChildren_16 : decode cX3_placeChildren 16 = .ok (.ifCond .eq 22, 3) := by decide +kernel
theorem dX3_placeChildren_19 : decode cX3_placeChildren 19 = .ok (.aload_n 1, 1) := by decide +kernel
theorem dX3_placeChildren_20 : decode cX3_placeChildren 20 = .ok (.getfield 36, 3) := by decide +kernel
theorem dX3_placeChildren_23 : decode cX3_placeChildren 23 = .ok (.dup, 1) := by decide +kernel
theorem dX3_placeChildren_24 : decode cX3_placeChildren 24 = .ok (.getfield 117, 3) := by decide +kernel
theorem dX3_placeChildren_27 : decode cX3_placeChildren 27 = .ok (.aload_n 0, 1) := by decide +kernel
theorem dX3_placeChildren_28 : decode cX3_placeChildren 28 = .ok (.getfield 36, 3) := by decide +kernel
theorem dX3_placeChildren_31 : decode cX3_placeChildren 31 = .ok (.getfield 117, 3) := by decide +kernel
theorem dX3_placeChildren_34 : decode cX3_placeChildren 34 = .ok (.iadd, 1) := by decide +kernel
theorem dX3_placeChildren_35 : decode cX3_placeChildren 35 = .ok (.putfield 117, 3) := by decide +kernel
theorem dX3_placeChildren_38 : decode cX3_placeChildren 38 = .ok (.aload_n 1, 1) := by decide +kernel
theorem dX3_placeChildren_39 : decode cX3_placeChildren 39 = .ok (.getfield 46, 3) := by decide +kernel
theorem dX3_placeChildren_42 : decode cX3_placeChildren 42 = .ok (.astore_n 1, 1) := by decide +kernel
theorem dX3_placeChildren_43 : decode cX3_placeChildren 43 = .ok (.goto (-38), 3) := by decide +kernel
theorem dX3_placeChildren_46 : decode cX3_placeChildren 46 = .ok (.return_, 1) := by decide +kernel
theorem dX4_init_0 : decode cX4_init 0 = .ok (.aload_n 0, 1) := by decide +kernel
theorem dX4_init_1 : decode cX4_init 1 = .ok (.invokespecial 3, 3) := by decide +kernel
theorem dX4_init_4 : decode cX4_init 4 = .ok (.aload_n 0, 1) := by decide +kernel
theorem dX4_init_5 : decode cX4_init 5 = .ok (.bipush 14, 2) := by decide +kernel
theorem dX4_init_7 : decode cX4_init 7 = .ok (.newarray .int, 2) := by decide +kernel
theorem dX4_init_9 : decode cX4_init 9 = .ok (.putfield 9, 3) := by decide +kernel
theorem dX4_init_12 : decode cX4_init 12 = .ok (.aload_n 0, 1) := by decide +kernel
theorem dX4_init_13 : decode cX4_init 13 = .ok (.bipush 14, 2) := by decide +kernel
theorem dX4_init_15 : decode cX4_init 15 = .ok (.newarray .int, 2) := by decide +kernel
theorem dX4_init_17 : decode cX4_init 17 = .ok (.putfield 15, 3) := by decide +kernel
theorem dX4_init_20 : decode cX4_init 20 = .ok (.return_, 1) := by decide +kernel
theorem dX4_valueOf_0 : decode cX4_valueOf 0 = .ok (.iload_n 1, 1) := by decide +kernel
theorem dX4_valueOf_1 : decode cX4_valueOf 1 = .ok (.ifCond .lt 21, 3) := by decide +kernel
theorem dX4_valueOf_4 : decode cX4_valueOf 4 = .ok (.iload_n 1, 1) := by decide +kernel
theorem dX4_valueOf_5 : decode cX4_valueOf 5 = .ok (.aload_n 0, 1) := by decide +kernel
theorem dX4_valueOf_6 : decode cX4_valueOf 6 = .ok (.getfield 9, 3) := by decide +kernel
theorem dX4_valueOf_9 : decode cX4_valueOf 9 = .ok (.arraylength, 1) := by decide +kernel
theorem dX4_valueOf_10 : decode cX4_valueOf 10 = .ok (.if_icmp .ge 12, 3) := by decide +kernel
theorem dX4_valueOf_13 : decode cX4_valueOf 13 = .ok (.aload_n 0, 1) := by decide +kernel
theorem dX4_valueOf_14 : decode cX4_valueOf 14 = .ok (.getfield 9, 3) := by decide +kernel
theorem dX4_valueOf_17 : decode cX4_valueOf 17 = .ok (.iload_n 1, 1) := by decide +kernel
theorem dX4_valueOf_18 : decode cX4_valueOf 18 = .ok (.iaload, 1) := by decide +kernel
theorem dX4_valueOf_19 : decode cX4_valueOf 19 = .ok (.goto 4, 3) := by decide +kernel
theorem dX4_valueOf_22 : decode cX4_valueOf 22 = .ok (.iconst (-1), 1) := by decide +kernel
theorem dX4_valueOf_23 : decode cX4_valueOf 23 = .ok (.ireturn, 1) := by decide +kernel
theorem dX4_sourceOf_0 : decode cX4_sourceOf 0 = .ok (.iload_n 1, 1) := by decide +kernel
theorem dX4_sourceOf_1 : decode cX4_sourceOf 1 = .ok (.ifCond .lt 21, 3) := by decide +kernel
theorem dX4_sourceOf_4 : decode cX4_sourceOf 4 = .ok (.iload_n 1, 1) := by decide +kernel
theorem dX4_sourceOf_5 : decode cX4_sourceOf 5 = .ok (.aload_n 0, 1) := by decide +kernel
theorem dX4_sourceOf_6 : decode cX4_sourceOf 6 = .ok (.getfield 15, 3) := by decide +kernel
theorem dX4_sourceOf_9 : decode cX4_sourceOf 9 = .ok (.arraylength, 1) := by decide +kernel
theorem dX4_sourceOf_10 : decode cX4_sourceOf 10 = .ok (.if_icmp .ge 12, 3) := by decide +kernel
theorem dX4_sourceOf_13 : decode cX4_sourceOf 13 = .ok (.aload_n 0, 1) := by decide +kernel
theorem dX4_sourceOf_14 : decode cX4_sourceOf 14 = .ok (.getfield 15, 3) := by decide +kernel
theorem dX4_sourceOf_17 : decode cX4_sourceOf 17 = .ok (.iload_n 1, 1) := by decide +kernel
theorem dX4_sourceOf_18 : decode cX4_sourceOf 18 = .ok (.iaload, 1) := by decide +kernel
theorem dX4_sourceOf_19 : decode cX4_sourceOf 19 = .ok (.goto 4, 3) := by decide +kernel
theorem dX4_sourceOf_22 : decode cX4_sourceOf 22 = .ok (.iconst (-1), 1) := by decide +kernel
theorem dX4_sourceOf_23 : decode cX4_sourceOf 23 = .ok (.ireturn, 1) := by decide +kernel
theorem dX4_put_0 : decode cX4_put 0 = .ok (.iload_n 1, 1) := by decide +kernel
theorem dX4_put_1 : decode cX4_put 1 = .ok (.ifCond .lt 35, 3) := by decide +kernel
theorem dX4_put_4 : decode cX4_put 4 = .ok (.iload_n 1, 1) := by decide +kernel
theorem dX4_put_5 : decode cX4_put 5 = .ok (.aload_n 0, 1) := by decide +kernel
theorem dX4_put_6 : decode cX4_put 6 = .ok (.getfield 9, 3) := by decide +kernel
theorem dX4_put_9 : decode cX4_put 9 = .ok (.arraylength, 1) := by decide +kernel
theorem dX4_put_10 : decode cX4_put 10 = .ok (.if_icmp .ge 26, 3) := by decide +kernel
theorem dX4_put_13 : decode cX4_put 13 = .ok (.iload_n 1, 1) := by decide +kernel
theorem dX4_put_14 : decode cX4_put 14 = .ok (.aload_n 0, 1) := by decide +kernel
theorem dX4_put_15 : decode cX4_put 15 = .ok (.getfield 15, 3) := by decide +kernel
theorem dX4_put_18 : decode cX4_put 18 = .ok (.arraylength, 1) := by decide +kernel
theorem dX4_put_19 : decode cX4_put 19 = .ok (.if_icmp .ge 17, 3) := by decide +kernel
theorem dX4_put_22 : decode cX4_put 22 = .ok (.aload_n 0, 1) := by decide +kernel
theorem dX4_put_23 : decode cX4_put 23 = .ok (.getfield 9, 3) := by decide +kernel
theorem dX4_put_26 : decode cX4_put 26 = .ok (.iload_n 1, 1) := by decide +kernel
theorem dX4_put_27 : decode cX4_put 27 = .ok (.iload_n 2, 1) := by decide +kernel
theorem dX4_put_28 : decode cX4_put 28 = .ok (.iastore, 1) := by decide +kernel
theorem dX4_put_29 : decode cX4_put 29 = .ok (.aload_n 0, 1) := by decide +kernel
theorem dX4_put_30 : decode cX4_put 30 = .ok (.getfield 15, 3) := by decide +kernel
theorem dX4_put_33 : decode cX4_put 33 = .ok (.iload_n 1, 1) := by decide +kernel
theorem dX4_put_34 : decode cX4_put 34 = .ok (.iload_n 3, 1) := by decide +kernel
theorem dX4_put_35 : decode cX4_put 35 = .ok (.iastore, 1) := by decide +kernel
theorem dX4_put_36 : decode cX4_put 36 = .ok (.return_, 1) := by decide +kernel
theorem dX4_beginBox_0 : decode cX4_beginBox 0 = .ok (.aload_n 0, 1) := by decide +kernel
theorem dX4_beginBox_1 : decode cX4_beginBox 1 = .ok (.iload_n 1, 1) := by decide +kernel
theorem dX4_beginBox_2 : decode cX4_beginBox 2 = .ok (.putfield 18, 3) := by decide +kernel
theorem dX4_beginBox_5 : decode cX4_beginBox 5 = .ok (.aload_n 0, 1) := by decide +kernel
theorem dX4_beginBox_6 : decode cX4_beginBox 6 = .ok (.iconst 0, 1) := by decide +kernel
theorem dX4_beginBox_7 : decode cX4_beginBox 7 = .ok (.putfield 22, 3) := by decide +kernel
theorem dX4_beginBox_10 : decode cX4_beginBox 10 = .ok (.aload_n 0, 1) := by decide +kernel
theorem dX4_beginBox_11 : decode cX4_beginBox 11 = .ok (.iconst 0, 1) := by decide +kernel
theorem dX4_beginBox_12 : decode cX4_beginBox 12 = .ok (.putfield 26, 3) := by decide +kernel
theorem dX4_beginBox_15 : decode cX4_beginBox 15 = .ok (.aload_n 0, 1) := by decide +kernel
theorem dX4_beginBox_16 : decode cX4_beginBox 16 = .ok (.iconst 0, 1) := by decide +kernel
theorem dX4_beginBox_17 : decode cX4_beginBox 17 = .ok (.putfield 29, 3) := by decide +kernel
theorem dX4_beginBox_20 : decode cX4_beginBox 20 = .ok (.aload_n 0, 1) := by decide +kernel
theorem dX4_beginBox_21 : decode cX4_beginBox 21 = .ok (.iconst 0, 1) := by decide +kernel
theorem dX4_beginBox_22 : decode cX4_beginBox 22 = .ok (.putfield 32, 3) := by decide +kernel
theorem dX4_beginBox_25 : decode cX4_beginBox 25 = .ok (.aload_n 0, 1) := by decide +kernel
theorem dX4_beginBox_26 : decode cX4_beginBox 26 = .ok (.iconst 0, 1) := by decide +kernel
theorem dX4_beginBox_27 : decode cX4_beginBox 27 = .ok (.putfield 35, 3) := by decide +kernel
theorem dX4_beginBox_30 : decode cX4_beginBox 30 = .ok (.aload_n 0, 1) := by decide +kernel
theorem dX4_beginBox_31 : decode cX4_beginBox 31 = .ok (.iconst 0, 1) := by decide +kernel
theorem dX4_beginBox_32 : decode cX4_beginBox 32 = .ok (.putfield 38, 3) := by decide +kernel
theorem dX4_beginBox_35 : decode cX4_beginBox 35 = .ok (.aload_n 0, 1) := by decide +kernel
theorem dX4_beginBox_36 : decode cX4_beginBox 36 = .ok (.iconst 0, 1) := by decide +kernel
theorem dX4_beginBox_37 : decode cX4_beginBox 37 = .ok (.putfield 41, 3) := by decide +kernel
theorem dX4_beginBox_40 : decode cX4_beginBox 40 = .ok (.return_, 1) := by decide +kernel
theorem dX4_atMost_0 : decode cX4_atMost 0 = .ok (.iconst 2, 1) := by decide +kernel
theorem dX4_atMost_1 : decode cX4_atMost 1 = .ok (.aload_n 0, 1) := by decide +kernel
theorem dX4_atMost_2 : decode cX4_atMost 2 = .ok (.getfield 9, 3) := by decide +kernel
theorem dX4_atMost_5 : decode cX4_atMost 5 = .ok (.arraylength, 1) := by decide +kernel
theorem dX4_atMost_6 : decode cX4_atMost 6 = .ok (.if_icmp .ge 12, 3) := by decide +kernel
theorem dX4_atMost_9 : decode cX4_atMost 9 = .ok (.aload_n 0, 1) := by decide +kernel
theorem dX4_atMost_10 : decode cX4_atMost 10 = .ok (.getfield 9, 3) := by decide +kernel
theorem dX4_atMost_13 : decode cX4_atMost 13 = .ok (.iconst 2, 1) := by decide +kernel
theorem dX4_atMost_14 : decode cX4_atMost 14 = .ok (.iaload, 1) := by decide +kernel
theorem dX4_atMost_15 : decode cX4_atMost 15 = .ok (.goto 5, 3) := by decide +kernel
theorem dX4_atMost_18 : decode cX4_atMost 18 = .ok (.bipush (-2), 2) := by decide +kernel
theorem dX4_atMost_20 : decode cX4_atMost 20 = .ok (.istore_n 2, 1) := by decide +kernel
theorem dX4_atMost_21 : decode cX4_atMost 21 = .ok (.iload_n 2, 1) := by decide +kernel
theorem dX4_atMost_22 : decode cX4_atMost 22 = .ok (.bipush (-2), 2) := by decide +kernel
theorem dX4_atMost_24 : decode cX4_atMost 24 = .ok (.if_icmp .eq 8, 3) := by decide +kernel
theorem dX4_atMost_27 : decode cX4_atMost 27 = .ok (.iload_n 2, 1) := by decide +kernel
theorem dX4_atMost_28 : decode cX4_atMost 28 = .ok (.iload_n 1, 1) := by decide +kernel
theorem dX4_atMost_29 : decode cX4_atMost 29 = .ok (.if_icmp .le 7, 3) := by decide +kernel
theorem dX4_atMost_32 : decode cX4_atMost 32 = .ok (.iload_n 1, 1) := by decide +kernel
theorem dX4_atMost_33 : decode cX4_atMost 33 = .ok (.goto 4, 3) := by decide +kernel
theorem dX4_atMost_36 : decode cX4_atMost 36 = .ok (.iload_n 2, 1) := by decide +kernel
theorem dX4_atMost_37 : decode cX4_atMost 37 = .ok (.ireturn, 1) := by decide +kernel
theorem dX4_heightWithMargins_0 : decode cX4_heightWithMargins 0 = .ok (.aload_n 0, 1) := by decide +kernel
theorem dX4_heightWithMargins_1 : decode cX4_heightWithMargins 1 = .ok (.iconst 3, 1) := by decide +kernel
theorem dX4_heightWithMargins_2 : decode cX4_heightWithMargins 2 = .ok (.invokevirtual 44, 3) := by decide +kernel
theorem dX4_heightWithMargins_5 : decode cX4_heightWithMargins 5 = .ok (.aload_n 0, 1) := by decide +kernel
theorem dX4_heightWithMargins_6 : decode cX4_heightWithMargins 6 = .ok (.getfield 32, 3) := by decide +kernel
theorem dX4_heightWithMargins_9 : decode cX4_heightWithMargins 9 = .ok (.iadd, 1) := by decide +kernel
theorem dX4_heightWithMargins_10 : decode cX4_heightWithMargins 10 = .ok (.aload_n 0, 1) := by decide +kernel
theorem dX4_heightWithMargins_11 : decode cX4_heightWithMargins 11 = .ok (.iconst 4, 1) := by decide +kernel
theorem dX4_heightWithMargins_12 : decode cX4_heightWithMargins 12 = .ok (.invokevirtual 44, 3) := by decide +kernel
theorem dX4_heightWithMargins_15 : decode cX4_heightWithMargins 15 = .ok (.iadd, 1) := by decide +kernel
theorem dX4_heightWithMargins_16 : decode cX4_heightWithMargins 16 = .ok (.ireturn, 1) := by decide +kernel
theorem dX4_measure_0 : decode cX4_measure 0 = .ok (.aload_n 0, 1) := by decide +kernel
theorem dX4_measure_1 : decode cX4_measure 1 = .ok (.getfield 18, 3) := by decide +kernel
theorem dX4_measure_4 : decode cX4_measure 4 = .ok (.ifCond .ne 5, 3) := by decide +kernel
theorem dX4_measure_7 : decode cX4_measure 7 = .ok (.iconst (-1), 1) := by decide +kernel
theorem dX4_measure_8 : decode cX4_measure 8 = .ok (.ireturn, 1) := by decide +kernel
theorem dX4_measure_9 : decode cX4_measure 9 = .ok (.iload_n 1, 1) := by decide +kernel
theorem dX4_measure_10 : decode cX4_measure 10 = .ok (.tableswitch 41 0 2 #[26, 31, 36], 26) := by decide +kernel
theorem dX4_measure_36 : decode cX4_measure 36 = .ok (.aload_n 0, 1) := by decide +kernel
theorem dX4_measure_37 : decode cX4_measure 37 = .ok (.getfield 22, 3) := by decide +kernel
theorem dX4_measure_40 : decode cX4_measure 40 = .ok (.ireturn, 1) := by decide +kernel
theorem dX4_measure_41 : decode cX4_measure 41 = .ok (.aload_n 0, 1) := by decide +kernel
theorem dX4_measure_42 : decode cX4_measure 42 = .ok (.getfield 26, 3) := by decide +kernel
theorem dX4_measure_45 : decode cX4_measure 45 = .ok (.ireturn, 1) := by decide +kernel
theorem dX4_measure_46 : decode cX4_measure 46 = .ok (.aload_n 0, 1) := by decide +kernel
theorem dX4_measure_47 : decode cX4_measure 47 = .ok (.getfield 29, 3) := by decide +kernel
theorem dX4_measure_50 : decode cX4_measure 50 = .ok (.ireturn, 1) := by decide +kernel
theorem dX4_measure_51 : decode cX4_measure 51 = .ok (.aload_n 0, 1) := by decide +kernel
theorem dX4_measure_52 : decode cX4_measure 52 = .ok (.getfield 32, 3) := by decide +kernel
theorem dX4_measure_55 : decode cX4_measure 55 = .ok (.ireturn, 1) := by decide +kernel
theorem dX4_isSame_0 : decode cX4_isSame 0 = .ok (.iconst 0, 1) := by decide +kernel
theorem dX4_isSame_1 : decode cX4_isSame 1 = .ok (.istore_n 2, 1) := by decide +kernel
theorem dX4_isSame_2 : decode cX4_isSame 2 = .ok (.iload_n 2, 1) := by decide +kernel
theorem dX4_isSame_3 : decode cX4_isSame 3 = .ok (.bipush 14, 2) := by decide +kernel
theorem dX4_isSame_5 : decode cX4_isSame 5 = .ok (.if_icmp .ge 24, 3) := by decide +kernel
theorem dX4_isSame_8 : decode cX4_isSame 8 = .ok (.aload_n 0, 1) := by decide +kernel
theorem dX4_isSame_9 : decode cX4_isSame 9 = .ok (.iload_n 2, 1) := by decide +kernel
theorem dX4_isSame_10 : decode cX4_isSame 10 = .ok (.invokevirtual 44, 3) := by decide +kernel
theorem dX4_isSame_13 : decode cX4_isSame 13 = .ok (.aload_n 1, 1) := by decide +kernel
theorem dX4_isSame_14 : decode cX4_isSame 14 = .ok (.iload_n 2, 1) := by decide +kernel
theorem dX4_isSame_15 : decode cX4_isSame 15 = .ok (.invokevirtual 44, 3) := by decide +kernel
theorem dX4_isSame_18 : decode cX4_isSame 18 = .ok (.if_icmp .eq 5, 3) := by decide +kernel
theorem dX4_isSame_21 : decode cX4_isSame 21 = .ok (.iconst 0, 1) := by decide +kernel
theorem dX4_isSame_22 : decode cX4_isSame 22 = .ok (.ireturn, 1) := by decide +kernel
theorem dX4_isSame_23 : decode cX4_isSame 23 = .ok (.iinc 2 1, 3) := by decide +kernel
theorem dX4_isSame_26 : decode cX4_isSame 26 = .ok (.goto (-24), 3) := by decide +kernel
theorem dX4_isSame_29 : decode cX4_isSame 29 = .ok (.aload_n 0, 1) := by decide +kernel
theorem dX4_isSame_30 : decode cX4_isSame 30 = .ok (.getfield 18, 3) := by decide +kernel
theorem dX4_isSame_33 : decode cX4_isSame 33 = .ok (.aload_n 1, 1) := by decide +kernel
theorem dX4_isSame_34 : decode cX4_isSame 34 = .ok (.getfield 18, 3) := by decide +kernel
theorem dX4_isSame_37 : decode cX4_isSame 37 = .ok (.if_icmp .ne 51, 3) := by decide +kernel
theorem dX4_isSame_40 : decode cX4_isSame 40 = .ok (.aload_n 0, 1) := by decide +kernel
theorem dX4_isSame_41 : decode cX4_isSame 41 = .ok (.getfield 22, 3) := by decide +kernel
theorem dX4_isSame_44 : decode cX4_isSame 44 = .ok (.aload_n 1, 1) := by decide +kernel
theorem dX4_isSame_45 : decode cX4_isSame 45 = .ok (.getfield 22, 3) := by decide +kernel
theorem dX4_isSame_48 : decode cX4_isSame 48 = .ok (.if_icmp .ne 40, 3) := by decide +kernel
theorem dX4_isSame_51 : decode cX4_isSame 51 = .ok (.aload_n 0, 1) := by decide +kernel
theorem dX4_isSame_52 : decode cX4_isSame 52 = .ok (.getfield 26, 3) := by decide +kernel
theorem dX4_isSame_55 : decode cX4_isSame 55 = .ok (.aload_n 1, 1) := by decide +kernel
theorem dX4_isSame_56 : decode cX4_isSame 56 = .ok (.getfield 26, 3) := by decide +kernel
theorem dX4_isSame_59 : decode cX4_isSame 59 = .ok (.if_icmp .ne 29, 3) := by decide +kernel
theorem dX4_isSame_62 : decode cX4_isSame 62 = .ok (.aload_n 0, 1) := by decide +kernel
theorem dX4_isSame_63 : decode cX4_isSame 63 = .ok (.getfield 29, 3) := by decide +kernel
theorem dX4_isSame_66 : decode cX4_isSame 66 = .ok (.aload_n 1, 1) := by decide +kernel
theorem dX4_isSame_67 : decode cX4_isSame 67 = .ok (.getfield 29, 3) := by decide +kernel
theorem dX4_isSame_70 : decode cX4_isSame 70 = .ok (.if_icmp .ne 18, 3) := by decide +kernel
theorem dX4_isSame_73 : decode cX4_isSame 73 = .ok (.aload_n 0, 1) := by decide +kernel
theorem dX4_isSame_74 : decode cX4_isSame 74 = .ok (.getfield 32, 3) := by decide +kernel
theorem dX4_isSame_77 : decode cX4_isSame 77 = .ok (.aload_n 1, 1) := by decide +kernel
theorem dX4_isSame_78 : decode cX4_isSame 78 = .ok (.getfield 32, 3) := by decide +kernel
theorem dX4_isSame_81 : decode cX4_isSame 81 = .ok (.if_icmp .ne 7, 3) := by decide +kernel
theorem dX4_isSame_84 : decode cX4_isSame 84 = .ok (.iconst 1, 1) := by decide +kernel
theorem dX4_isSame_85 : decode cX4_isSame 85 = .ok (.goto 4, 3) := by decide +kernel
theorem dX4_isSame_88 : decode cX4_isSame 88 = .ok (.iconst 0, 1) := by decide +kernel
theorem dX4_isSame_89 : decode cX4_isSame 89 = .ok (.ireturn, 1) := by decide +kernel
theorem dX5_init_0 : decode cX5_init 0 = .ok (.aload_n 0, 1) := by decide +kernel
theorem dX5_init_1 : decode cX5_init 1 = .ok (.invokespecial 3, 3) := by decide +kernel
theorem dX5_init_4 : decode cX5_init 4 = .ok (.aload_n 0, 1) := by decide +kernel
theorem dX5_init_5 : decode cX5_init 5 = .ok (.iload_n 1, 1) := by decide +kernel
theorem dX5_init_6 : decode cX5_init 6 = .ok (.putfield 9, 3) := by decide +kernel
theorem dX5_init_9 : decode cX5_init 9 = .ok (.aload_n 0, 1) := by decide +kernel
theorem dX5_init_10 : decode cX5_init 10 = .ok (.iload_n 2, 1) := by decide +kernel
theorem dX5_init_11 : decode cX5_init 11 = .ok (.putfield 15, 3) := by decide +kernel
theorem dX5_init_14 : decode cX5_init 14 = .ok (.aload_n 0, 1) := by decide +kernel
theorem dX5_init_15 : decode cX5_init 15 = .ok (.iload_n 3, 1) := by decide +kernel
theorem dX5_init_16 : decode cX5_init 16 = .ok (.putfield 18, 3) := by decide +kernel
theorem dX5_init_19 : decode cX5_init 19 = .ok (.aload_n 0, 1) := by decide +kernel
theorem dX5_init_20 : decode cX5_init 20 = .ok (.iload 4, 2) := by decide +kernel
theorem dX5_init_22 : decode cX5_init 22 = .ok (.putfield 21, 3) := by decide +kernel
theorem dX5_init_25 : decode cX5_init 25 = .ok (.return_, 1) := by decide +kernel
theorem dX5_isLike_0 : decode cX5_isLike 0 = .ok (.aload_n 0, 1) := by decide +kernel
theorem dX5_isLike_1 : decode cX5_isLike 1 = .ok (.getfield 15, 3) := by decide +kernel
theorem dX5_isLike_4 : decode cX5_isLike 4 = .ok (.iconst (-1), 1) := by decide +kernel
theorem dX5_isLike_5 : decode cX5_isLike 5 = .ok (.if_icmp .eq 14, 3) := by decide +kernel
theorem dX5_isLike_8 : decode cX5_isLike 8 = .ok (.aload_n 0, 1) := by decide +kernel
theorem dX5_isLike_9 : decode cX5_isLike 9 = .ok (.getfield 15, 3) := by decide +kernel
theorem dX5_isLike_12 : decode cX5_isLike 12 = .ok (.aload_n 1, 1) := by decide +kernel
theorem dX5_isLike_13 : decode cX5_isLike 13 = .ok (.getfield 24, 3) := by decide +kernel
theorem dX5_isLike_16 : decode cX5_isLike 16 = .ok (.if_icmp .ne 35, 3) := by decide +kernel
theorem dX5_isLike_19 : decode cX5_isLike 19 = .ok (.aload_n 1, 1) := by decide +kernel
theorem dX5_isLike_20 : decode cX5_isLike 20 = .ok (.getfield 27, 3) := by decide +kernel
theorem dX5_isLike_23 : decode cX5_isLike 23 = .ok (.aload_n 0, 1) := by decide +kernel
theorem dX5_isLike_24 : decode cX5_isLike 24 = .ok (.getfield 18, 3) := by decide +kernel
theorem dX5_isLike_27 : decode cX5_isLike 27 = .ok (.iand, 1) := by decide +kernel
theorem dX5_isLike_28 : decode cX5_isLike 28 = .ok (.aload_n 0, 1) := by decide +kernel
theorem dX5_isLike_29 : decode cX5_isLike 29 = .ok (.getfield 18, 3) := by decide +kernel
theorem dX5_isLike_32 : decode cX5_isLike 32 = .ok (.if_icmp .ne 19, 3) := by decide +kernel
theorem dX5_isLike_35 : decode cX5_isLike 35 = .ok (.aload_n 1, 1) := by decide +kernel
theorem dX5_isLike_36 : decode cX5_isLike 36 = .ok (.getfield 27, 3) := by decide +kernel
theorem dX5_isLike_39 : decode cX5_isLike 39 = .ok (.aload_n 0, 1) := by decide +kernel
theorem dX5_isLike_40 : decode cX5_isLike 40 = .ok (.getfield 21, 3) := by decide +kernel
theorem dX5_isLike_43 : decode cX5_isLike 43 = .ok (.iand, 1) := by decide +kernel
theorem dX5_isLike_44 : decode cX5_isLike 44 = .ok (.ifCond .ne 7, 3) := by decide +kernel
theorem dX5_isLike_47 : decode cX5_isLike 47 = .ok (.iconst 1, 1) := by decide +kernel
theorem dX5_isLike_48 : decode cX5_isLike 48 = .ok (.goto 4, 3) := by decide +kernel
theorem dX5_isLike_51 : decode cX5_isLike 51 = .ok (.iconst 0, 1) := by decide +kernel
theorem dX5_isLike_52 : decode cX5_isLike 52 = .ok (.ireturn, 1) := by decide +kernel
theorem dX5_weightAlone_0 : decode cX5_weightAlone 0 = .ok (.bipush 10, 2) := by decide +kernel
theorem dX5_weightAlone_2 : decode cX5_weightAlone 2 = .ok (.aload_n 0, 1) := by decide +kernel
theorem dX5_weightAlone_3 : decode cX5_weightAlone 3 = .ok (.getfield 18, 3) := by decide +kernel
theorem dX5_weightAlone_6 : decode cX5_weightAlone 6 = .ok (.invokestatic 30, 3) := by decide +kernel
theorem dX5_weightAlone_9 : decode cX5_weightAlone 9 = .ok (.aload_n 0, 1) := by decide +kernel
theorem dX5_weightAlone_10 : decode cX5_weightAlone 10 = .ok (.getfield 21, 3) := by decide +kernel
theorem dX5_weightAlone_13 : decode cX5_weightAlone 13 = .ok (.invokestatic 30, 3) := by decide +kernel
theorem dX5_weightAlone_16 : decode cX5_weightAlone 16 = .ok (.iadd, 1) := by decide +kernel
theorem dX5_weightAlone_17 : decode cX5_weightAlone 17 = .ok (.imul, 1) := by decide +kernel
theorem dX5_weightAlone_18 : decode cX5_weightAlone 18 = .ok (.aload_n 0, 1) := by decide +kernel
theorem dX5_weightAlone_19 : decode cX5_weightAlone 19 = .ok (.getfield 15, 3) := by decide +kernel
theorem dX5_weightAlone_22 : decode cX5_weightAlone 22 = .ok (.iconst (-1), 1) := by decide +kernel
theorem dX5_weightAlone_23 : decode cX5_weightAlone 23 = .ok (.if_icmp .ne 7, 3) := by decide +kernel
theorem dX5_weightAlone_26 : decode cX5_weightAlone 26 = .ok (.iconst 0, 1) := by decide +kernel
theorem dX5_weightAlone_27 : decode cX5_weightAlone 27 = .ok (.goto 4, 3) := by decide +kernel
theorem dX5_weightAlone_30 : decode cX5_weightAlone 30 = .ok (.iconst 1, 1) := by decide +kernel
theorem dX5_weightAlone_31 : decode cX5_weightAlone 31 = .ok (.iadd, 1) := by decide +kernel
theorem dX5_weightAlone_32 : decode cX5_weightAlone 32 = .ok (.ireturn, 1) := by decide +kernel
theorem dX6_canBe_0 : decode cX6_canBe 0 = .ok (.iload_n 0, 1) := by decide +kernel
theorem dX6_canBe_1 : decode cX6_canBe 1 = .ok (.bipush 14, 2) := by decide +kernel
theorem dX6_canBe_3 : decode cX6_canBe 3 = .ok (.if_icmp .ne 7, 3) := by decide +kernel
theorem dX6_canBe_6 : decode cX6_canBe 6 = .ok (.iconst 3, 1) := by decide +kernel
theorem dX6_canBe_7 : decode cX6_canBe 7 = .ok (.goto 4, 3) := by decide +kernel
theorem dX6_canBe_10 : decode cX6_canBe 10 = .ok (.iload_n 0, 1) := by decide +kernel
theorem dX6_canBe_11 : decode cX6_canBe 11 = .ok (.istore_n 2, 1) := by decide +kernel
theorem dX6_canBe_12 : decode cX6_canBe 12 = .ok (.iload_n 2, 1) := by decide +kernel
theorem dX6_canBe_13 : decode cX6_canBe 13 = .ok (.ifCond .lt 9, 3) := by decide +kernel
theorem dX6_canBe_16 : decode cX6_canBe 16 = .ok (.iload_n 2, 1) := by decide +kernel
theorem dX6_canBe_17 : decode cX6_canBe 17 = .ok (.bipush 14, 2) := by decide +kernel
theorem dX6_canBe_19 : decode cX6_canBe 19 = .ok (.if_icmp .lt 5, 3) := by decide +kernel
theorem dX6_canBe_22 : decode cX6_canBe 22 = .ok (.iconst 0, 1) := by decide +kernel
theorem dX6_canBe_23 : decode cX6_canBe 23 = .ok (.ireturn, 1) := by decide +kernel
theorem dX6_canBe_24 : decode cX6_canBe 24 = .ok (.iload_n 1, 1) := by decide +kernel
theorem dX6_canBe_25 : decode cX6_canBe 25 = .ok (.getstatic 9, 3) := by decide +kernel
theorem dX6_canBe_28 : decode cX6_canBe 28 = .ok (.iload_n 2, 1) := by decide +kernel
theorem dX6_canBe_29 : decode cX6_canBe 29 = .ok (.iaload, 1) := by decide +kernel
theorem dX6_canBe_30 : decode cX6_canBe 30 = .ok (.if_icmp .lt 16, 3) := by decide +kernel
theorem dX6_canBe_33 : decode cX6_canBe 33 = .ok (.iload_n 1, 1) := by decide +kernel
theorem dX6_canBe_34 : decode cX6_canBe 34 = .ok (.getstatic 15, 3) := by decide +kernel
theorem dX6_canBe_37 : decode cX6_canBe 37 = .ok (.iload_n 2, 1) := by decide +kernel
theorem dX6_canBe_38 : decode cX6_canBe 38 = .ok (.iaload, 1) := by decide +kernel
theorem dX6_canBe_39 : decode cX6_canBe 39 = .ok (.if_icmp .gt 7, 3) := by decide +kernel
theorem dX6_canBe_42 : decode cX6_canBe 42 = .ok (.iconst 1, 1) := by decide +kernel
theorem dX6_canBe_43 : decode cX6_canBe 43 = .ok (.goto 4, 3) := by decide +kernel
theorem dX6_canBe_46 : decode cX6_canBe 46 = .ok (.iconst 0, 1) := by decide +kernel
theorem dX6_canBe_47 : decode cX6_canBe 47 = .ok (.ireturn, 1) := by decide +kernel
theorem dX6_canBeAuto_0 : decode cX6_canBeAuto 0 = .ok (.iload_n 0, 1) := by decide +kernel
theorem dX6_canBeAuto_1 : decode cX6_canBeAuto 1 = .ok (.ifCond .eq 13, 3) := by decide +kernel
theorem dX6_canBeAuto_4 : decode cX6_canBeAuto 4 = .ok (.iload_n 0, 1) := by decide +kernel
theorem dX6_canBeAuto_5 : decode cX6_canBeAuto 5 = .ok (.iconst 1, 1) := by decide +kernel
theorem dX6_canBeAuto_6 : decode cX6_canBeAuto 6 = .ok (.if_icmp .eq 8, 3) := by decide +kernel
theorem dX6_canBeAuto_9 : decode cX6_canBeAuto 9 = .ok (.iload_n 0, 1) := by decide +kernel
theorem dX6_canBeAuto_10 : decode cX6_canBeAuto 10 = .ok (.iconst 2, 1) := by decide +kernel
theorem dX6_canBeAuto_11 : decode cX6_canBeAuto 11 = .ok (.if_icmp .ne 7, 3) := by decide +kernel
theorem dX6_canBeAuto_14 : decode cX6_canBeAuto 14 = .ok (.iconst 1, 1) := by decide +kernel
theorem dX6_canBeAuto_15 : decode cX6_canBeAuto 15 = .ok (.goto 4, 3) := by decide +kernel
theorem dX6_canBeAuto_18 : decode cX6_canBeAuto 18 = .ok (.iconst 0, 1) := by decide +kernel
theorem dX6_canBeAuto_19 : decode cX6_canBeAuto 19 = .ok (.ireturn, 1) := by decide +kernel
theorem dX6_atFirst_0 : decode cX6_atFirst 0 = .ok (.iload_n 0, 1) := by decide +kernel
theorem dX6_atFirst_1 : decode cX6_atFirst 1 = .ok (.ifCond .lt 17, 3) := by decide +kernel
theorem dX6_atFirst_4 : decode cX6_atFirst 4 = .ok (.iload_n 0, 1) := by decide +kernel
theorem dX6_atFirst_5 : decode cX6_atFirst 5 = .ok (.bipush 14, 2) := by decide +kernel
theorem dX6_atFirst_7 : decode cX6_atFirst 7 = .ok (.if_icmp .ge 11, 3) := by decide +kernel
theorem dX6_atFirst_10 : decode cX6_atFirst 10 = .ok (.getstatic 18, 3) := by decide +kernel
theorem dX6_atFirst_13 : decode cX6_atFirst 13 = .ok (.iload_n 0, 1) := by decide +kernel
theorem dX6_atFirst_14 : decode cX6_atFirst 14 = .ok (.iaload, 1) := by decide +kernel
theorem dX6_atFirst_15 : decode cX6_atFirst 15 = .ok (.goto 4, 3) := by decide +kernel
theorem dX6_atFirst_18 : decode cX6_atFirst 18 = .ok (.iconst (-1), 1) := by decide +kernel
theorem dX6_atFirst_19 : decode cX6_atFirst 19 = .ok (.ireturn, 1) := by decide +kernel
theorem dX6_isInherited_0 : decode cX6_isInherited 0 = .ok (.iload_n 0, 1) := by decide +kernel
theorem dX6_isInherited_1 : decode cX6_isInherited 1 = .ok (.bipush 8, 2) := by decide +kernel
theorem dX6_isInherited_3 : decode cX6_isInherited 3 = .ok (.if_icmp .lt 7, 3) := by decide +kernel
theorem dX6_isInherited_6 : decode cX6_isInherited 6 = .ok (.iconst 1, 1) := by decide +kernel
theorem dX6_isInherited_7 : decode cX6_isInherited 7 = .ok (.goto 4, 3) := by decide +kernel
theorem dX6_isInherited_10 : decode cX6_isInherited 10 = .ok (.iconst 0, 1) := by decide +kernel
theorem dX6_isInherited_11 : decode cX6_isInherited 11 = .ok (.ireturn, 1) := by decide +kernel
theorem dX7_init_0 : decode cX7_init 0 = .ok (.aload_n 0, 1) := by decide +kernel
theorem dX7_init_1 : decode cX7_init 1 = .ok (.invokespecial 3, 3) := by decide +kernel
theorem dX7_init_4 : decode cX7_init 4 = .ok (.aload_n 0, 1) := by decide +kernel
theorem dX7_init_5 : decode cX7_init 5 = .ok (.new 9, 3) := by decide +kernel
theorem dX7_init_8 : decode cX7_init 8 = .ok (.dup, 1) := by decide +kernel
theorem dX7_init_9 : decode cX7_init 9 = .ok (.invokespecial 11, 3) := by decide +kernel
theorem dX7_init_12 : decode cX7_init 12 = .ok (.putfield 12, 3) := by decide +kernel
theorem dX7_init_15 : decode cX7_init 15 = .ok (.aload_n 0, 1) := by decide +kernel
theorem dX7_init_16 : decode cX7_init 16 = .ok (.bipush 14, 2) := by decide +kernel
theorem dX7_init_18 : decode cX7_init 18 = .ok (.anewarray 18, 3) := by decide +kernel
theorem dX7_init_21 : decode cX7_init 21 = .ok (.putfield 20, 3) := by decide +kernel
theorem dX7_init_24 : decode cX7_init 24 = .ok (.aload_n 0, 1) := by decide +kernel
theorem dX7_init_25 : decode cX7_init 25 = .ok (.iconst (-1), 1) := by decide +kernel
theorem dX7_init_26 : decode cX7_init 26 = .ok (.putfield 24, 3) := by decide +kernel
theorem dX7_init_29 : decode cX7_init 29 = .ok (.aload_n 0, 1) := by decide +kernel
theorem dX7_init_30 : decode cX7_init 30 = .ok (.iload_n 1, 1) := by decide +kernel
theorem dX7_init_31 : decode cX7_init 31 = .ok (.putfield 28, 3) := by decide +kernel
theorem dX7_init_34 : decode cX7_init 34 = .ok (.aload_n 0, 1) := by decide +kernel
theorem dX7_init_35 : decode cX7_init 35 = .ok (.iload_n 2, 1) := by decide +kernel
theorem dX7_init_36 : decode cX7_init 36 = .ok (.iload_n 3, 1) := by decide +kernel
theorem dX7_init_37 : decode cX7_init 37 = .ok (.iload 4, 2) := by decide +kernel
theorem dX7_init_39 : decode cX7_init 39 = .ok (.invokestatic 31, 3) := by decide +kernel
theorem dX7_init_42 : decode cX7_init 42 = .ok (.putfield 35, 3) := by decide +kernel
theorem dX7_init_45 : decode cX7_init 45 = .ok (.return_, 1) := by decide +kernel
theorem dX7_groupOf_0 : decode cX7_groupOf 0 = .ok (.iconst 3, 1) := by decide +kernel
theorem dX7_groupOf_1 : decode cX7_groupOf 1 = .ok (.istore_n 3, 1) := by decide +kernel
theorem dX7_groupOf_2 : decode cX7_groupOf 2 = .ok (.iload_n 0, 1) := by decide +kernel
theorem dX7_groupOf_3 : decode cX7_groupOf 3 = .ok (.iconst 1, 1) := by decide +kernel
theorem dX7_groupOf_4 : decode cX7_groupOf 4 = .ok (.if_icmp .ne 7, 3) := by decide +kernel
theorem dX7_groupOf_7 : decode cX7_groupOf 7 = .ok (.iload_n 3, 1) := by decide +kernel
theorem dX7_groupOf_8 : decode cX7_groupOf 8 = .ok (.goto 4, 3) := by decide +kernel
theorem dX7_groupOf_11 : decode cX7_groupOf 11 = .ok (.iconst 0, 1) := by decide +kernel
theorem dX7_groupOf_12 : decode cX7_groupOf 12 = .ok (.iload_n 1, 1) := by decide +kernel
theorem dX7_groupOf_13 : decode cX7_groupOf 13 = .ok (.iadd, 1) := by decide +kernel
theorem dX7_groupOf_14 : decode cX7_groupOf 14 = .ok (.istore 4, 2) := by decide +kernel
theorem dX7_groupOf_16 : decode cX7_groupOf 16 = .ok (.iload_n 2, 1) := by decide +kernel
theorem dX7_groupOf_17 : decode cX7_groupOf 17 = .ok (.ifCond .eq 14, 3) := by decide +kernel
theorem dX7_groupOf_20 : decode cX7_groupOf 20 = .ok (.iconst 4, 1) := by decide +kernel
theorem dX7_groupOf_21 : decode cX7_groupOf 21 = .ok (.iload_n 3, 1) := by decide +kernel
theorem dX7_groupOf_22 : decode cX7_groupOf 22 = .ok (.imul, 1) := by decide +kernel
theorem dX7_groupOf_23 : decode cX7_groupOf 23 = .ok (.iconst 1, 1) := by decide +kernel
theorem dX7_groupOf_24 : decode cX7_groupOf 24 = .ok (.isub, 1) := by decide +kernel
theorem dX7_groupOf_25 : decode cX7_groupOf 25 = .ok (.iload 4, 2) := by decide +kernel
theorem dX7_groupOf_27 : decode cX7_groupOf 27 = .ok (.isub, 1) := by decide +kernel
theorem dX7_groupOf_28 : decode cX7_groupOf 28 = .ok (.goto 5, 3) := by decide +kernel
theorem dX7_groupOf_31 : decode cX7_groupOf 31 = .ok (.iload 4, 2) := by decide +kernel
theorem dX7_groupOf_33 : decode cX7_groupOf 33 = .ok (.ireturn, 1) := by decide +kernel
theorem dX7_isStrongerThan_0 : decode cX7_isStrongerThan 0 = .ok (.aload_n 0, 1) := by decide +kernel
theorem dX7_isStrongerThan_1 : decode cX7_isStrongerThan 1 = .ok (.getfield 35, 3) := by decide +kernel
theorem dX7_isStrongerThan_4 : decode cX7_isStrongerThan 4 = .ok (.aload_n 1, 1) := by decide +kernel
theorem dX7_isStrongerThan_5 : decode cX7_isStrongerThan 5 = .ok (.getfield 35, 3) := by decide +kernel
theorem dX7_isStrongerThan_8 : decode cX7_isStrongerThan 8 = .ok (.if_icmp .eq 20, 3) := by decide +kernel
theorem dX7_isStrongerThan_11 : decode cX7_isStrongerThan 11 = .ok (.aload_n 0, 1) := by decide +kernel
theorem dX7_isStrongerThan_12 : decode cX7_isStrongerThan 12 = .ok (.getfield 35, 3) := by decide +kernel
theorem dX7_isStrongerThan_15 : decode cX7_isStrongerThan 15 = .ok (.aload_n 1, 1) := by decide +kernel
theorem dX7_isStrongerThan_16 : decode cX7_isStrongerThan 16 = .ok (.getfield 35, 3) := by decide +kernel
theorem dX7_isStrongerThan_19 : decode cX7_isStrongerThan 19 = .ok (.if_icmp .le 7, 3) := by decide +kernel
theorem dX7_isStrongerThan_22 : decode cX7_isStrongerThan 22 = .ok (.iconst 1, 1) := by decide +kernel
theorem dX7_isStrongerThan_23 : decode cX7_isStrongerThan 23 = .ok (.goto 4, 3) := by decide +kernel
theorem dX7_isStrongerThan_26 : decode cX7_isStrongerThan 26 = .ok (.iconst 0, 1) := by decide +kernel
theorem dX7_isStrongerThan_27 : decode cX7_isStrongerThan 27 = .ok (.ireturn, 1) := by decide +kernel
theorem dX7_isStrongerThan_28 : decode cX7_isStrongerThan 28 = .ok (.aload_n 0, 1) := by decide +kernel
theorem dX7_isStrongerThan_29 : decode cX7_isStrongerThan 29 = .ok (.getfield 38, 3) := by decide +kernel
theorem dX7_isStrongerThan_32 : decode cX7_isStrongerThan 32 = .ok (.aload_n 1, 1) := by decide +kernel
theorem dX7_isStrongerThan_33 : decode cX7_isStrongerThan 33 = .ok (.getfield 38, 3) := by decide +kernel
theorem dX7_isStrongerThan_36 : decode cX7_isStrongerThan 36 = .ok (.if_icmp .eq 20, 3) := by decide +kernel
theorem dX7_isStrongerThan_39 : decode cX7_isStrongerThan 39 = .ok (.aload_n 0, 1) := by decide +kernel
theorem dX7_isStrongerThan_40 : decode cX7_isStrongerThan 40 = .ok (.getfield 38, 3) := by decide +kernel
theorem dX7_isStrongerThan_43 : decode cX7_isStrongerThan 43 = .ok (.aload_n 1, 1) := by decide +kernel
theorem dX7_isStrongerThan_44 : decode cX7_isStrongerThan 44 = .ok (.getfield 38, 3) := by decide +kernel
theorem dX7_isStrongerThan_47 : decode cX7_isStrongerThan 47 = .ok (.if_icmp .le 7, 3) := by decide +kernel
theorem dX7_isStrongerThan_50 : decode cX7_isStrongerThan 50 = .ok (.iconst 1, 1) := by decide +kernel
theorem dX7_isStrongerThan_51 : decode cX7_isStrongerThan 51 = .ok (.goto 4, 3) := by decide +kernel
theorem dX7_isStrongerThan_54 : decode cX7_isStrongerThan 54 = .ok (.iconst 0, 1) := by decide +kernel
theorem dX7_isStrongerThan_55 : decode cX7_isStrongerThan 55 = .ok (.ireturn, 1) := by decide +kernel
theorem dX7_isStrongerThan_56 : decode cX7_isStrongerThan 56 = .ok (.aload_n 0, 1) := by decide +kernel
theorem dX7_isStrongerThan_57 : decode cX7_isStrongerThan 57 = .ok (.getfield 28, 3) := by decide +kernel
theorem dX7_isStrongerThan_60 : decode cX7_isStrongerThan 60 = .ok (.aload_n 1, 1) := by decide +kernel
theorem dX7_isStrongerThan_61 : decode cX7_isStrongerThan 61 = .ok (.getfield 28, 3) := by decide +kernel
theorem dX7_isStrongerThan_64 : decode cX7_isStrongerThan 64 = .ok (.if_icmp .le 7, 3) := by decide +kernel
theorem dX7_isStrongerThan_67 : decode cX7_isStrongerThan 67 = .ok (.iconst 1, 1) := by decide +kernel
theorem dX7_isStrongerThan_68 : decode cX7_isStrongerThan 68 = .ok (.goto 4, 3) := by decide +kernel
theorem dX7_isStrongerThan_71 : decode cX7_isStrongerThan 71 = .ok (.iconst 0, 1) := by decide +kernel
theorem dX7_isStrongerThan_72 : decode cX7_isStrongerThan 72 = .ok (.ireturn, 1) := by decide +kernel
theorem dX7_partCount_0 : decode cX7_partCount 0 = .ok (.aload_n 0, 1) := by decide +kernel
theorem dX7_partCount_1 : decode cX7_partCount 1 = .ok (.getfield 12, 3) := by decide +kernel
theorem dX7_partCount_4 : decode cX7_partCount 4 = .ok (.invokevirtual 41, 3) := by decide +kernel
theorem dX7_partCount_7 : decode cX7_partCount 7 = .ok (.ireturn, 1) := by decide +kernel
theorem dX7_append_0 : decode cX7_append 0 = .ok (.aload_n 0, 1) := by decide +kernel
theorem dX7_append_1 : decode cX7_append 1 = .ok (.getfield 12, 3) := by decide +kernel
theorem dX7_append_4 : decode cX7_append 4 = .ok (.aload_n 1, 1) := by decide +kernel
theorem dX7_append_5 : decode cX7_append 5 = .ok (.invokevirtual 45, 3) := by decide +kernel
theorem dX7_append_8 : decode cX7_append 8 = .ok (.pop, 1) := by decide +kernel
theorem dX7_append_9 : decode cX7_append 9 = .ok (.aload_n 0, 1) := by decide +kernel
theorem dX7_append_10 : decode cX7_append 10 = .ok (.dup, 1) := by decide +kernel
theorem dX7_append_11 : decode cX7_append 11 = .ok (.getfield 38, 3) := by decide +kernel
theorem dX7_append_14 : decode cX7_append 14 = .ok (.aload_n 1, 1) := by decide +kernel
theorem dX7_append_15 : decode cX7_append 15 = .ok (.invokevirtual 49, 3) := by decide +kernel
theorem dX7_append_18 : decode cX7_append 18 = .ok (.iadd, 1) := by decide +kernel
theorem dX7_append_19 : decode cX7_append 19 = .ok (.putfield 38, 3) := by decide +kernel
theorem dX7_append_22 : decode cX7_append 22 = .ok (.return_, 1) := by decide +kernel
theorem dX7_selects_0 : decode cX7_selects 0 = .ok (.aload_n 0, 1) := by decide +kernel
theorem dX7_selects_1 : decode cX7_selects 1 = .ok (.getfield 12, 3) := by decide +kernel
theorem dX7_selects_4 : decode cX7_selects 4 = .ok (.invokevirtual 54, 3) := by decide +kernel
theorem dX7_selects_7 : decode cX7_selects 7 = .ok (.ifCond .ne 37, 3) := by decide +kernel
theorem dX7_selects_10 : decode cX7_selects 10 = .ok (.aload_n 0, 1) := by decide +kernel
theorem dX7_selects_11 : decode cX7_selects 11 = .ok (.getfield 12, 3) := by decide +kernel
theorem dX7_selects_14 : decode cX7_selects 14 = .ok (.iconst 0, 1) := by decide +kernel
theorem dX7_selects_15 : decode cX7_selects 15 = .ok (.invokevirtual 58, 3) := by decide +kernel
theorem dX7_selects_18 : decode cX7_selects 18 = .ok (.checkcast 50, 3) := by decide +kernel
theorem dX7_selects_21 : decode cX7_selects 21 = .ok (.aload_n 1, 1) := by decide +kernel
theorem dX7_selects_22 : decode cX7_selects 22 = .ok (.invokevirtual 62, 3) := by decide +kernel
theorem dX7_selects_25 : decode cX7_selects 25 = .ok (.ifCond .eq 19, 3) := by decide +kernel
theorem dX7_selects_28 : decode cX7_selects 28 = .ok (.aload_n 0, 1) := by decide +kernel
theorem dX7_selects_29 : decode cX7_selects 29 = .ok (.getfield 12, 3) := by decide +kernel
theorem dX7_selects_32 : decode cX7_selects 32 = .ok (.iconst 1, 1) := by decide +kernel
theorem dX7_selects_33 : decode cX7_selects 33 = .ok (.aload_n 1, 1) := by decide +kernel
theorem dX7_selects_34 : decode cX7_selects 34 = .ok (.invokestatic 66, 3) := by decide +kernel
theorem dX7_selects_37 : decode cX7_selects 37 = .ok (.ifCond .eq 7, 3) := by decide +kernel
theorem dX7_selects_40 : decode cX7_selects 40 = .ok (.iconst 1, 1) := by decide +kernel
theorem dX7_selects_41 : decode cX7_selects 41 = .ok (.goto 4, 3) := by decide +kernel
theorem dX7_selects_44 : decode cX7_selects 44 = .ok (.iconst 0, 1) := by decide +kernel
theorem dX7_selects_45 : decode cX7_selects 45 = .ok (.ireturn, 1) := by decide +kernel
theorem dX7_restSelects_0 : decode cX7_restSelects 0 = .ok (.iload_n 1, 1) := by decide +kernel
theorem dX7_restSelects_1 : decode cX7_restSelects 1 = .ok (.ifCond .lt 16, 3) := by decide +kernel
theorem dX7_restSelects_4 : decode cX7_restSelects 4 = .ok (.iload_n 1, 1) := by decide +kernel
theorem dX7_restSelects_5 : decode cX7_restSelects 5 = .ok (.aload_n 0, 1) := by decide +kernel
theorem dX7_restSelects_6 : decode cX7_restSelects 6 = .ok (.invokevirtual 41, 3) := by decide +kernel
theorem dX7_restSelects_9 : decode cX7_restSelects 9 = .ok (.if_icmp .ge 8, 3) := by decide +kernel
theorem dX7_restSelects_12 : decode cX7_restSelects 12 = .ok (.iload_n 1, 1) := by decide +kernel
theorem dX7_restSelects_13 : decode cX7_restSelects 13 = .ok (.iconst 3, 1) := by decide +kernel
theorem dX7_restSelects_14 : decode cX7_restSelects 14 = .ok (.if_icmp .lt 5, 3) := by decide +kernel
theorem dX7_restSelects_17 : decode cX7_restSelects 17 = .ok (.iconst 1, 1) := by decide +kernel
theorem dX7_restSelects_18 : decode cX7_restSelects 18 = .ok (.ireturn, 1) := by decide +kernel
theorem dX7_restSelects_19 : decode cX7_restSelects 19 = .ok (.aload_n 0, 1) := by decide +kernel
theorem dX7_restSelects_20 : decode cX7_restSelects 20 = .ok (.iload_n 1, 1) := by decide +kernel
theorem dX7_restSelects_21 : decode cX7_restSelects 21 = .ok (.invokevirtual 58, 3) := by decide +kernel
theorem dX7_restSelects_24 : decode cX7_restSelects 24 = .ok (.checkcast 50, 3) := by decide +kernel
theorem dX7_restSelects_27 : decode cX7_restSelects 27 = .ok (.astore_n 3, 1) := by decide +kernel
theorem dX7_restSelects_28 : decode cX7_restSelects 28 = .ok (.aload_n 3, 1) := by decide +kernel
theorem dX7_restSelects_29 : decode cX7_restSelects 29 = .ok (.getfield 70, 3) := by decide +kernel
theorem dX7_restSelects_32 : decode cX7_restSelects 32 = .ok (.iconst 1, 1) := by decide +kernel
theorem dX7_restSelects_33 : decode cX7_restSelects 33 = .ok (.if_icmp .ne 49, 3) := by decide +kernel
theorem dX7_restSelects_36 : decode cX7_restSelects 36 = .ok (.aload_n 2, 1) := by decide +kernel
theorem dX7_restSelects_37 : decode cX7_restSelects 37 = .ok (.getfield 73, 3) := by decide +kernel
theorem dX7_restSelects_40 : decode cX7_restSelects 40 = .ok (.astore 4, 2) := by decide +kernel
theorem dX7_restSelects_42 : decode cX7_restSelects 42 = .ok (.aload 4, 2) := by decide +kernel
theorem dX7_restSelects_44 : decode cX7_restSelects 44 = .ok (.ifnull 36, 3) := by decide +kernel
theorem dX7_restSelects_47 : decode cX7_restSelects 47 = .ok (.aload_n 3, 1) := by decide +kernel
theorem dX7_restSelects_48 : decode cX7_restSelects 48 = .ok (.aload 4, 2) := by decide +kernel
theorem dX7_restSelects_50 : decode cX7_restSelects 50 = .ok (.invokevirtual 62, 3) := by decide +kernel
theorem dX7_restSelects_53 : decode cX7_restSelects 53 = .ok (.ifCond .eq 17, 3) := by decide +kernel
theorem dX7_restSelects_56 : decode cX7_restSelects 56 = .ok (.aload_n 0, 1) := by decide +kernel
theorem dX7_restSelects_57 : decode cX7_restSelects 57 = .ok (.iload_n 1, 1) := by decide +kernel
theorem dX7_restSelects_58 : decode cX7_restSelects 58 = .ok (.iconst 1, 1) := by decide +kernel
theorem dX7_restSelects_59 : decode cX7_restSelects 59 = .ok (.iadd, 1) := by decide +kernel
theorem dX7_restSelects_60 : decode cX7_restSelects 60 = .ok (.aload 4, 2) := by decide +kernel
theorem dX7_restSelects_62 : decode cX7_restSelects 62 = .ok (.invokestatic 66, 3) := by decide +kernel
theorem dX7_restSelects_65 : decode cX7_restSelects 65 = .ok (.ifCond .eq 5, 3) := by decide +kernel
theorem dX7_restSelects_68 : decode cX7_restSelects 68 = .ok (.iconst 1, 1) := by decide +kernel
theorem dX7_restSelects_69 : decode cX7_restSelects 69 = .ok (.ireturn, 1) := by decide +kernel
theorem dX7_restSelects_70 : decode cX7_restSelects 70 = .ok (.aload 4, 2) := by decide +kernel
theorem dX7_restSelects_72 : decode cX7_restSelects 72 = .ok (.getfield 73, 3) := by decide +kernel
theorem dX7_restSelects_75 : decode cX7_restSelects 75 = .ok (.astore 4, 2) := by decide +kernel
theorem dX7_restSelects_77 : decode cX7_restSelects 77 = .ok (.goto (-35), 3) := by decide +kernel
theorem dX7_restSelects_80 : decode cX7_restSelects 80 = .ok (.iconst 0, 1) := by decide +kernel
theorem dX7_restSelects_81 : decode cX7_restSelects 81 = .ok (.ireturn, 1) := by decide +kernel
theorem dX7_restSelects_82 : decode cX7_restSelects 82 = .ok (.aload_n 3, 1) := by decide +kernel
theorem dX7_restSelects_83 : decode cX7_restSelects 83 = .ok (.getfield 70, 3) := by decide +kernel
theorem dX7_restSelects_86 : decode cX7_restSelects 86 = .ok (.ifCond .ne 10, 3) := by decide +kernel
theorem dX7_restSelects_89 : decode cX7_restSelects 89 = .ok (.aload_n 2, 1) := by decide +kernel
theorem dX7_restSelects_90 : decode cX7_restSelects 90 = .ok (.getfield 73, 3) := by decide +kernel
theorem dX7_restSelects_93 : decode cX7_restSelects 93 = .ok (.goto 7, 3) := by decide +kernel
theorem dX7_restSelects_96 : decode cX7_restSelects 96 = .ok (.aload_n 2, 1) := by decide +kernel
theorem dX7_restSelects_97 : decode cX7_restSelects 97 = .ok (.getfield 79, 3) := by decide +kernel
theorem dX7_restSelects_100 : decode cX7_restSelects 100 = .ok (.astore 4, 2) := by decide +kernel
theorem dX7_restSelects_102 : decode cX7_restSelects 102 = .ok (.aload 4, 2) := by decide +kernel
theorem dX7_restSelects_104 : decode cX7_restSelects 104 = .ok (.ifnull 28, 3) := by decide +kernel
theorem dX7_restSelects_107 : decode cX7_restSelects 107 = .ok (.aload_n 3, 1) := by decide +kernel
theorem dX7_restSelects_108 : decode cX7_restSelects 108 = .ok (.aload 4, 2) := by decide +kernel
theorem dX7_restSelects_110 : decode cX7_restSelects 110 = .ok (.invokevirtual 62, 3) := by decide +kernel
theorem dX7_restSelects_113 : decode cX7_restSelects 113 = .ok (.ifCond .eq 19, 3) := by decide +kernel
theorem dX7_restSelects_116 : decode cX7_restSelects 116 = .ok (.aload_n 0, 1) := by decide +kernel
theorem dX7_restSelects_117 : decode cX7_restSelects 117 = .ok (.iload_n 1, 1) := by decide +kernel
theorem dX7_restSelects_118 : decode cX7_restSelects 118 = .ok (.iconst 1, 1) := by decide +kernel
theorem dX7_restSelects_119 : decode cX7_restSelects 119 = .ok (.iadd, 1) := by decide +kernel
theorem dX7_restSelects_120 : decode cX7_restSelects 120 = .ok (.aload 4, 2) := by decide +kernel
theorem dX7_restSelects_122 : decode cX7_restSelects 122 = .ok (.invokestatic 66, 3) := by decide +kernel
theorem dX7_restSelects_125 : decode cX7_restSelects 125 = .ok (.ifCond .eq 7, 3) := by decide +kernel
theorem dX7_restSelects_128 : decode cX7_restSelects 128 = .ok (.iconst 1, 1) := by decide +kernel
theorem dX7_restSelects_129 : decode cX7_restSelects 129 = .ok (.goto 4, 3) := by decide +kernel
theorem dX7_restSelects_132 : decode cX7_restSelects 132 = .ok (.iconst 0, 1) := by decide +kernel
theorem dX7_restSelects_133 : decode cX7_restSelects 133 = .ok (.ireturn, 1) := by decide +kernel
theorem dX7_declarationOf_0 : decode cX7_declarationOf 0 = .ok (.iload_n 1, 1) := by decide +kernel
theorem dX7_declarationOf_1 : decode cX7_declarationOf 1 = .ok (.ifCond .lt 21, 3) := by decide +kernel
theorem dX7_declarationOf_4 : decode cX7_declarationOf 4 = .ok (.iload_n 1, 1) := by decide +kernel
theorem dX7_declarationOf_5 : decode cX7_declarationOf 5 = .ok (.aload_n 0, 1) := by decide +kernel
theorem dX7_declarationOf_6 : decode cX7_declarationOf 6 = .ok (.getfield 20, 3) := by decide +kernel
theorem dX7_declarationOf_9 : decode cX7_declarationOf 9 = .ok (.arraylength, 1) := by decide +kernel
theorem dX7_declarationOf_10 : decode cX7_declarationOf 10 = .ok (.if_icmp .ge 12, 3) := by decide +kernel
theorem dX7_declarationOf_13 : decode cX7_declarationOf 13 = .ok (.aload_n 0, 1) := by decide +kernel
theorem dX7_declarationOf_14 : decode cX7_declarationOf 14 = .ok (.getfield 20, 3) := by decide +kernel
theorem dX7_declarationOf_17 : decode cX7_declarationOf 17 = .ok (.iload_n 1, 1) := by decide +kernel
theorem dX7_declarationOf_18 : decode cX7_declarationOf 18 = .ok (.aaload, 1) := by decide +kernel
theorem dX7_declarationOf_19 : decode cX7_declarationOf 19 = .ok (.goto 4, 3) := by decide +kernel
theorem dX7_declarationOf_22 : decode cX7_declarationOf 22 = .ok (.aconst_null, 1) := by decide +kernel
theorem dX7_declarationOf_23 : decode cX7_declarationOf 23 = .ok (.areturn, 1) := by decide +kernel
theorem dX7_countWith_0 : decode cX7_countWith 0 = .ok (.iload_n 1, 1) := by decide +kernel
theorem dX7_countWith_1 : decode cX7_countWith 1 = .ok (.bipush 14, 2) := by decide +kernel
theorem dX7_countWith_3 : decode cX7_countWith 3 = .ok (.if_icmp .ne 20, 3) := by decide +kernel
theorem dX7_countWith_6 : decode cX7_countWith 6 = .ok (.aload_n 0, 1) := by decide +kernel
theorem dX7_countWith_7 : decode cX7_countWith 7 = .ok (.getfield 82, 3) := by decide +kernel
theorem dX7_countWith_10 : decode cX7_countWith 10 = .ok (.aload_n 0, 1) := by decide +kernel
theorem dX7_countWith_11 : decode cX7_countWith 11 = .ok (.iconst 3, 1) := by decide +kernel
theorem dX7_countWith_12 : decode cX7_countWith 12 = .ok (.invokevirtual 85, 3) := by decide +kernel
theorem dX7_countWith_15 : decode cX7_countWith 15 = .ok (.iadd, 1) := by decide +kernel
theorem dX7_countWith_16 : decode cX7_countWith 16 = .ok (.aload_n 0, 1) := by decide +kernel
theorem dX7_countWith_17 : decode cX7_countWith 17 = .ok (.iconst 4, 1) := by decide +kernel
theorem dX7_countWith_18 : decode cX7_countWith 18 = .ok (.invokevirtual 85, 3) := by decide +kernel
theorem dX7_countWith_21 : decode cX7_countWith 21 = .ok (.iadd, 1) := by decide +kernel
theorem dX7_countWith_22 : decode cX7_countWith 22 = .ok (.ireturn, 1) := by decide +kernel
theorem dX7_countWith_23 : decode cX7_countWith 23 = .ok (.aload_n 0, 1) := by decide +kernel
theorem dX7_countWith_24 : decode cX7_countWith 24 = .ok (.getfield 82, 3) := by decide +kernel
theorem dX7_countWith_27 : decode cX7_countWith 27 = .ok (.aload_n 0, 1) := by decide +kernel
theorem dX7_countWith_28 : decode cX7_countWith 28 = .ok (.iload_n 1, 1) := by decide +kernel
theorem dX7_countWith_29 : decode cX7_countWith 29 = .ok (.invokevirtual 85, 3) := by decide +kernel
theorem dX7_countWith_32 : decode cX7_countWith 32 = .ok (.iadd, 1) := by decide +kernel
theorem dX7_countWith_33 : decode cX7_countWith 33 = .ok (.ireturn, 1) := by decide +kernel
theorem dX7_newOnes_0 : decode cX7_newOnes 0 = .ok (.aload_n 0, 1) := by decide +kernel
theorem dX7_newOnes_1 : decode cX7_newOnes 1 = .ok (.iload_n 1, 1) := by decide +kernel
theorem dX7_newOnes_2 : decode cX7_newOnes 2 = .ok (.invokevirtual 89, 3) := by decide +kernel
theorem dX7_newOnes_5 : decode cX7_newOnes 5 = .ok (.ifnonnull 7, 3) := by decide +kernel
theorem dX7_newOnes_8 : decode cX7_newOnes 8 = .ok (.iconst 1, 1) := by decide +kernel
theorem dX7_newOnes_9 : decode cX7_newOnes 9 = .ok (.goto 4, 3) := by decide +kernel
theorem dX7_newOnes_12 : decode cX7_newOnes 12 = .ok (.iconst 0, 1) := by decide +kernel
theorem dX7_newOnes_13 : decode cX7_newOnes 13 = .ok (.ireturn, 1) := by decide +kernel
theorem dX7_put_0 : decode cX7_put 0 = .ok (.iload_n 1, 1) := by decide +kernel
theorem dX7_put_1 : decode cX7_put 1 = .ok (.bipush 14, 2) := by decide +kernel
theorem dX7_put_3 : decode cX7_put 3 = .ok (.if_icmp .ne 18, 3) := by decide +kernel
theorem dX7_put_6 : decode cX7_put 6 = .ok (.aload_n 0, 1) := by decide +kernel
theorem dX7_put_7 : decode cX7_put 7 = .ok (.iconst 3, 1) := by decide +kernel
theorem dX7_put_8 : decode cX7_put 8 = .ok (.aload_n 2, 1) := by decide +kernel
theorem dX7_put_9 : decode cX7_put 9 = .ok (.invokevirtual 93, 3) := by decide +kernel
theorem dX7_put_12 : decode cX7_put 12 = .ok (.aload_n 0, 1) := by decide +kernel
theorem dX7_put_13 : decode cX7_put 13 = .ok (.iconst 4, 1) := by decide +kernel
theorem dX7_put_14 : decode cX7_put 14 = .ok (.aload_n 2, 1) := by decide +kernel
theorem dX7_put_15 : decode cX7_put 15 = .ok (.invokevirtual 93, 3) := by decide +kernel
theorem dX7_put_18 : decode cX7_put 18 = .ok (.goto 9, 3) := by decide +kernel
theorem dX7_put_21 : decode cX7_put 21 = .ok (.aload_n 0, 1) := by decide +kernel
theorem dX7_put_22 : decode cX7_put 22 = .ok (.iload_n 1, 1) := by decide +kernel
theorem dX7_put_23 : decode cX7_put 23 = .ok (.aload_n 2, 1) := by decide +kernel
theorem dX7_put_24 : decode cX7_put 24 = .ok (.invokevirtual 93, 3) := by decide +kernel
theorem dX7_put_27 : decode cX7_put 27 = .ok (.return_, 1) := by decide +kernel
theorem dX7_putOne_0 : decode cX7_putOne 0 = .ok (.iload_n 1, 1) := by decide +kernel
theorem dX7_putOne_1 : decode cX7_putOne 1 = .ok (.ifCond .lt 33, 3) := by decide +kernel
theorem dX7_putOne_4 : decode cX7_putOne 4 = .ok (.iload_n 1, 1) := by decide +kernel
theorem dX7_putOne_5 : decode cX7_putOne 5 = .ok (.aload_n 0, 1) := by decide +kernel
theorem dX7_putOne_6 : decode cX7_putOne 6 = .ok (.getfield 20, 3) := by decide +kernel
theorem dX7_putOne_9 : decode cX7_putOne 9 = .ok (.arraylength, 1) := by decide +kernel
theorem dX7_putOne_10 : decode cX7_putOne 10 = .ok (.if_icmp .ge 24, 3) := by decide +kernel
theorem dX7_putOne_13 : decode cX7_putOne 13 = .ok (.aload_n 0, 1) := by decide +kernel
theorem dX7_putOne_14 : decode cX7_putOne 14 = .ok (.dup, 1) := by decide +kernel
theorem dX7_putOne_15 : decode cX7_putOne 15 = .ok (.getfield 82, 3) := by decide +kernel
theorem dX7_putOne_18 : decode cX7_putOne 18 = .ok (.aload_n 0, 1) := by decide +kernel
theorem dX7_putOne_19 : decode cX7_putOne 19 = .ok (.iload_n 1, 1) := by decide +kernel
theorem dX7_putOne_20 : decode cX7_putOne 20 = .ok (.invokevirtual 85, 3) := by decide +kernel
theorem dX7_putOne_23 : decode cX7_putOne 23 = .ok (.iadd, 1) := by decide +kernel
theorem dX7_putOne_24 : decode cX7_putOne 24 = .ok (.putfield 82, 3) := by decide +kernel
theorem dX7_putOne_27 : decode cX7_putOne 27 = .ok (.aload_n 0, 1) := by decide +kernel
theorem dX7_putOne_28 : decode cX7_putOne 28 = .ok (.getfield 20, 3) := by decide +kernel
theorem dX7_putOne_31 : decode cX7_putOne 31 = .ok (.iload_n 1, 1) := by decide +kernel
theorem dX7_putOne_32 : decode cX7_putOne 32 = .ok (.aload_n 2, 1) := by decide +kernel
theorem dX7_putOne_33 : decode cX7_putOne 33 = .ok (.aastore, 1) := by decide +kernel
theorem dX7_putOne_34 : decode cX7_putOne 34 = .ok (.return_, 1) := by decide +kernel
theorem dX7_clearDeclarations_0 : decode cX7_clearDeclarations 0 = .ok (.iconst 0, 1) := by decide +kernel
theorem dX7_clearDeclarations_1 : decode cX7_clearDeclarations 1 = .ok (.istore_n 1, 1) := by decide +kernel
theorem dX7_clearDeclarations_2 : decode cX7_clearDeclarations 2 = .ok (.iload_n 1, 1) := by decide +kernel
theorem dX7_clearDeclarations_3 : decode cX7_clearDeclarations 3 = .ok (.aload_n 0, 1) := by decide +kernel
theorem dX7_clearDeclarations_4 : decode cX7_clearDeclarations 4 = .ok (.getfield 20, 3) := by decide +kernel
theorem dX7_clearDeclarations_7 : decode cX7_clearDeclarations 7 = .ok (.arraylength, 1) := by decide +kernel
theorem dX7_clearDeclarations_8 : decode cX7_clearDeclarations 8 = .ok (.if_icmp .ge 16, 3) := by decide +kernel
theorem dX7_clearDeclarations_11 : decode cX7_clearDeclarations 11 = .ok (.aload_n 0, 1) := by decide +kernel
theorem dX7_clearDeclarations_12 : decode cX7_clearDeclarations 12 = .ok (.getfield 20, 3) := by decide +kernel
theorem dX7_clearDeclarations_15 : decode cX7_clearDeclarations 15 = .ok (.iload_n 1, 1) := by decide +kernel
theorem dX7_clearDeclarations_16 : decode cX7_clearDeclarations 16 = .ok (.aconst_null, 1) := by decide +kernel
theorem dX7_clearDeclarations_17 : decode cX7_clearDeclarations 17 = .ok (.aastore, 1) := by decide +kernel
theorem dX7_clearDeclarations_18 : decode cX7_clearDeclarations 18 = .ok (.iinc 1 1, 3) := by decide +kernel
theorem dX7_clearDeclarations_21 : decode cX7_clearDeclarations 21 = .ok (.goto (-19), 3) := by decide +kernel
theorem dX7_clearDeclarations_24 : decode cX7_clearDeclarations 24 = .ok (.aload_n 0, 1) := by decide +kernel
theorem dX7_clearDeclarations_25 : decode cX7_clearDeclarations 25 = .ok (.iconst 0, 1) := by decide +kernel
theorem dX7_clearDeclarations_26 : decode cX7_clearDeclarations 26 = .ok (.putfield 82, 3) := by decide +kernel
theorem dX7_clearDeclarations_29 : decode cX7_clearDeclarations 29 = .ok (.return_, 1) := by decide +kernel
theorem dX8_init_0 : decode cX8_init 0 = .ok (.aload_n 0, 1) := by decide +kernel
theorem dX8_init_1 : decode cX8_init 1 = .ok (.invokespecial 3, 3) := by decide +kernel
theorem dX8_init_4 : decode cX8_init 4 = .ok (.aload_n 0, 1) := by decide +kernel
theorem dX8_init_5 : decode cX8_init 5 = .ok (.new 9, 3) := by decide +kernel
theorem dX8_init_8 : decode cX8_init 8 = .ok (.dup, 1) := by decide +kernel
theorem dX8_init_9 : decode cX8_init 9 = .ok (.invokespecial 11, 3) := by decide +kernel
theorem dX8_init_12 : decode cX8_init 12 = .ok (.putfield 12, 3) := by decide +kernel
theorem dX8_init_15 : decode cX8_init 15 = .ok (.aload_n 0, 1) := by decide +kernel
theorem dX8_init_16 : decode cX8_init 16 = .ok (.new 9, 3) := by decide +kernel
theorem dX8_init_19 : decode cX8_init 19 = .ok (.dup, 1) := by decide +kernel
theorem dX8_init_20 : decode cX8_init 20 = .ok (.invokespecial 11, 3) := by decide +kernel
theorem dX8_init_23 : decode cX8_init 23 = .ok (.putfield 18, 3) := by decide +kernel
theorem dX8_init_26 : decode cX8_init 26 = .ok (.return_, 1) := by decide +kernel
theorem dX8_size_0 : decode cX8_size 0 = .ok (.aload_n 0, 1) := by decide +kernel
theorem dX8_size_1 : decode cX8_size 1 = .ok (.getfield 12, 3) := by decide +kernel
theorem dX8_size_4 : decode cX8_size 4 = .ok (.invokevirtual 21, 3) := by decide +kernel
theorem dX8_size_7 : decode cX8_size 7 = .ok (.ireturn, 1) := by decide +kernel
theorem dX8_find_0 : decode cX8_find 0 = .ok (.iload_n 1, 1) := by decide +kernel
theorem dX8_find_1 : decode cX8_find 1 = .ok (.ifCond .lt 28, 3) := by decide +kernel
theorem dX8_find_4 : decode cX8_find 4 = .ok (.iload_n 1, 1) := by decide +kernel
theorem dX8_find_5 : decode cX8_find 5 = .ok (.aload_n 0, 1) := by decide +kernel
theorem dX8_find_6 : decode cX8_find 6 = .ok (.getfield 12, 3) := by decide +kernel
theorem dX8_find_9 : decode cX8_find 9 = .ok (.invokevirtual 21, 3) := by decide +kernel
theorem dX8_find_12 : decode cX8_find 12 = .ok (.if_icmp .ge 17, 3) := by decide +kernel
theorem dX8_find_15 : decode cX8_find 15 = .ok (.aload_n 0, 1) := by decide +kernel
theorem dX8_find_16 : decode cX8_find 16 = .ok (.getfield 12, 3) := by decide +kernel
theorem dX8_find_19 : decode cX8_find 19 = .ok (.iload_n 1, 1) := by decide +kernel
theorem dX8_find_20 : decode cX8_find 20 = .ok (.invokevirtual 25, 3) := by decide +kernel
theorem dX8_find_23 : decode cX8_find 23 = .ok (.checkcast 29, 3) := by decide +kernel
theorem dX8_find_26 : decode cX8_find 26 = .ok (.goto 4, 3) := by decide +kernel
theorem dX8_find_29 : decode cX8_find 29 = .ok (.aconst_null, 1) := by decide +kernel
theorem dX8_find_30 : decode cX8_find 30 = .ok (.areturn, 1) := by decide +kernel
theorem dX8_append_0 : decode cX8_append 0 = .ok (.aload_n 0, 1) := by decide +kernel
theorem dX8_append_1 : decode cX8_append 1 = .ok (.getfield 12, 3) := by decide +kernel
theorem dX8_append_4 : decode cX8_append 4 = .ok (.aload_n 1, 1) := by decide +kernel
theorem dX8_append_5 : decode cX8_append 5 = .ok (.invokevirtual 31, 3) := by decide +kernel
theorem dX8_append_8 : decode cX8_append 8 = .ok (.pop, 1) := by decide +kernel
theorem dX8_append_9 : decode cX8_append 9 = .ok (.aload_n 0, 1) := by decide +kernel
theorem dX8_append_10 : decode cX8_append 10 = .ok (.aload_n 1, 1) := by decide +kernel
theorem dX8_append_11 : decode cX8_append 11 = .ok (.invokevirtual 35, 3) := by decide +kernel
theorem dX8_append_14 : decode cX8_append 14 = .ok (.return_, 1) := by decide +kernel
theorem dX8_rank_0 : decode cX8_rank 0 = .ok (.aload_n 0, 1) := by decide +kernel
theorem dX8_rank_1 : decode cX8_rank 1 = .ok (.getfield 18, 3) := by decide +kernel
theorem dX8_rank_4 : decode cX8_rank 4 = .ok (.invokevirtual 21, 3) := by decide +kernel
theorem dX8_rank_7 : decode cX8_rank 7 = .ok (.iconst 1, 1) := by decide +kernel
theorem dX8_rank_8 : decode cX8_rank 8 = .ok (.isub, 1) := by decide +kernel
theorem dX8_rank_9 : decode cX8_rank 9 = .ok (.istore_n 2, 1) := by decide +kernel
theorem dX8_rank_10 : decode cX8_rank 10 = .ok (.iload_n 2, 1) := by decide +kernel
theorem dX8_rank_11 : decode cX8_rank 11 = .ok (.ifCond .lt 30, 3) := by decide +kernel
theorem dX8_rank_14 : decode cX8_rank 14 = .ok (.aload_n 0, 1) := by decide +kernel
theorem dX8_rank_15 : decode cX8_rank 15 = .ok (.getfield 18, 3) := by decide +kernel
theorem dX8_rank_18 : decode cX8_rank 18 = .ok (.iload_n 2, 1) := by decide +kernel
theorem dX8_rank_19 : decode cX8_rank 19 = .ok (.invokevirtual 25, 3) := by decide +kernel
theorem dX8_rank_22 : decode cX8_rank 22 = .ok (.aload_n 1, 1) := by decide +kernel
theorem dX8_rank_23 : decode cX8_rank 23 = .ok (.if_acmp .ne 12, 3) := by decide +kernel
theorem dX8_rank_26 : decode cX8_rank 26 = .ok (.aload_n 0, 1) := by decide +kernel
theorem dX8_rank_27 : decode cX8_rank 27 = .ok (.getfield 18, 3) := by decide +kernel
theorem dX8_rank_30 : decode cX8_rank 30 = .ok (.iload_n 2, 1) := by decide +kernel
theorem dX8_rank_31 : decode cX8_rank 31 = .ok (.invokevirtual 39, 3) := by decide +kernel
theorem dX8_rank_34 : decode cX8_rank 34 = .ok (.pop, 1) := by decide +kernel
theorem dX8_rank_35 : decode cX8_rank 35 = .ok (.iinc 2 (-1), 3) := by decide +kernel
theorem dX8_rank_38 : decode cX8_rank 38 = .ok (.goto (-28), 3) := by decide +kernel
theorem dX8_rank_41 : decode cX8_rank 41 = .ok (.iconst 0, 1) := by decide +kernel
theorem dX8_rank_42 : decode cX8_rank 42 = .ok (.istore_n 2, 1) := by decide +kernel
theorem dX8_rank_43 : decode cX8_rank 43 = .ok (.iload_n 2, 1) := by decide +kernel
theorem dX8_rank_44 : decode cX8_rank 44 = .ok (.aload_n 0, 1) := by decide +kernel
theorem dX8_rank_45 : decode cX8_rank 45 = .ok (.getfield 18, 3) := by decide +kernel
theorem dX8_rank_48 : decode cX8_rank 48 = .ok (.invokevirtual 21, 3) := by decide +kernel
theorem dX8_rank_51 : decode cX8_rank 51 = .ok (.if_icmp .ge 27, 3) := by decide +kernel
theorem dX8_rank_54 : decode cX8_rank 54 = .ok (.aload_n 0, 1) := by decide +kernel
theorem dX8_rank_55 : decode cX8_rank 55 = .ok (.getfield 18, 3) := by decide +kernel
theorem dX8_rank_58 : decode cX8_rank 58 = .ok (.iload_n 2, 1) := by decide +kernel
theorem dX8_rank_59 : decode cX8_rank 59 = .ok (.invokevirtual 25, 3) := by decide +kernel
theorem dX8_rank_62 : decode cX8_rank 62 = .ok (.checkcast 29, 3) := by decide +kernel
theorem dX8_rank_65 : decode cX8_rank 65 = .ok (.aload_n 1, 1) := by decide +kernel
theorem dX8_rank_66 : decode cX8_rank 66 = .ok (.invokevirtual 42, 3) := by decide +kernel
theorem dX8_rank_69 : decode cX8_rank 69 = .ok (.ifCond .eq 9, 3) := by decide +kernel
theorem dX8_rank_72 : decode cX8_rank 72 = .ok (.iinc 2 1, 3) := by decide +kernel
theorem dX8_rank_75 : decode cX8_rank 75 = .ok (.goto (-32), 3) := by decide +kernel
theorem dX8_rank_78 : decode cX8_rank 78 = .ok (.aload_n 0, 1) := by decide +kernel
theorem dX8_rank_79 : decode cX8_rank 79 = .ok (.getfield 18, 3) := by decide +kernel
theorem dX8_rank_82 : decode cX8_rank 82 = .ok (.iload_n 2, 1) := by decide +kernel
theorem dX8_rank_83 : decode cX8_rank 83 = .ok (.aload_n 1, 1) := by decide +kernel
theorem dX8_rank_84 : decode cX8_rank 84 = .ok (.invokevirtual 46, 3) := by decide +kernel
theorem dX8_rank_87 : decode cX8_rank 87 = .ok (.return_, 1) := by decide +kernel
theorem dX8_listFor_0 : decode cX8_listFor 0 = .ok (.aload_n 1, 1) := by decide +kernel
theorem dX8_listFor_1 : decode cX8_listFor 1 = .ok (.invokevirtual 49, 3) := by decide +kernel
theorem dX8_listFor_4 : decode cX8_listFor 4 = .ok (.istore_n 3, 1) := by decide +kernel
theorem dX8_listFor_5 : decode cX8_listFor 5 = .ok (.aload_n 2, 1) := by decide +kernel
theorem dX8_listFor_6 : decode cX8_listFor 6 = .ok (.invokevirtual 54, 3) := by decide +kernel
theorem dX8_listFor_9 : decode cX8_listFor 9 = .ok (.iconst 0, 1) := by decide +kernel
theorem dX8_listFor_10 : decode cX8_listFor 10 = .ok (.istore 4, 2) := by decide +kernel
theorem dX8_listFor_12 : decode cX8_listFor 12 = .ok (.iload 4, 2) := by decide +kernel
theorem dX8_listFor_14 : decode cX8_listFor 14 = .ok (.aload_n 0, 1) := by decide +kernel
theorem dX8_listFor_15 : decode cX8_listFor 15 = .ok (.getfield 18, 3) := by decide +kernel
theorem dX8_listFor_18 : decode cX8_listFor 18 = .ok (.invokevirtual 21, 3) := by decide +kernel
theorem dX8_listFor_21 : decode cX8_listFor 21 = .ok (.if_icmp .ge 69, 3) := by decide +kernel
theorem dX8_listFor_24 : decode cX8_listFor 24 = .ok (.aload_n 0, 1) := by decide +kernel
theorem dX8_listFor_25 : decode cX8_listFor 25 = .ok (.getfield 18, 3) := by decide +kernel
theorem dX8_listFor_28 : decode cX8_listFor 28 = .ok (.iload 4, 2) := by decide +kernel
theorem dX8_listFor_30 : decode cX8_listFor 30 = .ok (.invokevirtual 25, 3) := by decide +kernel
theorem dX8_listFor_33 : decode cX8_listFor 33 = .ok (.checkcast 29, 3) := by decide +kernel
theorem dX8_listFor_36 : decode cX8_listFor 36 = .ok (.astore 5, 2) := by decide +kernel
theorem dX8_listFor_38 : decode cX8_listFor 38 = .ok (.aload 5, 2) := by decide +kernel
theorem dX8_listFor_40 : decode cX8_listFor 40 = .ok (.getfield 57, 3) := by decide +kernel
theorem dX8_listFor_43 : decode cX8_listFor 43 = .ok (.iconst (-1), 1) := by decide +kernel
theorem dX8_listFor_44 : decode cX8_listFor 44 = .ok (.if_icmp .eq 12, 3) := by decide +kernel
theorem dX8_listFor_47 : decode cX8_listFor 47 = .ok (.iload_n 3, 1) := by decide +kernel
theorem dX8_listFor_48 : decode cX8_listFor 48 = .ok (.aload 5, 2) := by decide +kernel
theorem dX8_listFor_50 : decode cX8_listFor 50 = .ok (.getfield 57, 3) := by decide +kernel
theorem dX8_listFor_53 : decode cX8_listFor 53 = .ok (.if_icmp .lt 7, 3) := by decide +kernel
theorem dX8_listFor_56 : decode cX8_listFor 56 = .ok (.iconst 1, 1) := by decide +kernel
theorem dX8_listFor_57 : decode cX8_listFor 57 = .ok (.goto 4, 3) := by decide +kernel
theorem dX8_listFor_60 : decode cX8_listFor 60 = .ok (.iconst 0, 1) := by decide +kernel
theorem dX8_listFor_61 : decode cX8_listFor 61 = .ok (.istore 6, 2) := by decide +kernel
theorem dX8_listFor_63 : decode cX8_listFor 63 = .ok (.iload 6, 2) := by decide +kernel
theorem dX8_listFor_65 : decode cX8_listFor 65 = .ok (.ifCond .eq 19, 3) := by decide +kernel
theorem dX8_listFor_68 : decode cX8_listFor 68 = .ok (.aload 5, 2) := by decide +kernel
theorem dX8_listFor_70 : decode cX8_listFor 70 = .ok (.aload_n 1, 1) := by decide +kernel
theorem dX8_listFor_71 : decode cX8_listFor 71 = .ok (.invokevirtual 61, 3) := by decide +kernel
theorem dX8_listFor_74 : decode cX8_listFor 74 = .ok (.ifCond .eq 10, 3) := by decide +kernel
theorem dX8_listFor_77 : decode cX8_listFor 77 = .ok (.aload_n 2, 1) := by decide +kernel
theorem dX8_listFor_78 : decode cX8_listFor 78 = .ok (.aload 5, 2) := by decide +kernel
theorem dX8_listFor_80 : decode cX8_listFor 80 = .ok (.invokevirtual 31, 3) := by decide +kernel
theorem dX8_listFor_83 : decode cX8_listFor 83 = .ok (.pop, 1) := by decide +kernel
theorem dX8_listFor_84 : decode cX8_listFor 84 = .ok (.iinc 4 1, 3) := by decide +kernel
theorem dX8_listFor_87 : decode cX8_listFor 87 = .ok (.goto (-75), 3) := by decide +kernel
theorem dX8_listFor_90 : decode cX8_listFor 90 = .ok (.return_, 1) := by decide +kernel
theorem dX9_countWords_0 : decode cX9_countWords 0 = .ok (.iconst 0, 1) := by decide +kernel
theorem dX9_countWords_1 : decode cX9_countWords 1 = .ok (.istore_n 1, 1) := by decide +kernel
theorem dX9_countWords_2 : decode cX9_countWords 2 = .ok (.iload_n 0, 1) := by decide +kernel
theorem dX9_countWords_3 : decode cX9_countWords 3 = .ok (.istore_n 2, 1) := by decide +kernel
theorem dX9_countWords_4 : decode cX9_countWords 4 = .ok (.iload_n 1, 1) := by decide +kernel
theorem dX9_countWords_5 : decode cX9_countWords 5 = .ok (.bipush 8, 2) := by decide +kernel
theorem dX9_countWords_7 : decode cX9_countWords 7 = .ok (.if_icmp .ge 27, 3) := by decide +kernel
theorem dX9_countWords_10 : decode cX9_countWords 10 = .ok (.iload_n 2, 1) := by decide +kernel
theorem dX9_countWords_11 : decode cX9_countWords 11 = .ok (.ifCond .le 23, 3) := by decide +kernel
theorem dX9_countWords_14 : decode cX9_countWords 14 = .ok (.iload_n 2, 1) := by decide +kernel
theorem dX9_countWords_15 : decode cX9_countWords 15 = .ok (.bipush 10, 2) := by decide +kernel
theorem dX9_countWords_17 : decode cX9_countWords 17 = .ok (.irem, 1) := by decide +kernel
theorem dX9_countWords_18 : decode cX9_countWords 18 = .ok (.ifCond .ne 5, 3) := by decide +kernel
theorem dX9_countWords_21 : decode cX9_countWords 21 = .ok (.iconst (-1), 1) := by decide +kernel
theorem dX9_countWords_22 : decode cX9_countWords 22 = .ok (.ireturn, 1) := by decide +kernel
theorem dX9_countWords_23 : decode cX9_countWords 23 = .ok (.iload_n 2, 1) := by decide +kernel
theorem dX9_countWords_24 : decode cX9_countWords 24 = .ok (.bipush 10, 2) := by decide +kernel
theorem dX9_countWords_26 : decode cX9_countWords 26 = .ok (.idiv, 1) := by decide +kernel
theorem dX9_countWords_27 : decode cX9_countWords 27 = .ok (.istore_n 2, 1) := by decide +kernel
theorem dX9_countWords_28 : decode cX9_countWords 28 = .ok (.iinc 1 1, 3) := by decide +kernel
theorem dX9_countWords_31 : decode cX9_countWords 31 = .ok (.goto (-27), 3) := by decide +kernel
theorem dX9_countWords_34 : decode cX9_countWords 34 = .ok (.iload_n 1, 1) := by decide +kernel
theorem dX9_countWords_35 : decode cX9_countWords 35 = .ok (.ireturn, 1) := by decide +kernel
theorem dX9_longestWord_0 : decode cX9_longestWord 0 = .ok (.iconst 0, 1) := by decide +kernel
theorem dX9_longestWord_1 : decode cX9_longestWord 1 = .ok (.istore_n 1, 1) := by decide +kernel
theorem dX9_longestWord_2 : decode cX9_longestWord 2 = .ok (.iload_n 0, 1) := by decide +kernel
theorem dX9_longestWord_3 : decode cX9_longestWord 3 = .ok (.istore_n 2, 1) := by decide +kernel
theorem dX9_longestWord_4 : decode cX9_longestWord 4 = .ok (.iconst 0, 1) := by decide +kernel
theorem dX9_longestWord_5 : decode cX9_longestWord 5 = .ok (.istore_n 3, 1) := by decide +kernel
theorem dX9_longestWord_6 : decode cX9_longestWord 6 = .ok (.iload_n 3, 1) := by decide +kernel
theorem dX9_longestWord_7 : decode cX9_longestWord 7 = .ok (.bipush 8, 2) := by decide +kernel
theorem dX9_longestWord_9 : decode cX9_longestWord 9 = .ok (.if_icmp .ge 27, 3) := by decide +kernel
theorem dX9_longestWord_12 : decode cX9_longestWord 12 = .ok (.iload_n 2, 1) := by decide +kernel
theorem dX9_longestWord_13 : decode cX9_longestWord 13 = .ok (.ifCond .le 23, 3) := by decide +kernel
theorem dX9_longestWord_16 : decode cX9_longestWord 16 = .ok (.iload_n 1, 1) := by decide +kernel
theorem dX9_longestWord_17 : decode cX9_longestWord 17 = .ok (.iload_n 2, 1) := by decide +kernel
theorem dX9_longestWord_18 : decode cX9_longestWord 18 = .ok (.bipush 10, 2) := by decide +kernel
theorem dX9_longestWord_20 : decode cX9_longestWord 20 = .ok (.irem, 1) := by decide +kernel
theorem dX9_longestWord_21 : decode cX9_longestWord 21 = .ok (.invokestatic 9, 3) := by decide +kernel
theorem dX9_longestWord_24 : decode cX9_longestWord 24 = .ok (.istore_n 1, 1) := by decide +kernel
theorem dX9_longestWord_25 : decode cX9_longestWord 25 = .ok (.iload_n 2, 1) := by decide +kernel
theorem dX9_longestWord_26 : decode cX9_longestWord 26 = .ok (.bipush 10, 2) := by decide +kernel
theorem dX9_longestWord_28 : decode cX9_longestWord 28 = .ok (.idiv, 1) := by decide +kernel
theorem dX9_longestWord_29 : decode cX9_longestWord 29 = .ok (.istore_n 2, 1) := by decide +kernel
theorem dX9_longestWord_30 : decode cX9_longestWord 30 = .ok (.iinc 3 1, 3) := by decide +kernel
theorem dX9_longestWord_33 : decode cX9_longestWord 33 = .ok (.goto (-27), 3) := by decide +kernel
theorem dX9_longestWord_36 : decode cX9_longestWord 36 = .ok (.iload_n 1, 1) := by decide +kernel
theorem dX9_longestWord_37 : decode cX9_longestWord 37 = .ok (.ireturn, 1) := by decide +kernel
theorem dX9_countLines_0 : decode cX9_countLines 0 = .ok (.iconst 0, 1) := by decide +kernel
theorem dX9_countLines_1 : decode cX9_countLines 1 = .ok (.istore_n 3, 1) := by decide +kernel
theorem dX9_countLines_2 : decode cX9_countLines 2 = .ok (.iconst 0, 1) := by decide +kernel
theorem dX9_countLines_3 : decode cX9_countLines 3 = .ok (.istore 4, 2) := by decide +kernel
theorem dX9_countLines_5 : decode cX9_countLines 5 = .ok (.iload_n 0, 1) := by decide +kernel
theorem dX9_countLines_6 : decode cX9_countLines 6 = .ok (.istore 5, 2) := by decide +kernel
theorem dX9_countLines_8 : decode cX9_countLines 8 = .ok (.iconst 0, 1) := by decide +kernel
theorem dX9_countLines_9 : decode cX9_countLines 9 = .ok (.istore 6, 2) := by decide +kernel
theorem dX9_countLines_11 : decode cX9_countLines 11 = .ok (.iload 6, 2) := by decide +kernel
theorem dX9_countLines_13 : decode cX9_countLines 13 = .ok (.bipush 8, 2) := by decide +kernel
theorem dX9_countLines_15 : decode cX9_countLines 15 = .ok (.if_icmp .ge 64, 3) := by decide +kernel
theorem dX9_countLines_18 : decode cX9_countLines 18 = .ok (.iload 5, 2) := by decide +kernel
theorem dX9_countLines_20 : decode cX9_countLines 20 = .ok (.ifCond .le 59, 3) := by decide +kernel
theorem dX9_countLines_23 : decode cX9_countLines 23 = .ok (.iload 5, 2) := by decide +kernel
theorem dX9_countLines_25 : decode cX9_countLines 25 = .ok (.bipush 10, 2) := by decide +kernel
theorem dX9_countLines_27 : decode cX9_countLines 27 = .ok (.irem, 1) := by decide +kernel
theorem dX9_countLines_28 : decode cX9_countLines 28 = .ok (.iload_n 1, 1) := by decide +kernel
theorem dX9_countLines_29 : decode cX9_countLines 29 = .ok (.imul, 1) := by decide +kernel
theorem dX9_countLines_30 : decode cX9_countLines 30 = .ok (.istore 7, 2) := by decide +kernel
theorem dX9_countLines_32 : decode cX9_countLines 32 = .ok (.iload_n 3, 1) := by decide +kernel
theorem dX9_countLines_33 : decode cX9_countLines 33 = .ok (.ifCond .le 26, 3) := by decide +kernel
theorem dX9_countLines_36 : decode cX9_countLines 36 = .ok (.iload 4, 2) := by decide +kernel
theorem dX9_countLines_38 : decode cX9_countLines 38 = .ok (.iload_n 1, 1) := by decide +kernel
theorem dX9_countLines_39 : decode cX9_countLines 39 = .ok (.iadd, 1) := by decide +kernel
theorem dX9_countLines_40 : decode cX9_countLines 40 = .ok (.iload 7, 2) := by decide +kernel
theorem dX9_countLines_42 : decode cX9_countLines 42 = .ok (.iadd, 1) := by decide +kernel
theorem dX9_countLines_43 : decode cX9_countLines 43 = .ok (.iload_n 2, 1) := by decide +kernel
theorem dX9_countLines_44 : decode cX9_countLines 44 = .ok (.if_icmp .gt 15, 3) := by decide +kernel
theorem dX9_countLines_47 : decode cX9_countLines 47 = .ok (.iload 4, 2) := by decide +kernel
theorem dX9_countLines_49 : decode cX9_countLines 49 = .ok (.iload_n 1, 1) := by decide +kernel
theorem dX9_countLines_50 : decode cX9_countLines 50 = .ok (.iload 7, 2) := by decide +kernel
theorem dX9_countLines_52 : decode cX9_countLines 52 = .ok (.iadd, 1) := by decide +kernel
theorem dX9_countLines_53 : decode cX9_countLines 53 = .ok (.iadd, 1) := by decide +kernel
theorem dX9_countLines_54 : decode cX9_countLines 54 = .ok (.istore 4, 2) := by decide +kernel
theorem dX9_countLines_56 : decode cX9_countLines 56 = .ok (.goto 10, 3) := by decide +kernel
theorem dX9_countLines_59 : decode cX9_countLines 59 = .ok (.iinc 3 1, 3) := by decide +kernel
theorem dX9_countLines_62 : decode cX9_countLines 62 = .ok (.iload 7, 2) := by decide +kernel
theorem dX9_countLines_64 : decode cX9_countLines 64 = .ok (.istore 4, 2) := by decide +kernel
theorem dX9_countLines_66 : decode cX9_countLines 66 = .ok (.iload 5, 2) := by decide +kernel
theorem dX9_countLines_68 : decode cX9_countLines 68 = .ok (.bipush 10, 2) := by decide +kernel
theorem dX9_countLines_70 : decode cX9_countLines 70 = .ok (.idiv, 1) := by decide +kernel
theorem dX9_countLines_71 : decode cX9_countLines 71 = .ok (.istore 5, 2) := by decide +kernel
theorem dX9_countLines_73 : decode cX9_countLines 73 = .ok (.iinc 6 1, 3) := by decide +kernel
theorem dX9_countLines_76 : decode cX9_countLines 76 = .ok (.goto (-65), 3) := by decide +kernel
theorem dX9_countLines_79 : decode cX9_countLines 79 = .ok (.iload_n 3, 1) := by decide +kernel
theorem dX9_countLines_80 : decode cX9_countLines 80 = .ok (.ireturn, 1) := by decide +kernel
theorem dX10_init_0 : decode cX10_init 0 = .ok (.aload_n 0, 1) := by decide +kernel
theorem dX10_init_1 : decode cX10_init 1 = .ok (.invokespecial 1, 3) := by decide +kernel
theorem dX10_init_4 : decode cX10_init 4 = .ok (.aload_n 0, 1) := by decide +kernel
theorem dX10_init_5 : decode cX10_init 5 = .ok (.new 7, 3) := by decide +kernel
theorem dX10_init_8 : decode cX10_init 8 = .ok (.dup, 1) := by decide +kernel
theorem dX10_init_9 : decode cX10_init 9 = .ok (.invokespecial 9, 3) := by decide +kernel
theorem dX10_init_12 : decode cX10_init 12 = .ok (.putfield 10, 3) := by decide +kernel
theorem dX10_init_15 : decode cX10_init 15 = .ok (.aload_n 0, 1) := by decide +kernel
theorem dX10_init_16 : decode cX10_init 16 = .ok (.new 7, 3) := by decide +kernel
theorem dX10_init_19 : decode cX10_init 19 = .ok (.dup, 1) := by decide +kernel
theorem dX10_init_20 : decode cX10_init 20 = .ok (.invokespecial 9, 3) := by decide +kernel
theorem dX10_init_23 : decode cX10_init 23 = .ok (.putfield 16, 3) := by decide +kernel
theorem dX10_init_26 : decode cX10_init 26 = .ok (.new 19, 3) := by decide +kernel
theorem dX10_init_29 : decode cX10_init 29 = .ok (.dup, 1) := by decide +kernel
theorem dX10_init_30 : decode cX10_init 30 = .ok (.invokespecial 21, 3) := by decide +kernel
theorem dX10_init_33 : decode cX10_init 33 = .ok (.astore_n 1, 1) := by decide +kernel
theorem dX10_init_34 : decode cX10_init 34 = .ok (.aload_n 1, 1) := by decide +kernel
theorem dX10_init_35 : decode cX10_init 35 = .ok (.iconst 0, 1) := by decide +kernel
theorem dX10_init_36 : decode cX10_init 36 = .ok (.iconst 0, 1) := by decide +kernel
theorem dX10_init_37 : decode cX10_init 37 = .ok (.iconst 0, 1) := by decide +kernel
theorem dX10_init_38 : decode cX10_init 38 = .ok (.invokevirtual 22, 3) := by decide +kernel
theorem dX10_init_41 : decode cX10_init 41 = .ok (.aload_n 0, 1) := by decide +kernel
theorem dX10_init_42 : decode cX10_init 42 = .ok (.getfield 10, 3) := by decide +kernel
theorem dX10_init_45 : decode cX10_init 45 = .ok (.aload_n 1, 1) := by decide +kernel
theorem dX10_init_46 : decode cX10_init 46 = .ok (.invokevirtual 26, 3) := by decide +kernel
theorem dX10_init_49 : decode cX10_init 49 = .ok (.pop, 1) := by decide +kernel
theorem dX10_init_50 : decode cX10_init 50 = .ok (.aload_n 0, 1) := by decide +kernel
theorem dX10_init_51 : decode cX10_init 51 = .ok (.iconst 1, 1) := by decide +kernel
theorem dX10_init_52 : decode cX10_init 52 = .ok (.putfield 30, 3) := by decide +kernel
theorem dX10_init_55 : decode cX10_init 55 = .ok (.return_, 1) := by decide +kernel
theorem dX10_size_0 : decode cX10_size 0 = .ok (.aload_n 0, 1) := by decide +kernel
theorem dX10_size_1 : decode cX10_size 1 = .ok (.getfield 10, 3) := by decide +kernel
theorem dX10_size_4 : decode cX10_size 4 = .ok (.invokevirtual 34, 3) := by decide +kernel
theorem dX10_size_7 : decode cX10_size 7 = .ok (.ireturn, 1) := by decide +kernel
theorem dX10_get_0 : decode cX10_get 0 = .ok (.aload_n 0, 1) := by decide +kernel
theorem dX10_get_1 : decode cX10_get 1 = .ok (.getfield 10, 3) := by decide +kernel
theorem dX10_get_4 : decode cX10_get 4 = .ok (.iload_n 1, 1) := by decide +kernel
theorem dX10_get_5 : decode cX10_get 5 = .ok (.invokevirtual 38, 3) := by decide +kernel
theorem dX10_get_8 : decode cX10_get 8 = .ok (.checkcast 19, 3) := by decide +kernel
theorem dX10_get_11 : decode cX10_get 11 = .ok (.areturn, 1) := by decide +kernel
theorem dX10_find_0 : decode cX10_find 0 = .ok (.iconst 0, 1) := by decide +kernel
theorem dX10_find_1 : decode cX10_find 1 = .ok (.istore_n 2, 1) := by decide +kernel
theorem dX10_find_2 : decode cX10_find 2 = .ok (.iload_n 2, 1) := by decide +kernel
theorem dX10_find_3 : decode cX10_find 3 = .ok (.aload_n 0, 1) := by decide +kernel
theorem dX10_find_4 : decode cX10_find 4 = .ok (.getfield 10, 3) := by decide +kernel
theorem dX10_find_7 : decode cX10_find 7 = .ok (.invokevirtual 34, 3) := by decide +kernel
theorem dX10_find_10 : decode cX10_find 10 = .ok (.if_icmp .ge 31, 3) := by decide +kernel
theorem dX10_find_13 : decode cX10_find 13 = .ok (.aload_n 0, 1) := by decide +kernel
theorem dX10_find_14 : decode cX10_find 14 = .ok (.getfield 10, 3) := by decide +kernel
theorem dX10_find_17 : decode cX10_find 17 = .ok (.iload_n 2, 1) := by decide +kernel
theorem dX10_find_18 : decode cX10_find 18 = .ok (.invokevirtual 38, 3) := by decide +kernel
theorem dX10_find_21 : decode cX10_find 21 = .ok (.checkcast 19, 3) := by decide +kernel
theorem dX10_find_24 : decode cX10_find 24 = .ok (.astore_n 3, 1) := by decide +kernel
theorem dX10_find_25 : decode cX10_find 25 = .ok (.aload_n 3, 1) := by decide +kernel
theorem dX10_find_26 : decode cX10_find 26 = .ok (.getfield 42, 3) := by decide +kernel
theorem dX10_find_29 : decode cX10_find 29 = .ok (.iload_n 1, 1) := by decide +kernel
theorem dX10_find_30 : decode cX10_find 30 = .ok (.if_icmp .ne 5, 3) := by decide +kernel
theorem dX10_find_33 : decode cX10_find 33 = .ok (.aload_n 3, 1) := by decide +kernel
theorem dX10_find_34 : decode cX10_find 34 = .ok (.areturn, 1) := by decide +kernel
theorem dX10_find_35 : decode cX10_find 35 = .ok (.iinc 2 1, 3) := by decide +kernel
theorem dX10_find_38 : decode cX10_find 38 = .ok (.goto (-36), 3) := by decide +kernel
theorem dX10_find_41 : decode cX10_find 41 = .ok (.aconst_null, 1) := by decide +kernel
theorem dX10_find_42 : decode cX10_find 42 = .ok (.areturn, 1) := by decide +kernel
theorem dX10_append_0 : decode cX10_append 0 = .ok (.aload_n 0, 1) := by decide +kernel
theorem dX10_append_1 : decode cX10_append 1 = .ok (.getfield 16, 3) := by decide +kernel
theorem dX10_append_4 : decode cX10_append 4 = .ok (.invokevirtual 45, 3) := by decide +kernel
theorem dX10_append_7 : decode cX10_append 7 = .ok (.ifCond .eq 13, 3) := by decide +kernel
theorem dX10_append_10 : decode cX10_append 10 = .ok (.new 19, 3) := by decide +kernel
theorem dX10_append_13 : decode cX10_append 13 = .ok (.dup, 1) := by decide +kernel
theorem dX10_append_14 : decode cX10_append 14 = .ok (.invokespecial 21, 3) := by decide +kernel
theorem dX10_append_17 : decode cX10_append 17 = .ok (.goto 22, 3) := by decide +kernel
theorem dX10_append_20 : decode cX10_append 20 = .ok (.aload_n 0, 1) := by decide +kernel
theorem dX10_append_21 : decode cX10_append 21 = .ok (.getfield 16, 3) := by decide +kernel
theorem dX10_append_24 : decode cX10_append 24 = .ok (.aload_n 0, 1) := by decide +kernel
theorem dX10_append_25 : decode cX10_append 25 = .ok (.getfield 16, 3) := by decide +kernel
theorem dX10_append_28 : decode cX10_append 28 = .ok (.invokevirtual 34, 3) := by decide +kernel
theorem dX10_append_31 : decode cX10_append 31 = .ok (.iconst 1, 1) := by decide +kernel
theorem dX10_append_32 : decode cX10_append 32 = .ok (.isub, 1) := by decide +kernel
theorem dX10_append_33 : decode cX10_append 33 = .ok (.invokevirtual 49, 3) := by decide +kernel
theorem dX10_append_36 : decode cX10_append 36 = .ok (.checkcast 19, 3) := by decide +kernel
theorem dX10_append_39 : decode cX10_append 39 = .ok (.astore 4, 2) := by decide +kernel
theorem dX10_append_41 : decode cX10_append 41 = .ok (.aload 4, 2) := by decide +kernel
theorem dX10_append_43 : decode cX10_append 43 = .ok (.aload_n 0, 1) := by decide +kernel
theorem dX10_append_44 : decode cX10_append 44 = .ok (.getfield 30, 3) := by decide +kernel
theorem dX10_append_47 : decode cX10_append 47 = .ok (.iload_n 2, 1) := by decide +kernel
theorem dX10_append_48 : decode cX10_append 48 = .ok (.iload_n 3, 1) := by decide +kernel
theorem dX10_append_49 : decode cX10_append 49 = .ok (.invokevirtual 22, 3) := by decide +kernel
theorem dX10_append_52 : decode cX10_append 52 = .ok (.aload_n 0, 1) := by decide +kernel
theorem dX10_append_53 : decode cX10_append 53 = .ok (.dup, 1) := by decide +kernel
theorem dX10_append_54 : decode cX10_append 54 = .ok (.getfield 30, 3) := by decide +kernel
theorem dX10_append_57 : decode cX10_append 57 = .ok (.iconst 1, 1) := by decide +kernel
theorem dX10_append_58 : decode cX10_append 58 = .ok (.iadd, 1) := by decide +kernel
theorem dX10_append_59 : decode cX10_append 59 = .ok (.putfield 30, 3) := by decide +kernel
theorem dX10_append_62 : decode cX10_append 62 = .ok (.aload 4, 2) := by decide +kernel
theorem dX10_append_64 : decode cX10_append 64 = .ok (.aload_n 1, 1) := by decide +kernel
theorem dX10_append_65 : decode cX10_append 65 = .ok (.putfield 52, 3) := by decide +kernel
theorem dX10_append_68 : decode cX10_append 68 = .ok (.aload 4, 2) := by decide +kernel
theorem dX10_append_70 : decode cX10_append 70 = .ok (.aload_n 1, 1) := by decide +kernel
theorem dX10_append_71 : decode cX10_append 71 = .ok (.getfield 56, 3) := by decide +kernel
theorem dX10_append_74 : decode cX10_append 74 = .ok (.putfield 59, 3) := by decide +kernel
theorem dX10_append_77 : decode cX10_append 77 = .ok (.aload 4, 2) := by decide +kernel
theorem dX10_append_79 : decode cX10_append 79 = .ok (.getfield 59, 3) := by decide +kernel
theorem dX10_append_82 : decode cX10_append 82 = .ok (.ifnonnull 12, 3) := by decide +kernel
theorem dX10_append_85 : decode cX10_append 85 = .ok (.aload_n 1, 1) := by decide +kernel
theorem dX10_append_86 : decode cX10_append 86 = .ok (.aload 4, 2) := by decide +kernel
theorem dX10_append_88 : decode cX10_append 88 = .ok (.putfield 62, 3) := by decide +kernel
theorem dX10_append_91 : decode cX10_append 91 = .ok (.goto 13, 3) := by decide +kernel
theorem dX10_append_94 : decode cX10_append 94 = .ok (.aload 4, 2) := by decide +kernel
theorem dX10_append_96 : decode cX10_append 96 = .ok (.getfield 59, 3) := by decide +kernel
theorem dX10_append_99 : decode cX10_append 99 = .ok (.aload 4, 2) := by decide +kernel
theorem dX10_append_101 : decode cX10_append 101 = .ok (.putfield 65, 3) := by decide +kernel
theorem dX10_append_104 : decode cX10_append 104 = .ok (.aload_n 1, 1) := by decide +kernel
theorem dX10_append_105 : decode cX10_append 105 = .ok (.aload 4, 2) := by decide +kernel
theorem dX10_append_107 : decode cX10_append 107 = .ok (.putfield 56, 3) := by decide +kernel
theorem dX10_append_110 : decode cX10_append 110 = .ok (.aload_n 0, 1) := by decide +kernel
theorem dX10_append_111 : decode cX10_append 111 = .ok (.getfield 10, 3) := by decide +kernel
theorem dX10_append_114 : decode cX10_append 114 = .ok (.aload 4, 2) := by decide +kernel
theorem dX10_append_116 : decode cX10_append 116 = .ok (.invokevirtual 26, 3) := by decide +kernel
theorem dX10_append_119 : decode cX10_append 119 = .ok (.pop, 1) := by decide +kernel
theorem dX10_append_120 : decode cX10_append 120 = .ok (.aload 4, 2) := by decide +kernel
theorem dX10_append_122 : decode cX10_append 122 = .ok (.areturn, 1) := by decide +kernel
theorem dX10_cut_0 : decode cX10_cut 0 = .ok (.aload_n 1, 1) := by decide +kernel
theorem dX10_cut_1 : decode cX10_cut 1 = .ok (.invokestatic 68, 3) := by decide +kernel
theorem dX10_cut_4 : decode cX10_cut 4 = .ok (.iconst 0, 1) := by decide +kernel
theorem dX10_cut_5 : decode cX10_cut 5 = .ok (.istore_n 2, 1) := by decide +kernel
theorem dX10_cut_6 : decode cX10_cut 6 = .ok (.aload_n 0, 1) := by decide +kernel
theorem dX10_cut_7 : decode cX10_cut 7 = .ok (.getfield 10, 3) := by decide +kernel
theorem dX10_cut_10 : decode cX10_cut 10 = .ok (.invokevirtual 34, 3) := by decide +kernel
theorem dX10_cut_13 : decode cX10_cut 13 = .ok (.iconst 1, 1) := by decide +kernel
theorem dX10_cut_14 : decode cX10_cut 14 = .ok (.isub, 1) := by decide +kernel
theorem dX10_cut_15 : decode cX10_cut 15 = .ok (.istore_n 3, 1) := by decide +kernel
theorem dX10_cut_16 : decode cX10_cut 16 = .ok (.iload_n 3, 1) := by decide +kernel
theorem dX10_cut_17 : decode cX10_cut 17 = .ok (.ifCond .lt 53, 3) := by decide +kernel
theorem dX10_cut_20 : decode cX10_cut 20 = .ok (.aload_n 0, 1) := by decide +kernel
theorem dX10_cut_21 : decode cX10_cut 21 = .ok (.getfield 10, 3) := by decide +kernel
theorem dX10_cut_24 : decode cX10_cut 24 = .ok (.iload_n 3, 1) := by decide +kernel
theorem dX10_cut_25 : decode cX10_cut 25 = .ok (.invokevirtual 38, 3) := by decide +kernel
theorem dX10_cut_28 : decode cX10_cut 28 = .ok (.checkcast 19, 3) := by decide +kernel
theorem dX10_cut_31 : decode cX10_cut 31 = .ok (.astore 4, 2) := by decide +kernel
theorem dX10_cut_33 : decode cX10_cut 33 = .ok (.aload 4, 2) := by decide +kernel
theorem dX10_cut_35 : decode cX10_cut 35 = .ok (.aload_n 1, 1) := by decide +kernel
theorem dX10_cut_36 : decode cX10_cut 36 = .ok (.invokevirtual 72, 3) := by decide +kernel
theorem dX10_cut_39 : decode cX10_cut 39 = .ok (.ifCond .eq 25, 3) := by decide +kernel
theorem dX10_cut_42 : decode cX10_cut 42 = .ok (.aload_n 0, 1) := by decide +kernel
theorem dX10_cut_43 : decode cX10_cut 43 = .ok (.getfield 10, 3) := by decide +kernel
theorem dX10_cut_46 : decode cX10_cut 46 = .ok (.iload_n 3, 1) := by decide +kernel
theorem dX10_cut_47 : decode cX10_cut 47 = .ok (.invokevirtual 49, 3) := by decide +kernel
theorem dX10_cut_50 : decode cX10_cut 50 = .ok (.pop, 1) := by decide +kernel
theorem dX10_cut_51 : decode cX10_cut 51 = .ok (.aload_n 0, 1) := by decide +kernel
theorem dX10_cut_52 : decode cX10_cut 52 = .ok (.getfield 16, 3) := by decide +kernel
theorem dX10_cut_55 : decode cX10_cut 55 = .ok (.aload 4, 2) := by decide +kernel
theorem dX10_cut_57 : decode cX10_cut 57 = .ok (.invokevirtual 26, 3) := by decide +kernel
theorem dX10_cut_60 : decode cX10_cut 60 = .ok (.pop, 1) := by decide +kernel
theorem dX10_cut_61 : decode cX10_cut 61 = .ok (.iinc 2 1, 3) := by decide +kernel
theorem dX10_cut_64 : decode cX10_cut 64 = .ok (.iinc 3 (-1), 3) := by decide +kernel
theorem dX10_cut_67 : decode cX10_cut 67 = .ok (.goto (-51), 3) := by decide +kernel
theorem dX10_cut_70 : decode cX10_cut 70 = .ok (.iload_n 2, 1) := by decide +kernel
theorem dX10_cut_71 : decode cX10_cut 71 = .ok (.ireturn, 1) := by decide +kernel
theorem dX10_unlink_0 : decode cX10_unlink 0 = .ok (.aload_n 0, 1) := by decide +kernel
theorem dX10_unlink_1 : decode cX10_unlink 1 = .ok (.getfield 59, 3) := by decide +kernel
theorem dX10_unlink_4 : decode cX10_unlink 4 = .ok (.ifnull 17, 3) := by decide +kernel
theorem dX10_unlink_7 : decode cX10_unlink 7 = .ok (.aload_n 0, 1) := by decide +kernel
theorem dX10_unlink_8 : decode cX10_unlink 8 = .ok (.getfield 59, 3) := by decide +kernel
theorem dX10_unlink_11 : decode cX10_unlink 11 = .ok (.aload_n 0, 1) := by decide +kernel
theorem dX10_unlink_12 : decode cX10_unlink 12 = .ok (.getfield 65, 3) := by decide +kernel
theorem dX10_unlink_15 : decode cX10_unlink 15 = .ok (.putfield 65, 3) := by decide +kernel
theorem dX10_unlink_18 : decode cX10_unlink 18 = .ok (.goto 21, 3) := by decide +kernel
theorem dX10_unlink_21 : decode cX10_unlink 21 = .ok (.aload_n 0, 1) := by decide +kernel
theorem dX10_unlink_22 : decode cX10_unlink 22 = .ok (.getfield 52, 3) := by decide +kernel
theorem dX10_unlink_25 : decode cX10_unlink 25 = .ok (.ifnull 14, 3) := by decide +kernel
theorem dX10_unlink_28 : decode cX10_unlink 28 = .ok (.aload_n 0, 1) := by decide +kernel
theorem dX10_unlink_29 : decode cX10_unlink 29 = .ok (.getfield 52, 3) := by decide +kernel
theorem dX10_unlink_32 : decode cX10_unlink 32 = .ok (.aload_n 0, 1) := by decide +kernel
theorem dX10_unlink_33 : decode cX10_unlink 33 = .ok (.getfield 65, 3) := by decide +kernel
theorem dX10_unlink_36 : decode cX10_unlink 36 = .ok (.putfield 62, 3) := by decide +kernel
theorem dX10_unlink_39 : decode cX10_unlink 39 = .ok (.aload_n 0, 1) := by decide +kernel
theorem dX10_unlink_40 : decode cX10_unlink 40 = .ok (.getfield 65, 3) := by decide +kernel
theorem dX10_unlink_43 : decode cX10_unlink 43 = .ok (.ifnull 17, 3) := by decide +kernel
theorem dX10_unlink_46 : decode cX10_unlink 46 = .ok (.aload_n 0, 1) := by decide +kernel
theorem dX10_unlink_47 : decode cX10_unlink 47 = .ok (.getfield 65, 3) := by decide +kernel
theorem dX10_unlink_50 : decode cX10_unlink 50 = .ok (.aload_n 0, 1) := by decide +kernel
theorem dX10_unlink_51 : decode cX10_unlink 51 = .ok (.getfield 59, 3) := by decide +kernel
theorem dX10_unlink_54 : decode cX10_unlink 54 = .ok (.putfield 59, 3) := by decide +kernel
theorem dX10_unlink_57 : decode cX10_unlink 57 = .ok (.goto 21, 3) := by decide +kernel
theorem dX10_unlink_60 : decode cX10_unlink 60 = .ok (.aload_n 0, 1) := by decide +kernel
theorem dX10_unlink_61 : decode cX10_unlink 61 = .ok (.getfield 52, 3) := by decide +kernel
theorem dX10_unlink_64 : decode cX10_unlink 64 = .ok (.ifnull 14, 3) := by decide +kernel
theorem dX10_unlink_67 : decode cX10_unlink 67 = .ok (.aload_n 0, 1) := by decide +kernel
theorem dX10_unlink_68 : decode cX10_unlink 68 = .ok (.getfield 52, 3) := by decide +kernel
theorem dX10_unlink_71 : decode cX10_unlink 71 = .ok (.aload_n 0, 1) := by decide +kernel
theorem dX10_unlink_72 : decode cX10_unlink 72 = .ok (.getfield 59, 3) := by decide +kernel
theorem dX10_unlink_75 : decode cX10_unlink 75 = .ok (.putfield 56, 3) := by decide +kernel
theorem dX10_unlink_78 : decode cX10_unlink 78 = .ok (.return_, 1) := by decide +kernel
theorem dX11_init_0 : decode cX11_init 0 = .ok (.aload_n 0, 1) := by decide +kernel
theorem dX11_init_1 : decode cX11_init 1 = .ok (.invokespecial 1, 3) := by decide +kernel
theorem dX11_init_4 : decode cX11_init 4 = .ok (.aload_n 0, 1) := by decide +kernel
theorem dX11_init_5 : decode cX11_init 5 = .ok (.new 7, 3) := by decide +kernel
theorem dX11_init_8 : decode cX11_init 8 = .ok (.dup, 1) := by decide +kernel
theorem dX11_init_9 : decode cX11_init 9 = .ok (.invokespecial 9, 3) := by decide +kernel
theorem dX11_init_12 : decode cX11_init 12 = .ok (.putfield 10, 3) := by decide +kernel
theorem dX11_init_15 : decode cX11_init 15 = .ok (.aload_n 0, 1) := by decide +kernel
theorem dX11_init_16 : decode cX11_init 16 = .ok (.new 16, 3) := by decide +kernel
theorem dX11_init_19 : decode cX11_init 19 = .ok (.dup, 1) := by decide +kernel
theorem dX11_init_20 : decode cX11_init 20 = .ok (.invokespecial 18, 3) := by decide +kernel
theorem dX11_init_23 : decode cX11_init 23 = .ok (.putfield 19, 3) := by decide +kernel
theorem dX11_init_26 : decode cX11_init 26 = .ok (.aload_n 0, 1) := by decide +kernel
theorem dX11_init_27 : decode cX11_init 27 = .ok (.new 23, 3) := by decide +kernel
theorem dX11_init_30 : decode cX11_init 30 = .ok (.dup, 1) := by decide +kernel
theorem dX11_init_31 : decode cX11_init 31 = .ok (.aload_n 0, 1) := by decide +kernel
theorem dX11_init_32 : decode cX11_init 32 = .ok (.getfield 19, 3) := by decide +kernel
theorem dX11_init_35 : decode cX11_init 35 = .ok (.invokespecial 25, 3) := by decide +kernel
theorem dX11_init_38 : decode cX11_init 38 = .ok (.putfield 28, 3) := by decide +kernel
theorem dX11_init_41 : decode cX11_init 41 = .ok (.aload_n 0, 1) := by decide +kernel
theorem dX11_init_42 : decode cX11_init 42 = .ok (.bipush 100, 2) := by decide +kernel
theorem dX11_init_44 : decode cX11_init 44 = .ok (.putfield 32, 3) := by decide +kernel
theorem dX11_init_47 : decode cX11_init 47 = .ok (.aload_n 0, 1) := by decide +kernel
theorem dX11_init_48 : decode cX11_init 48 = .ok (.iconst 0, 1) := by decide +kernel
theorem dX11_init_49 : decode cX11_init 49 = .ok (.invokevirtual 36, 3) := by decide +kernel
theorem dX11_init_52 : decode cX11_init 52 = .ok (.aload_n 0, 1) := by decide +kernel
theorem dX11_init_53 : decode cX11_init 53 = .ok (.iconst 0, 1) := by decide +kernel
theorem dX11_init_54 : decode cX11_init 54 = .ok (.putfield 40, 3) := by decide +kernel
theorem dX11_init_57 : decode cX11_init 57 = .ok (.return_, 1) := by decide +kernel
theorem dX11_add_0 : decode cX11_add 0 = .ok (.aload_n 0, 1) := by decide +kernel
theorem dX11_add_1 : decode cX11_add 1 = .ok (.iload_n 1, 1) := by decide +kernel
theorem dX11_add_2 : decode cX11_add 2 = .ok (.invokevirtual 43, 3) := by decide +kernel
theorem dX11_add_5 : decode cX11_add 5 = .ok (.astore 4, 2) := by decide +kernel
theorem dX11_add_7 : decode cX11_add 7 = .ok (.iload_n 2, 1) := by decide +kernel
theorem dX11_add_8 : decode cX11_add 8 = .ok (.iconst 0, 1) := by decide +kernel
theorem dX11_add_9 : decode cX11_add 9 = .ok (.iconst 5, 1) := by decide +kernel
theorem dX11_add_10 : decode cX11_add 10 = .ok (.invokestatic 47, 3) := by decide +kernel
theorem dX11_add_13 : decode cX11_add 13 = .ok (.iload_n 3, 1) := by decide +kernel
theorem dX11_add_14 : decode cX11_add 14 = .ok (.iconst 0, 1) := by decide +kernel
theorem dX11_add_15 : decode cX11_add 15 = .ok (.sipush 255, 3) := by decide +kernel
theorem dX11_add_18 : decode cX11_add 18 = .ok (.invokestatic 47, 3) := by decide +kernel
theorem dX11_add_21 : decode cX11_add 21 = .ok (.aload_n 0, 1) := by decide +kernel
theorem dX11_add_22 : decode cX11_add 22 = .ok (.getfield 10, 3) := by decide +kernel
theorem dX11_add_25 : decode cX11_add 25 = .ok (.invokevirtual 51, 3) := by decide +kernel
theorem dX11_add_28 : decode cX11_add 28 = .ok (.bipush 24, 2) := by decide +kernel
theorem dX11_add_30 : decode cX11_add 30 = .ok (.if_icmp .lt 13, 3) := by decide +kernel
theorem dX11_add_33 : decode cX11_add 33 = .ok (.new 55, 3) := by decide +kernel
theorem dX11_add_36 : decode cX11_add 36 = .ok (.dup, 1) := by decide +kernel
theorem dX11_add_37 : decode cX11_add 37 = .ok (.ldc 57, 2) := by decide +kernel
theorem dX11_add_39 : decode cX11_add 39 = .ok (.invokespecial 59, 3) := by decide +kernel
theorem dX11_add_42 : decode cX11_add 42 = .ok (.athrow, 1) := by decide +kernel
theorem dX11_add_43 : decode cX11_add 43 = .ok (.aload_n 0, 1) := by decide +kernel
theorem dX11_add_44 : decode cX11_add 44 = .ok (.getfield 10, 3) := by decide +kernel
theorem dX11_add_47 : decode cX11_add 47 = .ok (.aload 4, 2) := by decide +kernel
theorem dX11_add_49 : decode cX11_add 49 = .ok (.iload_n 2, 1) := by decide +kernel
theorem dX11_add_50 : decode cX11_add 50 = .ok (.iload_n 3, 1) := by decide +kernel
theorem dX11_add_51 : decode cX11_add 51 = .ok (.invokevirtual 62, 3) := by decide +kernel
theorem dX11_add_54 : decode cX11_add 54 = .ok (.astore 5, 2) := by decide +kernel
theorem dX11_add_56 : decode cX11_add 56 = .ok (.aload_n 0, 1) := by decide +kernel
theorem dX11_add_57 : decode cX11_add 57 = .ok (.iconst 0, 1) := by decide +kernel
theorem dX11_add_58 : decode cX11_add 58 = .ok (.invokevirtual 36, 3) := by decide +kernel
theorem dX11_add_61 : decode cX11_add 61 = .ok (.aload 5, 2) := by decide +kernel
theorem dX11_add_63 : decode cX11_add 63 = .ok (.getfield 66, 3) := by decide +kernel
theorem dX11_add_66 : decode cX11_add 66 = .ok (.ireturn, 1) := by decide +kernel
theorem dX11_remove_0 : decode cX11_remove 0 = .ok (.aload_n 0, 1) := by decide +kernel
theorem dX11_remove_1 : decode cX11_remove 1 = .ok (.iload_n 1, 1) := by decide +kernel
theorem dX11_remove_2 : decode cX11_remove 2 = .ok (.invokevirtual 43, 3) := by decide +kernel
theorem dX11_remove_5 : decode cX11_remove 5 = .ok (.astore_n 2, 1) := by decide +kernel
theorem dX11_remove_6 : decode cX11_remove 6 = .ok (.aload_n 2, 1) := by decide +kernel
theorem dX11_remove_7 : decode cX11_remove 7 = .ok (.getfield 71, 3) := by decide +kernel
theorem dX11_remove_10 : decode cX11_remove 10 = .ok (.ifnonnull 13, 3) := by decide +kernel
theorem dX11_remove_13 : decode cX11_remove 13 = .ok (.new 55, 3) := by decide +kernel
theorem dX11_remove_16 : decode cX11_remove 16 = .ok (.dup, 1) := by decide +kernel
theorem dX11_remove_17 : decode cX11_remove 17 = .ok (.ldc 75, 2) := by decide +kernel
theorem dX11_remove_19 : decode cX11_remove 19 = .ok (.invokespecial 59, 3) := by decide +kernel
theorem dX11_remove_22 : decode cX11_remove 22 = .ok (.athrow, 1) := by decide +kernel
theorem dX11_remove_23 : decode cX11_remove 23 = .ok (.aload_n 0, 1) := by decide +kernel
theorem dX11_remove_24 : decode cX11_remove 24 = .ok (.getfield 10, 3) := by decide +kernel
theorem dX11_remove_27 : decode cX11_remove 27 = .ok (.aload_n 2, 1) := by decide +kernel
theorem dX11_remove_28 : decode cX11_remove 28 = .ok (.invokevirtual 77, 3) := by decide +kernel
theorem dX11_remove_31 : decode cX11_remove 31 = .ok (.istore_n 3, 1) := by decide +kernel
theorem dX11_remove_32 : decode cX11_remove 32 = .ok (.aload_n 0, 1) := by decide +kernel
theorem dX11_remove_33 : decode cX11_remove 33 = .ok (.iload_n 3, 1) := by decide +kernel
theorem dX11_remove_34 : decode cX11_remove 34 = .ok (.invokevirtual 36, 3) := by decide +kernel
theorem dX11_remove_37 : decode cX11_remove 37 = .ok (.iload_n 3, 1) := by decide +kernel
theorem dX11_remove_38 : decode cX11_remove 38 = .ok (.ireturn, 1) := by decide +kernel
theorem dX11_dress_0 : decode cX11_dress 0 = .ok (.aload_n 0, 1) := by decide +kernel
theorem dX11_dress_1 : decode cX11_dress 1 = .ok (.iload_n 1, 1) := by decide +kernel
theorem dX11_dress_2 : decode cX11_dress 2 = .ok (.invokevirtual 43, 3) := by decide +kernel
theorem dX11_dress_5 : decode cX11_dress 5 = .ok (.astore_n 3, 1) := by decide +kernel
theorem dX11_dress_6 : decode cX11_dress 6 = .ok (.iload_n 2, 1) := by decide +kernel
theorem dX11_dress_7 : decode cX11_dress 7 = .ok (.iconst 0, 1) := by decide +kernel
theorem dX11_dress_8 : decode cX11_dress 8 = .ok (.sipush 255, 3) := by decide +kernel
theorem dX11_dress_11 : decode cX11_dress 11 = .ok (.invokestatic 47, 3) := by decide +kernel
theorem dX11_dress_14 : decode cX11_dress 14 = .ok (.aload_n 3, 1) := by decide +kernel
theorem dX11_dress_15 : decode cX11_dress 15 = .ok (.getfield 81, 3) := by decide +kernel
theorem dX11_dress_18 : decode cX11_dress 18 = .ok (.istore 4, 2) := by decide +kernel
theorem dX11_dress_20 : decode cX11_dress 20 = .ok (.aload_n 3, 1) := by decide +kernel
theorem dX11_dress_21 : decode cX11_dress 21 = .ok (.iload_n 2, 1) := by decide +kernel
theorem dX11_dress_22 : decode cX11_dress 22 = .ok (.putfield 81, 3) := by decide +kernel
theorem dX11_dress_25 : decode cX11_dress 25 = .ok (.aload_n 0, 1) := by decide +kernel
theorem dX11_dress_26 : decode cX11_dress 26 = .ok (.iconst 0, 1) := by decide +kernel
theorem dX11_dress_27 : decode cX11_dress 27 = .ok (.invokevirtual 36, 3) := by decide +kernel
theorem dX11_dress_30 : decode cX11_dress 30 = .ok (.iload 4, 2) := by decide +kernel
theorem dX11_dress_32 : decode cX11_dress 32 = .ok (.ireturn, 1) := by decide +kernel
theorem dX11_text_0 : decode cX11_text 0 = .ok (.aload_n 0, 1) := by decide +kernel
theorem dX11_text_1 : decode cX11_text 1 = .ok (.iload_n 1, 1) := by decide +kernel
theorem dX11_text_2 : decode cX11_text 2 = .ok (.invokevirtual 43, 3) := by decide +kernel
theorem dX11_text_5 : decode cX11_text 5 = .ok (.astore_n 3, 1) := by decide +kernel
theorem dX11_text_6 : decode cX11_text 6 = .ok (.iload_n 2, 1) := by decide +kernel
theorem dX11_text_7 : decode cX11_text 7 = .ok (.iconst 0, 1) := by decide +kernel
theorem dX11_text_8 : decode cX11_text 8 = .ok (.ldc 84, 2) := by decide +kernel
theorem dX11_text_10 : decode cX11_text 10 = .ok (.invokestatic 47, 3) := by decide +kernel
theorem dX11_text_13 : decode cX11_text 13 = .ok (.iload_n 2, 1) := by decide +kernel
theorem dX11_text_14 : decode cX11_text 14 = .ok (.invokestatic 85, 3) := by decide +kernel
theorem dX11_text_17 : decode cX11_text 17 = .ok (.istore 4, 2) := by decide +kernel
theorem dX11_text_19 : decode cX11_text 19 = .ok (.iload 4, 2) := by decide +kernel
theorem dX11_text_21 : decode cX11_text 21 = .ok (.iconst (-1), 1) := by decide +kernel
theorem dX11_text_22 : decode cX11_text 22 = .ok (.if_icmp .ne 13, 3) := by decide +kernel
theorem dX11_text_25 : decode cX11_text 25 = .ok (.new 91, 3) := by decide +kernel
theorem dX11_text_28 : decode cX11_text 28 = .ok (.dup, 1) := by decide +kernel
theorem dX11_text_29 : decode cX11_text 29 = .ok (.ldc 93, 2) := by decide +kernel
theorem dX11_text_31 : decode cX11_text 31 = .ok (.invokespecial 95, 3) := by decide +kernel
theorem dX11_text_34 : decode cX11_text 34 = .ok (.athrow, 1) := by decide +kernel
theorem dX11_text_35 : decode cX11_text 35 = .ok (.aload_n 3, 1) := by decide +kernel
theorem dX11_text_36 : decode cX11_text 36 = .ok (.iload_n 2, 1) := by decide +kernel
theorem dX11_text_37 : decode cX11_text 37 = .ok (.putfield 96, 3) := by decide +kernel
theorem dX11_text_40 : decode cX11_text 40 = .ok (.aload_n 0, 1) := by decide +kernel
theorem dX11_text_41 : decode cX11_text 41 = .ok (.iconst 0, 1) := by decide +kernel
theorem dX11_text_42 : decode cX11_text 42 = .ok (.invokevirtual 36, 3) := by decide +kernel
theorem dX11_text_45 : decode cX11_text 45 = .ok (.iload 4, 2) := by decide +kernel
theorem dX11_text_47 : decode cX11_text 47 = .ok (.ireturn, 1) := by decide +kernel
theorem dX11_contain_0 : decode cX11_contain 0 = .ok (.aload_n 0, 1) := by decide +kernel
theorem dX11_contain_1 : decode cX11_contain 1 = .ok (.iload_n 1, 1) := by decide +kernel
theorem dX11_contain_2 : decode cX11_contain 2 = .ok (.invokevirtual 43, 3) := by decide +kernel
theorem dX11_contain_5 : decode cX11_contain 5 = .ok (.astore_n 3, 1) := by decide +kernel
theorem dX11_contain_6 : decode cX11_contain 6 = .ok (.aload_n 3, 1) := by decide +kernel
theorem dX11_contain_7 : decode cX11_contain 7 = .ok (.getfield 99, 3) := by decide +kernel
theorem dX11_contain_10 : decode cX11_contain 10 = .ok (.istore 4, 2) := by decide +kernel
theorem dX11_contain_12 : decode cX11_contain 12 = .ok (.aload_n 3, 1) := by decide +kernel
theorem dX11_contain_13 : decode cX11_contain 13 = .ok (.iload_n 2, 1) := by decide +kernel
theorem dX11_contain_14 : decode cX11_contain 14 = .ok (.putfield 99, 3) := by decide +kernel
theorem dX11_contain_17 : decode cX11_contain 17 = .ok (.aload_n 0, 1) := by decide +kernel
theorem dX11_contain_18 : decode cX11_contain 18 = .ok (.iconst 0, 1) := by decide +kernel
theorem dX11_contain_19 : decode cX11_contain 19 = .ok (.invokevirtual 36, 3) := by decide +kernel
theorem dX11_contain_22 : decode cX11_contain 22 = .ok (.iload 4, 2) := by decide +kernel
theorem dX11_contain_24 : decode cX11_contain 24 = .ok (.ireturn, 1) := by decide +kernel
theorem dX11_window_0 : decode cX11_window 0 = .ok (.iload_n 1, 1) := by decide +kernel
theorem dX11_window_1 : decode cX11_window 1 = .ok (.iconst 0, 1) := by decide +kernel
theorem dX11_window_2 : decode cX11_window 2 = .ok (.sipush 2000, 3) := by decide +kernel
theorem dX11_window_5 : decode cX11_window 5 = .ok (.invokestatic 47, 3) := by decide +kernel
theorem dX11_window_8 : decode cX11_window 8 = .ok (.aload_n 0, 1) := by decide +kernel
theorem dX11_window_9 : decode cX11_window 9 = .ok (.getfield 32, 3) := by decide +kernel
theorem dX11_window_12 : decode cX11_window 12 = .ok (.istore_n 2, 1) := by decide +kernel
theorem dX11_window_13 : decode cX11_window 13 = .ok (.aload_n 0, 1) := by decide +kernel
theorem dX11_window_14 : decode cX11_window 14 = .ok (.iload_n 1, 1) := by decide +kernel
theorem dX11_window_15 : decode cX11_window 15 = .ok (.putfield 32, 3) := by decide +kernel
theorem dX11_window_18 : decode cX11_window 18 = .ok (.aload_n 0, 1) := by decide +kernel
theorem dX11_window_19 : decode cX11_window 19 = .ok (.iconst 0, 1) := by decide +kernel
theorem dX11_window_20 : decode cX11_window 20 = .ok (.invokevirtual 36, 3) := by decide +kernel
theorem dX11_window_23 : decode cX11_window 23 = .ok (.iload_n 2, 1) := by decide +kernel
theorem dX11_window_24 : decode cX11_window 24 = .ok (.ireturn, 1) := by decide +kernel
theorem dX11_rule_0 : decode cX11_rule 0 = .ok (.iload_n 1, 1) := by decide +kernel
theorem dX11_rule_1 : decode cX11_rule 1 = .ok (.iload_n 2, 1) := by decide +kernel
theorem dX11_rule_2 : decode cX11_rule 2 = .ok (.iload_n 3, 1) := by decide +kernel
theorem dX11_rule_3 : decode cX11_rule 3 = .ok (.invokestatic 103, 3) := by decide +kernel
theorem dX11_rule_6 : decode cX11_rule 6 = .ok (.iload 4, 2) := by decide +kernel
theorem dX11_rule_8 : decode cX11_rule 8 = .ok (.iconst 0, 1) := by decide +kernel
theorem dX11_rule_9 : decode cX11_rule 9 = .ok (.iconst 1, 1) := by decide +kernel
theorem dX11_rule_10 : decode cX11_rule 10 = .ok (.invokestatic 47, 3) := by decide +kernel
theorem dX11_rule_13 : decode cX11_rule 13 = .ok (.iload 5, 2) := by decide +kernel
theorem dX11_rule_15 : decode cX11_rule 15 = .ok (.iconst 0, 1) := by decide +kernel
theorem dX11_rule_16 : decode cX11_rule 16 = .ok (.iconst 2, 1) := by decide +kernel
theorem dX11_rule_17 : decode cX11_rule 17 = .ok (.invokestatic 47, 3) := by decide +kernel
theorem dX11_rule_20 : decode cX11_rule 20 = .ok (.aload_n 0, 1) := by decide +kernel
theorem dX11_rule_21 : decode cX11_rule 21 = .ok (.getfield 19, 3) := by decide +kernel
theorem dX11_rule_24 : decode cX11_rule 24 = .ok (.invokevirtual 106, 3) := by decide +kernel
theorem dX11_rule_27 : decode cX11_rule 27 = .ok (.bipush 16, 2) := by decide +kernel
theorem dX11_rule_29 : decode cX11_rule 29 = .ok (.if_icmp .lt 13, 3) := by decide +kernel
theorem dX11_rule_32 : decode cX11_rule 32 = .ok (.new 55, 3) := by decide +kernel
theorem dX11_rule_35 : decode cX11_rule 35 = .ok (.dup, 1) := by decide +kernel
theorem dX11_rule_36 : decode cX11_rule 36 = .ok (.ldc 107, 2) := by decide +kernel
theorem dX11_rule_38 : decode cX11_rule 38 = .ok (.invokespecial 59, 3) := by decide +kernel
theorem dX11_rule_41 : decode cX11_rule 41 = .ok (.athrow, 1) := by decide +kernel
theorem dX11_rule_42 : decode cX11_rule 42 = .ok (.new 109, 3) := by decide +kernel
theorem dX11_rule_45 : decode cX11_rule 45 = .ok (.dup, 1) := by decide +kernel
theorem dX11_rule_46 : decode cX11_rule 46 = .ok (.aload_n 0, 1) := by decide +kernel
theorem dX11_rule_47 : decode cX11_rule 47 = .ok (.getfield 19, 3) := by decide +kernel
theorem dX11_rule_50 : decode cX11_rule 50 = .ok (.invokevirtual 106, 3) := by decide +kernel
theorem dX11_rule_53 : decode cX11_rule 53 = .ok (.iload 4, 2) := by decide +kernel
theorem dX11_rule_55 : decode cX11_rule 55 = .ok (.iload 5, 2) := by decide +kernel
theorem dX11_rule_57 : decode cX11_rule 57 = .ok (.iload 6, 2) := by decide +kernel
theorem dX11_rule_59 : decode cX11_rule 59 = .ok (.invokespecial 111, 3) := by decide +kernel
theorem dX11_rule_62 : decode cX11_rule 62 = .ok (.astore 7, 2) := by decide +kernel
theorem dX11_rule_64 : decode cX11_rule 64 = .ok (.aload 7, 2) := by decide +kernel
theorem dX11_rule_66 : decode cX11_rule 66 = .ok (.new 114, 3) := by decide +kernel
theorem dX11_rule_69 : decode cX11_rule 69 = .ok (.dup, 1) := by decide +kernel
theorem dX11_rule_70 : decode cX11_rule 70 = .ok (.iconst 0, 1) := by decide +kernel
theorem dX11_rule_71 : decode cX11_rule 71 = .ok (.iload_n 1, 1) := by decide +kernel
theorem dX11_rule_72 : decode cX11_rule 72 = .ok (.iload_n 2, 1) := by decide +kernel
theorem dX11_rule_73 : decode cX11_rule 73 = .ok (.iload_n 3, 1) := by decide +kernel
theorem dX11_rule_74 : decode cX11_rule 74 = .ok (.invokespecial 116, 3) := by decide +kernel
theorem dX11_rule_77 : decode cX11_rule 77 = .ok (.invokevirtual 119, 3) := by decide +kernel
theorem dX11_rule_80 : decode cX11_rule 80 = .ok (.aload_n 0, 1) := by decide +kernel
theorem dX11_rule_81 : decode cX11_rule 81 = .ok (.getfield 19, 3) := by decide +kernel
theorem dX11_rule_84 : decode cX11_rule 84 = .ok (.aload 7, 2) := by decide +kernel
theorem dX11_rule_86 : decode cX11_rule 86 = .ok (.invokevirtual 122, 3) := by decide +kernel
theorem dX11_rule_89 : decode cX11_rule 89 = .ok (.aload_n 0, 1) := by decide +kernel
theorem dX11_rule_90 : decode cX11_rule 90 = .ok (.iconst 0, 1) := by decide +kernel
theorem dX11_rule_91 : decode cX11_rule 91 = .ok (.invokevirtual 36, 3) := by decide +kernel
theorem dX11_rule_94 : decode cX11_rule 94 = .ok (.aload 7, 2) := by decide +kernel
theorem dX11_rule_96 : decode cX11_rule 96 = .ok (.getfield 125, 3) := by decide +kernel
theorem dX11_rule_99 : decode cX11_rule 99 = .ok (.ireturn, 1) := by decide +kernel
theorem dX11_part_0 : decode cX11_part 0 = .ok (.aload_n 0, 1) := by decide +kernel
theorem dX11_part_1 : decode cX11_part 1 = .ok (.iload_n 1, 1) := by decide +kernel
theorem dX11_part_2 : decode cX11_part 2 = .ok (.invokevirtual 126, 3) := by decide +kernel
theorem dX11_part_5 : decode cX11_part 5 = .ok (.astore 6, 2) := by decide +kernel
theorem dX11_part_7 : decode cX11_part 7 = .ok (.iload_n 2, 1) := by decide +kernel
theorem dX11_part_8 : decode cX11_part 8 = .ok (.iconst 0, 1) := by decide +kernel
theorem dX11_part_9 : decode cX11_part 9 = .ok (.iconst 2, 1) := by decide +kernel
theorem dX11_part_10 : decode cX11_part 10 = .ok (.invokestatic 47, 3) := by decide +kernel
theorem dX11_part_13 : decode cX11_part 13 = .ok (.iload_n 3, 1) := by decide +kernel
theorem dX11_part_14 : decode cX11_part 14 = .ok (.iload 4, 2) := by decide +kernel
theorem dX11_part_16 : decode cX11_part 16 = .ok (.iload 5, 2) := by decide +kernel
theorem dX11_part_18 : decode cX11_part 18 = .ok (.invokestatic 103, 3) := by decide +kernel
theorem dX11_part_21 : decode cX11_part 21 = .ok (.aload 6, 2) := by decide +kernel
theorem dX11_part_23 : decode cX11_part 23 = .ok (.invokevirtual 130, 3) := by decide +kernel
theorem dX11_part_26 : decode cX11_part 26 = .ok (.iconst 3, 1) := by decide +kernel
theorem dX11_part_27 : decode cX11_part 27 = .ok (.if_icmp .lt 13, 3) := by decide +kernel
theorem dX11_part_30 : decode cX11_part 30 = .ok (.new 55, 3) := by decide +kernel
theorem dX11_part_33 : decode cX11_part 33 = .ok (.dup, 1) := by decide +kernel
theorem dX11_part_34 : decode cX11_part 34 = .ok (.ldc 133, 2) := by decide +kernel
theorem dX11_part_36 : decode cX11_part 36 = .ok (.invokespecial 59, 3) := by decide +kernel
theorem dX11_part_39 : decode cX11_part 39 = .ok (.athrow, 1) := by decide +kernel
theorem dX11_part_40 : decode cX11_part 40 = .ok (.aload 6, 2) := by decide +kernel
theorem dX11_part_42 : decode cX11_part 42 = .ok (.new 114, 3) := by decide +kernel
theorem dX11_part_45 : decode cX11_part 45 = .ok (.dup, 1) := by decide +kernel
theorem dX11_part_46 : decode cX11_part 46 = .ok (.iload_n 2, 1) := by decide +kernel
theorem dX11_part_47 : decode cX11_part 47 = .ok (.iload_n 3, 1) := by decide +kernel
theorem dX11_part_48 : decode cX11_part 48 = .ok (.iload 4, 2) := by decide +kernel
theorem dX11_part_50 : decode cX11_part 50 = .ok (.iload 5, 2) := by decide +kernel
theorem dX11_part_52 : decode cX11_part 52 = .ok (.invokespecial 116, 3) := by decide +kernel
theorem dX11_part_55 : decode cX11_part 55 = .ok (.invokevirtual 119, 3) := by decide +kernel
theorem dX11_part_58 : decode cX11_part 58 = .ok (.aload_n 0, 1) := by decide +kernel
theorem dX11_part_59 : decode cX11_part 59 = .ok (.getfield 19, 3) := by decide +kernel
theorem dX11_part_62 : decode cX11_part 62 = .ok (.aload 6, 2) := by decide +kernel
theorem dX11_part_64 : decode cX11_part 64 = .ok (.invokevirtual 135, 3) := by decide +kernel
theorem dX11_part_67 : decode cX11_part 67 = .ok (.aload_n 0, 1) := by decide +kernel
theorem dX11_part_68 : decode cX11_part 68 = .ok (.iconst 0, 1) := by decide +kernel
theorem dX11_part_69 : decode cX11_part 69 = .ok (.invokevirtual 36, 3) := by decide +kernel
theorem dX11_part_72 : decode cX11_part 72 = .ok (.aload 6, 2) := by decide +kernel
theorem dX11_part_74 : decode cX11_part 74 = .ok (.getfield 138, 3) := by decide +kernel
theorem dX11_part_77 : decode cX11_part 77 = .ok (.ireturn, 1) := by decide +kernel
theorem dX11_ask_0 : decode cX11_ask 0 = .ok (.aload_n 0, 1) := by decide +kernel
theorem dX11_ask_1 : decode cX11_ask 1 = .ok (.iload_n 1, 1) := by decide +kernel
theorem dX11_ask_2 : decode cX11_ask 2 = .ok (.invokevirtual 126, 3) := by decide +kernel
theorem dX11_ask_5 : decode cX11_ask 5 = .ok (.astore_n 3, 1) := by decide +kernel
theorem dX11_ask_6 : decode cX11_ask 6 = .ok (.iload_n 2, 1) := by decide +kernel
theorem dX11_ask_7 : decode cX11_ask 7 = .ok (.iconst (-1), 1) := by decide +kernel
theorem dX11_ask_8 : decode cX11_ask 8 = .ok (.sipush 2000, 3) := by decide +kernel
theorem dX11_ask_11 : decode cX11_ask 11 = .ok (.invokestatic 47, 3) := by decide +kernel
theorem dX11_ask_14 : decode cX11_ask 14 = .ok (.aload_n 3, 1) := by decide +kernel
theorem dX11_ask_15 : decode cX11_ask 15 = .ok (.getfield 141, 3) := by decide +kernel
theorem dX11_ask_18 : decode cX11_ask 18 = .ok (.istore 4, 2) := by decide +kernel
theorem dX11_ask_20 : decode cX11_ask 20 = .ok (.aload_n 3, 1) := by decide +kernel
theorem dX11_ask_21 : decode cX11_ask 21 = .ok (.iload_n 2, 1) := by decide +kernel
theorem dX11_ask_22 : decode cX11_ask 22 = .ok (.putfield 141, 3) := by decide +kernel
theorem dX11_ask_25 : decode cX11_ask 25 = .ok (.aload_n 0, 1) := by decide +kernel
theorem dX11_ask_26 : decode cX11_ask 26 = .ok (.iconst 0, 1) := by decide +kernel
theorem dX11_ask_27 : decode cX11_ask 27 = .ok (.invokevirtual 36, 3) := by decide +kernel
theorem dX11_ask_30 : decode cX11_ask 30 = .ok (.iload 4, 2) := by decide +kernel
theorem dX11_ask_32 : decode cX11_ask 32 = .ok (.ireturn, 1) := by decide +kernel
theorem dX11_declare_0 : decode cX11_declare 0 = .ok (.aload_n 0, 1) := by decide +kernel
theorem dX11_declare_1 : decode cX11_declare 1 = .ok (.iload_n 1, 1) := by decide +kernel
theorem dX11_declare_2 : decode cX11_declare 2 = .ok (.invokevirtual 126, 3) := by decide +kernel
theorem dX11_declare_5 : decode cX11_declare 5 = .ok (.astore 4, 2) := by decide +kernel
theorem dX11_declare_7 : decode cX11_declare 7 = .ok (.iload_n 2, 1) := by decide +kernel
theorem dX11_declare_8 : decode cX11_declare 8 = .ok (.bipush 14, 2) := by decide +kernel
theorem dX11_declare_10 : decode cX11_declare 10 = .ok (.invokestatic 144, 3) := by decide +kernel
theorem dX11_declare_13 : decode cX11_declare 13 = .ok (.iload_n 2, 1) := by decide +kernel
theorem dX11_declare_14 : decode cX11_declare 14 = .ok (.iload_n 3, 1) := by decide +kernel
theorem dX11_declare_15 : decode cX11_declare 15 = .ok (.invokestatic 148, 3) := by decide +kernel
theorem dX11_declare_18 : decode cX11_declare 18 = .ok (.ifCond .ne 26, 3) := by decide +kernel
theorem dX11_declare_21 : decode cX11_declare 21 = .ok (.iload_n 3, 1) := by decide +kernel
theorem dX11_declare_22 : decode cX11_declare 22 = .ok (.bipush (-2), 2) := by decide +kernel
theorem dX11_declare_24 : decode cX11_declare 24 = .ok (.if_icmp .ne 10, 3) := by decide +kernel
theorem dX11_declare_27 : decode cX11_declare 27 = .ok (.iload_n 2, 1) := by decide +kernel
theorem dX11_declare_28 : decode cX11_declare 28 = .ok (.invokestatic 154, 3) := by decide +kernel
theorem dX11_declare_31 : decode cX11_declare 31 = .ok (.ifCond .ne 13, 3) := by decide +kernel
theorem dX11_declare_34 : decode cX11_declare 34 = .ok (.new 91, 3) := by decide +kernel
theorem dX11_declare_37 : decode cX11_declare 37 = .ok (.dup, 1) := by decide +kernel
theorem dX11_declare_38 : decode cX11_declare 38 = .ok (.ldc 158, 2) := by decide +kernel
theorem dX11_declare_40 : decode cX11_declare 40 = .ok (.invokespecial 95, 3) := by decide +kernel
theorem dX11_declare_43 : decode cX11_declare 43 = .ok (.athrow, 1) := by decide +kernel
theorem dX11_declare_44 : decode cX11_declare 44 = .ok (.aload 4, 2) := by decide +kernel
theorem dX11_declare_46 : decode cX11_declare 46 = .ok (.iload_n 2, 1) := by decide +kernel
theorem dX11_declare_47 : decode cX11_declare 47 = .ok (.new 160, 3) := by decide +kernel
theorem dX11_declare_50 : decode cX11_declare 50 = .ok (.dup, 1) := by decide +kernel
theorem dX11_declare_51 : decode cX11_declare 51 = .ok (.iconst 4, 1) := by decide +kernel
theorem dX11_declare_52 : decode cX11_declare 52 = .ok (.iload_n 3, 1) := by decide +kernel
theorem dX11_declare_53 : decode cX11_declare 53 = .ok (.iconst (-1), 1) := by decide +kernel
theorem dX11_declare_54 : decode cX11_declare 54 = .ok (.invokespecial 162, 3) := by decide +kernel
theorem dX11_declare_57 : decode cX11_declare 57 = .ok (.invokestatic 164, 3) := by decide +kernel
theorem dX11_declare_60 : decode cX11_declare 60 = .ok (.aload_n 0, 1) := by decide +kernel
theorem dX11_declare_61 : decode cX11_declare 61 = .ok (.iconst 0, 1) := by decide +kernel
theorem dX11_declare_62 : decode cX11_declare 62 = .ok (.invokevirtual 36, 3) := by decide +kernel
theorem dX11_declare_65 : decode cX11_declare 65 = .ok (.aload 4, 2) := by decide +kernel
theorem dX11_declare_67 : decode cX11_declare 67 = .ok (.getfield 168, 3) := by decide +kernel
theorem dX11_declare_70 : decode cX11_declare 70 = .ok (.ireturn, 1) := by decide +kernel
theorem dX11_say_0 : decode cX11_say 0 = .ok (.aload_n 0, 1) := by decide +kernel
theorem dX11_say_1 : decode cX11_say 1 = .ok (.iload_n 1, 1) := by decide +kernel
theorem dX11_say_2 : decode cX11_say 2 = .ok (.invokevirtual 126, 3) := by decide +kernel
theorem dX11_say_5 : decode cX11_say 5 = .ok (.astore 4, 2) := by decide +kernel
theorem dX11_say_7 : decode cX11_say 7 = .ok (.iload_n 2, 1) := by decide +kernel
theorem dX11_say_8 : decode cX11_say 8 = .ok (.bipush 14, 2) := by decide +kernel
theorem dX11_say_10 : decode cX11_say 10 = .ok (.invokestatic 144, 3) := by decide +kernel
theorem dX11_say_13 : decode cX11_say 13 = .ok (.iload_n 3, 1) := by decide +kernel
theorem dX11_say_14 : decode cX11_say 14 = .ok (.iconst 0, 1) := by decide +kernel
theorem dX11_say_15 : decode cX11_say 15 = .ok (.iconst 3, 1) := by decide +kernel
theorem dX11_say_16 : decode cX11_say 16 = .ok (.invokestatic 47, 3) := by decide +kernel
theorem dX11_say_19 : decode cX11_say 19 = .ok (.aload 4, 2) := by decide +kernel
theorem dX11_say_21 : decode cX11_say 21 = .ok (.iload_n 2, 1) := by decide +kernel
theorem dX11_say_22 : decode cX11_say 22 = .ok (.new 160, 3) := by decide +kernel
theorem dX11_say_25 : decode cX11_say 25 = .ok (.dup, 1) := by decide +kernel
theorem dX11_say_26 : decode cX11_say 26 = .ok (.iload_n 3, 1) := by decide +kernel
theorem dX11_say_27 : decode cX11_say 27 = .ok (.iconst (-1), 1) := by decide +kernel
theorem dX11_say_28 : decode cX11_say 28 = .ok (.iconst (-1), 1) := by decide +kernel
theorem dX11_say_29 : decode cX11_say 29 = .ok (.invokespecial 162, 3) := by decide +kernel
theorem dX11_say_32 : decode cX11_say 32 = .ok (.invokestatic 164, 3) := by decide +kernel
theorem dX11_say_35 : decode cX11_say 35 = .ok (.aload_n 0, 1) := by decide +kernel
theorem dX11_say_36 : decode cX11_say 36 = .ok (.iconst 0, 1) := by decide +kernel
theorem dX11_say_37 : decode cX11_say 37 = .ok (.invokevirtual 36, 3) := by decide +kernel
theorem dX11_say_40 : decode cX11_say 40 = .ok (.aload 4, 2) := by decide +kernel
theorem dX11_say_42 : decode cX11_say 42 = .ok (.getfield 168, 3) := by decide +kernel
theorem dX11_say_45 : decode cX11_say 45 = .ok (.ireturn, 1) := by decide +kernel
theorem dX11_refer_0 : decode cX11_refer 0 = .ok (.aload_n 0, 1) := by decide +kernel
theorem dX11_refer_1 : decode cX11_refer 1 = .ok (.iload_n 1, 1) := by decide +kernel
theorem dX11_refer_2 : decode cX11_refer 2 = .ok (.invokevirtual 126, 3) := by decide +kernel
theorem dX11_refer_5 : decode cX11_refer 5 = .ok (.astore 5, 2) := by decide +kernel
theorem dX11_refer_7 : decode cX11_refer 7 = .ok (.iload_n 2, 1) := by decide +kernel
theorem dX11_refer_8 : decode cX11_refer 8 = .ok (.bipush 14, 2) := by decide +kernel
theorem dX11_refer_10 : decode cX11_refer 10 = .ok (.invokestatic 144, 3) := by decide +kernel
theorem dX11_refer_13 : decode cX11_refer 13 = .ok (.iload_n 3, 1) := by decide +kernel
theorem dX11_refer_14 : decode cX11_refer 14 = .ok (.iconst 0, 1) := by decide +kernel
theorem dX11_refer_15 : decode cX11_refer 15 = .ok (.iconst 3, 1) := by decide +kernel
theorem dX11_refer_16 : decode cX11_refer 16 = .ok (.invokestatic 47, 3) := by decide +kernel
theorem dX11_refer_19 : decode cX11_refer 19 = .ok (.iload 4, 2) := by decide +kernel
theorem dX11_refer_21 : decode cX11_refer 21 = .ok (.iconst (-1), 1) := by decide +kernel
theorem dX11_refer_22 : decode cX11_refer 22 = .ok (.if_icmp .eq 22, 3) := by decide +kernel
theorem dX11_refer_25 : decode cX11_refer 25 = .ok (.iload_n 2, 1) := by decide +kernel
theorem dX11_refer_26 : decode cX11_refer 26 = .ok (.iload 4, 2) := by decide +kernel
theorem dX11_refer_28 : decode cX11_refer 28 = .ok (.invokestatic 148, 3) := by decide +kernel
theorem dX11_refer_31 : decode cX11_refer 31 = .ok (.ifCond .ne 13, 3) := by decide +kernel
theorem dX11_refer_34 : decode cX11_refer 34 = .ok (.new 91, 3) := by decide +kernel
theorem dX11_refer_37 : decode cX11_refer 37 = .ok (.dup, 1) := by decide +kernel
theorem dX11_refer_38 : decode cX11_refer 38 = .ok (.ldc 171, 2) := by decide +kernel
theorem dX11_refer_40 : decode cX11_refer 40 = .ok (.invokespecial 95, 3) := by decide +kernel
theorem dX11_refer_43 : decode cX11_refer 43 = .ok (.athrow, 1) := by decide +kernel
theorem dX11_refer_44 : decode cX11_refer 44 = .ok (.aload 5, 2) := by decide +kernel
theorem dX11_refer_46 : decode cX11_refer 46 = .ok (.iload_n 2, 1) := by decide +kernel
theorem dX11_refer_47 : decode cX11_refer 47 = .ok (.new 160, 3) := by decide +kernel
theorem dX11_refer_50 : decode cX11_refer 50 = .ok (.dup, 1) := by decide +kernel
theorem dX11_refer_51 : decode cX11_refer 51 = .ok (.iconst 5, 1) := by decide +kernel
theorem dX11_refer_52 : decode cX11_refer 52 = .ok (.iload 4, 2) := by decide +kernel
theorem dX11_refer_54 : decode cX11_refer 54 = .ok (.iload_n 3, 1) := by decide +kernel
theorem dX11_refer_55 : decode cX11_refer 55 = .ok (.invokespecial 162, 3) := by decide +kernel
theorem dX11_refer_58 : decode cX11_refer 58 = .ok (.invokestatic 164, 3) := by decide +kernel
theorem dX11_refer_61 : decode cX11_refer 61 = .ok (.aload_n 0, 1) := by decide +kernel
theorem dX11_refer_62 : decode cX11_refer 62 = .ok (.iconst 0, 1) := by decide +kernel
theorem dX11_refer_63 : decode cX11_refer 63 = .ok (.invokevirtual 36, 3) := by decide +kernel
theorem dX11_refer_66 : decode cX11_refer 66 = .ok (.aload 5, 2) := by decide +kernel
theorem dX11_refer_68 : decode cX11_refer 68 = .ok (.getfield 168, 3) := by decide +kernel
theorem dX11_refer_71 : decode cX11_refer 71 = .ok (.ireturn, 1) := by decide +kernel
theorem dX11_empty_0 : decode cX11_empty 0 = .ok (.aload_n 0, 1) := by decide +kernel
theorem dX11_empty_1 : decode cX11_empty 1 = .ok (.iload_n 1, 1) := by decide +kernel
theorem dX11_empty_2 : decode cX11_empty 2 = .ok (.invokevirtual 126, 3) := by decide +kernel
theorem dX11_empty_5 : decode cX11_empty 5 = .ok (.astore_n 2, 1) := by decide +kernel
theorem dX11_empty_6 : decode cX11_empty 6 = .ok (.aload_n 2, 1) := by decide +kernel
theorem dX11_empty_7 : decode cX11_empty 7 = .ok (.getfield 168, 3) := by decide +kernel
theorem dX11_empty_10 : decode cX11_empty 10 = .ok (.istore_n 3, 1) := by decide +kernel
theorem dX11_empty_11 : decode cX11_empty 11 = .ok (.aload_n 2, 1) := by decide +kernel
theorem dX11_empty_12 : decode cX11_empty 12 = .ok (.invokevirtual 173, 3) := by decide +kernel
theorem dX11_empty_15 : decode cX11_empty 15 = .ok (.aload_n 0, 1) := by decide +kernel
theorem dX11_empty_16 : decode cX11_empty 16 = .ok (.iconst 0, 1) := by decide +kernel
theorem dX11_empty_17 : decode cX11_empty 17 = .ok (.invokevirtual 36, 3) := by decide +kernel
theorem dX11_empty_20 : decode cX11_empty 20 = .ok (.iload_n 3, 1) := by decide +kernel
theorem dX11_empty_21 : decode cX11_empty 21 = .ok (.ireturn, 1) := by decide +kernel
theorem dX11_fits_0 : decode cX11_fits 0 = .ok (.aload_n 0, 1) := by decide +kernel
theorem dX11_fits_1 : decode cX11_fits 1 = .ok (.iload_n 1, 1) := by decide +kernel
theorem dX11_fits_2 : decode cX11_fits 2 = .ok (.invokevirtual 126, 3) := by decide +kernel
theorem dX11_fits_5 : decode cX11_fits 5 = .ok (.astore_n 3, 1) := by decide +kernel
theorem dX11_fits_6 : decode cX11_fits 6 = .ok (.aload_n 3, 1) := by decide +kernel
theorem dX11_fits_7 : decode cX11_fits 7 = .ok (.aload_n 0, 1) := by decide +kernel
theorem dX11_fits_8 : decode cX11_fits 8 = .ok (.iload_n 2, 1) := by decide +kernel
theorem dX11_fits_9 : decode cX11_fits 9 = .ok (.invokevirtual 43, 3) := by decide +kernel
theorem dX11_fits_12 : decode cX11_fits 12 = .ok (.invokevirtual 176, 3) := by decide +kernel
theorem dX11_fits_15 : decode cX11_fits 15 = .ok (.ireturn, 1) := by decide +kernel
theorem dX11_weight_0 : decode cX11_weight 0 = .ok (.aload_n 0, 1) := by decide +kernel
theorem dX11_weight_1 : decode cX11_weight 1 = .ok (.iload_n 1, 1) := by decide +kernel
theorem dX11_weight_2 : decode cX11_weight 2 = .ok (.invokevirtual 126, 3) := by decide +kernel
theorem dX11_weight_5 : decode cX11_weight 5 = .ok (.getfield 138, 3) := by decide +kernel
theorem dX11_weight_8 : decode cX11_weight 8 = .ok (.ireturn, 1) := by decide +kernel
theorem dX11_value_0 : decode cX11_value 0 = .ok (.aload_n 0, 1) := by decide +kernel
theorem dX11_value_1 : decode cX11_value 1 = .ok (.iload_n 1, 1) := by decide +kernel
theorem dX11_value_2 : decode cX11_value 2 = .ok (.invokevirtual 43, 3) := by decide +kernel
theorem dX11_value_5 : decode cX11_value 5 = .ok (.astore_n 3, 1) := by decide +kernel
theorem dX11_value_6 : decode cX11_value 6 = .ok (.iload_n 2, 1) := by decide +kernel
theorem dX11_value_7 : decode cX11_value 7 = .ok (.bipush 13, 2) := by decide +kernel
theorem dX11_value_9 : decode cX11_value 9 = .ok (.invokestatic 144, 3) := by decide +kernel
theorem dX11_value_12 : decode cX11_value 12 = .ok (.aload_n 3, 1) := by decide +kernel
theorem dX11_value_13 : decode cX11_value 13 = .ok (.getfield 180, 3) := by decide +kernel
theorem dX11_value_16 : decode cX11_value 16 = .ok (.iload_n 2, 1) := by decide +kernel
theorem dX11_value_17 : decode cX11_value 17 = .ok (.invokevirtual 184, 3) := by decide +kernel
theorem dX11_value_20 : decode cX11_value 20 = .ok (.ireturn, 1) := by decide +kernel
theorem dX11_valueAnew_0 : decode cX11_valueAnew 0 = .ok (.aload_n 0, 1) := by decide +kernel
theorem dX11_valueAnew_1 : decode cX11_valueAnew 1 = .ok (.iload_n 1, 1) := by decide +kernel
theorem dX11_valueAnew_2 : decode cX11_valueAnew 2 = .ok (.invokevirtual 43, 3) := by decide +kernel
theorem dX11_valueAnew_5 : decode cX11_valueAnew 5 = .ok (.astore_n 3, 1) := by decide +kernel
theorem dX11_valueAnew_6 : decode cX11_valueAnew 6 = .ok (.iload_n 2, 1) := by decide +kernel
theorem dX11_valueAnew_7 : decode cX11_valueAnew 7 = .ok (.bipush 13, 2) := by decide +kernel
theorem dX11_valueAnew_9 : decode cX11_valueAnew 9 = .ok (.invokestatic 144, 3) := by decide +kernel
theorem dX11_valueAnew_12 : decode cX11_valueAnew 12 = .ok (.aload_n 0, 1) := by decide +kernel
theorem dX11_valueAnew_13 : decode cX11_valueAnew 13 = .ok (.invokevirtual 189, 3) := by decide +kernel
theorem dX11_valueAnew_16 : decode cX11_valueAnew 16 = .ok (.aload_n 3, 1) := by decide +kernel
theorem dX11_valueAnew_17 : decode cX11_valueAnew 17 = .ok (.getfield 192, 3) := by decide +kernel
theorem dX11_valueAnew_20 : decode cX11_valueAnew 20 = .ok (.iload_n 2, 1) := by decide +kernel
theorem dX11_valueAnew_21 : decode cX11_valueAnew 21 = .ok (.invokevirtual 184, 3) := by decide +kernel
theorem dX11_valueAnew_24 : decode cX11_valueAnew 24 = .ok (.ireturn, 1) := by decide +kernel
theorem dX11_from_0 : decode cX11_from 0 = .ok (.aload_n 0, 1) := by decide +kernel
theorem dX11_from_1 : decode cX11_from 1 = .ok (.iload_n 1, 1) := by decide +kernel
theorem dX11_from_2 : decode cX11_from 2 = .ok (.invokevirtual 43, 3) := by decide +kernel
theorem dX11_from_5 : decode cX11_from 5 = .ok (.astore_n 3, 1) := by decide +kernel
theorem dX11_from_6 : decode cX11_from 6 = .ok (.iload_n 2, 1) := by decide +kernel
theorem dX11_from_7 : decode cX11_from 7 = .ok (.bipush 13, 2) := by decide +kernel
theorem dX11_from_9 : decode cX11_from 9 = .ok (.invokestatic 144, 3) := by decide +kernel
theorem dX11_from_12 : decode cX11_from 12 = .ok (.aload_n 3, 1) := by decide +kernel
theorem dX11_from_13 : decode cX11_from 13 = .ok (.getfield 180, 3) := by decide +kernel
theorem dX11_from_16 : decode cX11_from 16 = .ok (.iload_n 2, 1) := by decide +kernel
theorem dX11_from_17 : decode cX11_from 17 = .ok (.invokevirtual 195, 3) := by decide +kernel
theorem dX11_from_20 : decode cX11_from 20 = .ok (.ireturn, 1) := by decide +kernel
theorem dX11_box_0 : decode cX11_box 0 = .ok (.aload_n 0, 1) := by decide +kernel
theorem dX11_box_1 : decode cX11_box 1 = .ok (.iload_n 1, 1) := by decide +kernel
theorem dX11_box_2 : decode cX11_box 2 = .ok (.invokevirtual 43, 3) := by decide +kernel
theorem dX11_box_5 : decode cX11_box 5 = .ok (.astore_n 3, 1) := by decide +kernel
theorem dX11_box_6 : decode cX11_box 6 = .ok (.iload_n 2, 1) := by decide +kernel
theorem dX11_box_7 : decode cX11_box 7 = .ok (.iconst 0, 1) := by decide +kernel
theorem dX11_box_8 : decode cX11_box 8 = .ok (.iconst 3, 1) := by decide +kernel
theorem dX11_box_9 : decode cX11_box 9 = .ok (.invokestatic 47, 3) := by decide +kernel
theorem dX11_box_12 : decode cX11_box 12 = .ok (.aload_n 3, 1) := by decide +kernel
theorem dX11_box_13 : decode cX11_box 13 = .ok (.getfield 180, 3) := by decide +kernel
theorem dX11_box_16 : decode cX11_box 16 = .ok (.iload_n 2, 1) := by decide +kernel
theorem dX11_box_17 : decode cX11_box 17 = .ok (.invokevirtual 198, 3) := by decide +kernel
theorem dX11_box_20 : decode cX11_box 20 = .ok (.ireturn, 1) := by decide +kernel
theorem dX11_boxAnew_0 : decode cX11_boxAnew 0 = .ok (.aload_n 0, 1) := by decide +kernel
theorem dX11_boxAnew_1 : decode cX11_boxAnew 1 = .ok (.iload_n 1, 1) := by decide +kernel
theorem dX11_boxAnew_2 : decode cX11_boxAnew 2 = .ok (.invokevirtual 43, 3) := by decide +kernel
theorem dX11_boxAnew_5 : decode cX11_boxAnew 5 = .ok (.astore_n 3, 1) := by decide +kernel
theorem dX11_boxAnew_6 : decode cX11_boxAnew 6 = .ok (.iload_n 2, 1) := by decide +kernel
theorem dX11_boxAnew_7 : decode cX11_boxAnew 7 = .ok (.iconst 0, 1) := by decide +kernel
theorem dX11_boxAnew_8 : decode cX11_boxAnew 8 = .ok (.iconst 3, 1) := by decide +kernel
theorem dX11_boxAnew_9 : decode cX11_boxAnew 9 = .ok (.invokestatic 47, 3) := by decide +kernel
theorem dX11_boxAnew_12 : decode cX11_boxAnew 12 = .ok (.aload_n 0, 1) := by decide +kernel
theorem dX11_boxAnew_13 : decode cX11_boxAnew 13 = .ok (.invokevirtual 189, 3) := by decide +kernel
theorem dX11_boxAnew_16 : decode cX11_boxAnew 16 = .ok (.aload_n 3, 1) := by decide +kernel
theorem dX11_boxAnew_17 : decode cX11_boxAnew 17 = .ok (.getfield 192, 3) := by decide +kernel
theorem dX11_boxAnew_20 : decode cX11_boxAnew 20 = .ok (.iload_n 2, 1) := by decide +kernel
theorem dX11_boxAnew_21 : decode cX11_boxAnew 21 = .ok (.invokevirtual 198, 3) := by decide +kernel
theorem dX11_boxAnew_24 : decode cX11_boxAnew 24 = .ok (.ireturn, 1) := by decide +kernel
theorem dX11_lines_0 : decode cX11_lines 0 = .ok (.aload_n 0, 1) := by decide +kernel
theorem dX11_lines_1 : decode cX11_lines 1 = .ok (.iload_n 1, 1) := by decide +kernel
theorem dX11_lines_2 : decode cX11_lines 2 = .ok (.invokevirtual 43, 3) := by decide +kernel
theorem dX11_lines_5 : decode cX11_lines 5 = .ok (.getfield 180, 3) := by decide +kernel
theorem dX11_lines_8 : decode cX11_lines 8 = .ok (.getfield 201, 3) := by decide +kernel
theorem dX11_lines_11 : decode cX11_lines 11 = .ok (.ireturn, 1) := by decide +kernel
theorem dX11_elementOf_0 : decode cX11_elementOf 0 = .ok (.aload_n 0, 1) := by decide +kernel
theorem dX11_elementOf_1 : decode cX11_elementOf 1 = .ok (.getfield 10, 3) := by decide +kernel
theorem dX11_elementOf_4 : decode cX11_elementOf 4 = .ok (.iload_n 1, 1) := by decide +kernel
theorem dX11_elementOf_5 : decode cX11_elementOf 5 = .ok (.invokevirtual 204, 3) := by decide +kernel
theorem dX11_elementOf_8 : decode cX11_elementOf 8 = .ok (.astore_n 2, 1) := by decide +kernel
theorem dX11_elementOf_9 : decode cX11_elementOf 9 = .ok (.aload_n 2, 1) := by decide +kernel
theorem dX11_elementOf_10 : decode cX11_elementOf 10 = .ok (.ifnonnull 13, 3) := by decide +kernel
theorem dX11_elementOf_13 : decode cX11_elementOf 13 = .ok (.new 207, 3) := by decide +kernel
theorem dX11_elementOf_16 : decode cX11_elementOf 16 = .ok (.dup, 1) := by decide +kernel
theorem dX11_elementOf_17 : decode cX11_elementOf 17 = .ok (.ldc 209, 2) := by decide +kernel
theorem dX11_elementOf_19 : decode cX11_elementOf 19 = .ok (.invokespecial 211, 3) := by decide +kernel
theorem dX11_elementOf_22 : decode cX11_elementOf 22 = .ok (.athrow, 1) := by decide +kernel
theorem dX11_elementOf_23 : decode cX11_elementOf 23 = .ok (.aload_n 2, 1) := by decide +kernel
theorem dX11_elementOf_24 : decode cX11_elementOf 24 = .ok (.areturn, 1) := by decide +kernel
theorem dX11_ruleOf_0 : decode cX11_ruleOf 0 = .ok (.aload_n 0, 1) := by decide +kernel
theorem dX11_ruleOf_1 : decode cX11_ruleOf 1 = .ok (.getfield 19, 3) := by decide +kernel
theorem dX11_ruleOf_4 : decode cX11_ruleOf 4 = .ok (.iload_n 1, 1) := by decide +kernel
theorem dX11_ruleOf_5 : decode cX11_ruleOf 5 = .ok (.invokevirtual 212, 3) := by decide +kernel
theorem dX11_ruleOf_8 : decode cX11_ruleOf 8 = .ok (.astore_n 2, 1) := by decide +kernel
theorem dX11_ruleOf_9 : decode cX11_ruleOf 9 = .ok (.aload_n 2, 1) := by decide +kernel
theorem dX11_ruleOf_10 : decode cX11_ruleOf 10 = .ok (.ifnonnull 13, 3) := by decide +kernel
theorem dX11_ruleOf_13 : decode cX11_ruleOf 13 = .ok (.new 207, 3) := by decide +kernel
theorem dX11_ruleOf_16 : decode cX11_ruleOf 16 = .ok (.dup, 1) := by decide +kernel
theorem dX11_ruleOf_17 : decode cX11_ruleOf 17 = .ok (.ldc 214, 2) := by decide +kernel
theorem dX11_ruleOf_19 : decode cX11_ruleOf 19 = .ok (.invokespecial 211, 3) := by decide +kernel
theorem dX11_ruleOf_22 : decode cX11_ruleOf 22 = .ok (.athrow, 1) := by decide +kernel
theorem dX11_ruleOf_23 : decode cX11_ruleOf 23 = .ok (.aload_n 2, 1) := by decide +kernel
theorem dX11_ruleOf_24 : decode cX11_ruleOf 24 = .ok (.areturn, 1) := by decide +kernel
theorem dX11_checkProperty_0 : decode cX11_checkProperty 0 = .ok (.iload_n 0, 1) := by decide +kernel
theorem dX11_checkProperty_1 : decode cX11_checkProperty 1 = .ok (.ifCond .lt 8, 3) := by decide +kernel
theorem dX11_checkProperty_4 : decode cX11_checkProperty 4 = .ok (.iload_n 0, 1) := by decide +kernel
theorem dX11_checkProperty_5 : decode cX11_checkProperty 5 = .ok (.iload_n 1, 1) := by decide +kernel
theorem dX11_checkProperty_6 : decode cX11_checkProperty 6 = .ok (.if_icmp .le 13, 3) := by decide +kernel
theorem dX11_checkProperty_9 : decode cX11_checkProperty 9 = .ok (.new 207, 3) := by decide +kernel
theorem dX11_checkProperty_12 : decode cX11_checkProperty 12 = .ok (.dup, 1) := by decide +kernel
theorem dX11_checkProperty_13 : decode cX11_checkProperty 13 = .ok (.ldc 216, 2) := by decide +kernel
theorem dX11_checkProperty_15 : decode cX11_checkProperty 15 = .ok (.invokespecial 211, 3) := by decide +kernel
theorem dX11_checkProperty_18 : decode cX11_checkProperty 18 = .ok (.athrow, 1) := by decide +kernel
theorem dX11_checkProperty_19 : decode cX11_checkProperty 19 = .ok (.return_, 1) := by decide +kernel
theorem dX11_checkRange_0 : decode cX11_checkRange 0 = .ok (.iload_n 0, 1) := by decide +kernel
theorem dX11_checkRange_1 : decode cX11_checkRange 1 = .ok (.iload_n 1, 1) := by decide +kernel
theorem dX11_checkRange_2 : decode cX11_checkRange 2 = .ok (.if_icmp .lt 8, 3) := by decide +kernel
theorem dX11_checkRange_5 : decode cX11_checkRange 5 = .ok (.iload_n 0, 1) := by decide +kernel
theorem dX11_checkRange_6 : decode cX11_checkRange 6 = .ok (.iload_n 2, 1) := by decide +kernel
theorem dX11_checkRange_7 : decode cX11_checkRange 7 = .ok (.if_icmp .le 13, 3) := by decide +kernel
theorem dX11_checkRange_10 : decode cX11_checkRange 10 = .ok (.new 91, 3) := by decide +kernel
theorem dX11_checkRange_13 : decode cX11_checkRange 13 = .ok (.dup, 1) := by decide +kernel
theorem dX11_checkRange_14 : decode cX11_checkRange 14 = .ok (.ldc 218, 2) := by decide +kernel
theorem dX11_checkRange_16 : decode cX11_checkRange 16 = .ok (.invokespecial 95, 3) := by decide +kernel
theorem dX11_checkRange_19 : decode cX11_checkRange 19 = .ok (.athrow, 1) := by decide +kernel
theorem dX11_checkRange_20 : decode cX11_checkRange 20 = .ok (.return_, 1) := by decide +kernel
theorem dX11_checkPart_0 : decode cX11_checkPart 0 = .ok (.iload_n 0, 1) := by decide +kernel
theorem dX11_checkPart_1 : decode cX11_checkPart 1 = .ok (.iconst (-1), 1) := by decide +kernel
theorem dX11_checkPart_2 : decode cX11_checkPart 2 = .ok (.iconst 5, 1) := by decide +kernel
theorem dX11_checkPart_3 : decode cX11_checkPart 3 = .ok (.invokestatic 47, 3) := by decide +kernel
theorem dX11_checkPart_6 : decode cX11_checkPart 6 = .ok (.iload_n 1, 1) := by decide +kernel
theorem dX11_checkPart_7 : decode cX11_checkPart 7 = .ok (.iconst 0, 1) := by decide +kernel
theorem dX11_checkPart_8 : decode cX11_checkPart 8 = .ok (.sipush 255, 3) := by decide +kernel
theorem dX11_checkPart_11 : decode cX11_checkPart 11 = .ok (.invokestatic 47, 3) := by decide +kernel
theorem dX11_checkPart_14 : decode cX11_checkPart 14 = .ok (.iload_n 2, 1) := by decide +kernel
theorem dX11_checkPart_15 : decode cX11_checkPart 15 = .ok (.iconst 0, 1) := by decide +kernel
theorem dX11_checkPart_16 : decode cX11_checkPart 16 = .ok (.sipush 255, 3) := by decide +kernel
theorem dX11_checkPart_19 : decode cX11_checkPart 19 = .ok (.invokestatic 47, 3) := by decide +kernel
theorem dX11_checkPart_22 : decode cX11_checkPart 22 = .ok (.return_, 1) := by decide +kernel
theorem dX11_putInto_0 : decode cX11_putInto 0 = .ok (.aload_n 0, 1) := by decide +kernel
theorem dX11_putInto_1 : decode cX11_putInto 1 = .ok (.iload_n 1, 1) := by decide +kernel
theorem dX11_putInto_2 : decode cX11_putInto 2 = .ok (.invokevirtual 220, 3) := by decide +kernel
theorem dX11_putInto_5 : decode cX11_putInto 5 = .ok (.bipush 6, 2) := by decide +kernel
theorem dX11_putInto_7 : decode cX11_putInto 7 = .ok (.if_icmp .le 13, 3) := by decide +kernel
theorem dX11_putInto_10 : decode cX11_putInto 10 = .ok (.new 55, 3) := by decide +kernel
theorem dX11_putInto_13 : decode cX11_putInto 13 = .ok (.dup, 1) := by decide +kernel
theorem dX11_putInto_14 : decode cX11_putInto 14 = .ok (.ldc 223, 2) := by decide +kernel
theorem dX11_putInto_16 : decode cX11_putInto 16 = .ok (.invokespecial 59, 3) := by decide +kernel
theorem dX11_putInto_19 : decode cX11_putInto 19 = .ok (.athrow, 1) := by decide +kernel
theorem dX11_putInto_20 : decode cX11_putInto 20 = .ok (.aload_n 0, 1) := by decide +kernel
theorem dX11_putInto_21 : decode cX11_putInto 21 = .ok (.iload_n 1, 1) := by decide +kernel
theorem dX11_putInto_22 : decode cX11_putInto 22 = .ok (.aload_n 2, 1) := by decide +kernel
theorem dX11_putInto_23 : decode cX11_putInto 23 = .ok (.invokevirtual 225, 3) := by decide +kernel
theorem dX11_putInto_26 : decode cX11_putInto 26 = .ok (.return_, 1) := by decide +kernel
theorem dX11_settle_0 : decode cX11_settle 0 = .ok (.aload_n 0, 1) := by decide +kernel
theorem dX11_settle_1 : decode cX11_settle 1 = .ok (.invokevirtual 189, 3) := by decide +kernel
theorem dX11_settle_4 : decode cX11_settle 4 = .ok (.iload_n 1, 1) := by decide +kernel
theorem dX11_settle_5 : decode cX11_settle 5 = .ok (.istore_n 2, 1) := by decide +kernel
theorem dX11_settle_6 : decode cX11_settle 6 = .ok (.iconst 0, 1) := by decide +kernel
theorem dX11_settle_7 : decode cX11_settle 7 = .ok (.istore_n 3, 1) := by decide +kernel
theorem dX11_settle_8 : decode cX11_settle 8 = .ok (.iload_n 3, 1) := by decide +kernel
theorem dX11_settle_9 : decode cX11_settle 9 = .ok (.aload_n 0, 1) := by decide +kernel
theorem dX11_settle_10 : decode cX11_settle 10 = .ok (.getfield 10, 3) := by decide +kernel
theorem dX11_settle_13 : decode cX11_settle 13 = .ok (.invokevirtual 51, 3) := by decide +kernel
theorem dX11_settle_16 : decode cX11_settle 16 = .ok (.if_icmp .ge 26, 3) := by decide +kernel
theorem dX11_settle_19 : decode cX11_settle 19 = .ok (.aload_n 0, 1) := by decide +kernel
theorem dX11_settle_20 : decode cX11_settle 20 = .ok (.getfield 10, 3) := by decide +kernel
theorem dX11_settle_23 : decode cX11_settle 23 = .ok (.iload_n 3, 1) := by decide +kernel
theorem dX11_settle_24 : decode cX11_settle 24 = .ok (.invokevirtual 229, 3) := by decide +kernel
theorem dX11_settle_27 : decode cX11_settle 27 = .ok (.invokevirtual 232, 3) := by decide +kernel
theorem dX11_settle_30 : decode cX11_settle 30 = .ok (.ifCond .eq 6, 3) := by decide +kernel
theorem dX11_settle_33 : decode cX11_settle 33 = .ok (.iinc 2 1, 3) := by decide +kernel
theorem dX11_settle_36 : decode cX11_settle 36 = .ok (.iinc 3 1, 3) := by decide +kernel
theorem dX11_settle_39 : decode cX11_settle 39 = .ok (.goto (-31), 3) := by decide +kernel
theorem dX11_settle_42 : decode cX11_settle 42 = .ok (.aload_n 0, 1) := by decide +kernel
theorem dX11_settle_43 : decode cX11_settle 43 = .ok (.iload_n 2, 1) := by decide +kernel
theorem dX11_settle_44 : decode cX11_settle 44 = .ok (.putfield 40, 3) := by decide +kernel
theorem dX11_settle_47 : decode cX11_settle 47 = .ok (.return_, 1) := by decide +kernel
theorem dX11_findAnew_0 : decode cX11_findAnew 0 = .ok (.aload_n 0, 1) := by decide +kernel
theorem dX11_findAnew_1 : decode cX11_findAnew 1 = .ok (.getfield 10, 3) := by decide +kernel
theorem dX11_findAnew_4 : decode cX11_findAnew 4 = .ok (.invokevirtual 51, 3) := by decide +kernel
theorem dX11_findAnew_7 : decode cX11_findAnew 7 = .ok (.istore_n 1, 1) := by decide +kernel
theorem dX11_findAnew_8 : decode cX11_findAnew 8 = .ok (.iconst 0, 1) := by decide +kernel
theorem dX11_findAnew_9 : decode cX11_findAnew 9 = .ok (.istore_n 2, 1) := by decide +kernel
theorem dX11_findAnew_10 : decode cX11_findAnew 10 = .ok (.iload_n 2, 1) := by decide +kernel
theorem dX11_findAnew_11 : decode cX11_findAnew 11 = .ok (.iload_n 1, 1) := by decide +kernel
theorem dX11_findAnew_12 : decode cX11_findAnew 12 = .ok (.if_icmp .ge 78, 3) := by decide +kernel
theorem dX11_findAnew_15 : decode cX11_findAnew 15 = .ok (.aload_n 0, 1) := by decide +kernel
theorem dX11_findAnew_16 : decode cX11_findAnew 16 = .ok (.getfield 10, 3) := by decide +kernel
theorem dX11_findAnew_19 : decode cX11_findAnew 19 = .ok (.iload_n 2, 1) := by decide +kernel
theorem dX11_findAnew_20 : decode cX11_findAnew 20 = .ok (.invokevirtual 229, 3) := by decide +kernel
theorem dX11_findAnew_23 : decode cX11_findAnew 23 = .ok (.astore_n 3, 1) := by decide +kernel
theorem dX11_findAnew_24 : decode cX11_findAnew 24 = .ok (.aload_n 3, 1) := by decide +kernel
theorem dX11_findAnew_25 : decode cX11_findAnew 25 = .ok (.getfield 71, 3) := by decide +kernel
theorem dX11_findAnew_28 : decode cX11_findAnew 28 = .ok (.ifnonnull 22, 3) := by decide +kernel
theorem dX11_findAnew_31 : decode cX11_findAnew 31 = .ok (.aload_n 0, 1) := by decide +kernel
theorem dX11_findAnew_32 : decode cX11_findAnew 32 = .ok (.getfield 28, 3) := by decide +kernel
theorem dX11_findAnew_35 : decode cX11_findAnew 35 = .ok (.aload_n 3, 1) := by decide +kernel
theorem dX11_findAnew_36 : decode cX11_findAnew 36 = .ok (.invokevirtual 236, 3) := by decide +kernel
theorem dX11_findAnew_39 : decode cX11_findAnew 39 = .ok (.aload_n 3, 1) := by decide +kernel
theorem dX11_findAnew_40 : decode cX11_findAnew 40 = .ok (.getfield 192, 3) := by decide +kernel
theorem dX11_findAnew_43 : decode cX11_findAnew 43 = .ok (.aload_n 0, 1) := by decide +kernel
theorem dX11_findAnew_44 : decode cX11_findAnew 44 = .ok (.getfield 32, 3) := by decide +kernel
theorem dX11_findAnew_47 : decode cX11_findAnew 47 = .ok (.invokestatic 240, 3) := by decide +kernel
theorem dX11_findAnew_50 : decode cX11_findAnew 50 = .ok (.aload_n 3, 1) := by decide +kernel
theorem dX11_findAnew_51 : decode cX11_findAnew 51 = .ok (.getfield 246, 3) := by decide +kernel
theorem dX11_findAnew_54 : decode cX11_findAnew 54 = .ok (.astore 4, 2) := by decide +kernel
theorem dX11_findAnew_56 : decode cX11_findAnew 56 = .ok (.aload 4, 2) := by decide +kernel
theorem dX11_findAnew_58 : decode cX11_findAnew 58 = .ok (.ifnull 22, 3) := by decide +kernel
theorem dX11_findAnew_61 : decode cX11_findAnew 61 = .ok (.aload_n 0, 1) := by decide +kernel
theorem dX11_findAnew_62 : decode cX11_findAnew 62 = .ok (.getfield 28, 3) := by decide +kernel
theorem dX11_findAnew_65 : decode cX11_findAnew 65 = .ok (.aload 4, 2) := by decide +kernel
theorem dX11_findAnew_67 : decode cX11_findAnew 67 = .ok (.invokevirtual 236, 3) := by decide +kernel
theorem dX11_findAnew_70 : decode cX11_findAnew 70 = .ok (.aload 4, 2) := by decide +kernel
theorem dX11_findAnew_72 : decode cX11_findAnew 72 = .ok (.getfield 249, 3) := by decide +kernel
theorem dX11_findAnew_75 : decode cX11_findAnew 75 = .ok (.astore 4, 2) := by decide +kernel
theorem dX11_findAnew_77 : decode cX11_findAnew 77 = .ok (.goto (-21), 3) := by decide +kernel
theorem dX11_findAnew_80 : decode cX11_findAnew 80 = .ok (.aload_n 3, 1) := by decide +kernel
theorem dX11_findAnew_81 : decode cX11_findAnew 81 = .ok (.invokestatic 252, 3) := by decide +kernel
theorem dX11_findAnew_84 : decode cX11_findAnew 84 = .ok (.iinc 2 1, 3) := by decide +kernel
theorem dX11_findAnew_87 : decode cX11_findAnew 87 = .ok (.goto (-77), 3) := by decide +kernel
theorem dX11_findAnew_90 : decode cX11_findAnew 90 = .ok (.iload_n 1, 1) := by decide +kernel
theorem dX11_findAnew_91 : decode cX11_findAnew 91 = .ok (.iconst 1, 1) := by decide +kernel
theorem dX11_findAnew_92 : decode cX11_findAnew 92 = .ok (.isub, 1) := by decide +kernel
theorem dX11_findAnew_93 : decode cX11_findAnew 93 = .ok (.istore_n 2, 1) := by decide +kernel
theorem dX11_findAnew_94 : decode cX11_findAnew 94 = .ok (.iload_n 2, 1) := by decide +kernel
theorem dX11_findAnew_95 : decode cX11_findAnew 95 = .ok (.ifCond .lt 20, 3) := by decide +kernel
theorem dX11_findAnew_98 : decode cX11_findAnew 98 = .ok (.aload_n 0, 1) := by decide +kernel
theorem dX11_findAnew_99 : decode cX11_findAnew 99 = .ok (.getfield 10, 3) := by decide +kernel
theorem dX11_findAnew_102 : decode cX11_findAnew 102 = .ok (.iload_n 2, 1) := by decide +kernel
theorem dX11_findAnew_103 : decode cX11_findAnew 103 = .ok (.invokevirtual 229, 3) := by decide +kernel
theorem dX11_findAnew_106 : decode cX11_findAnew 106 = .ok (.invokestatic 255, 3) := by decide +kernel
theorem dX11_findAnew_109 : decode cX11_findAnew 109 = .ok (.iinc 2 (-1), 3) := by decide +kernel
theorem dX11_findAnew_112 : decode cX11_findAnew 112 = .ok (.goto (-18), 3) := by decide +kernel
theorem dX11_findAnew_115 : decode cX11_findAnew 115 = .ok (.iconst 0, 1) := by decide +kernel
theorem dX11_findAnew_116 : decode cX11_findAnew 116 = .ok (.istore_n 2, 1) := by decide +kernel
theorem dX11_findAnew_117 : decode cX11_findAnew 117 = .ok (.iload_n 2, 1) := by decide +kernel
theorem dX11_findAnew_118 : decode cX11_findAnew 118 = .ok (.iload_n 1, 1) := by decide +kernel
theorem dX11_findAnew_119 : decode cX11_findAnew 119 = .ok (.if_icmp .ge 20, 3) := by decide +kernel
theorem dX11_findAnew_122 : decode cX11_findAnew 122 = .ok (.aload_n 0, 1) := by decide +kernel
theorem dX11_findAnew_123 : decode cX11_findAnew 123 = .ok (.getfield 10, 3) := by decide +kernel
theorem dX11_findAnew_126 : decode cX11_findAnew 126 = .ok (.iload_n 2, 1) := by decide +kernel
theorem dX11_findAnew_127 : decode cX11_findAnew 127 = .ok (.invokevirtual 229, 3) := by decide +kernel
theorem dX11_findAnew_130 : decode cX11_findAnew 130 = .ok (.invokestatic 258, 3) := by decide +kernel
theorem dX11_findAnew_133 : decode cX11_findAnew 133 = .ok (.iinc 2 1, 3) := by decide +kernel
theorem dX11_findAnew_136 : decode cX11_findAnew 136 = .ok (.goto (-19), 3) := by decide +kernel
theorem dX11_findAnew_139 : decode cX11_findAnew 139 = .ok (.return_, 1) := by decide +kernel
theorem dJ6_bitCount_0f7a4_0 : decode cJ6_bitCount_0f7a4 0 = .ok (.iload_n 0, 1) := by decide +kernel
theorem dJ6_bitCount_0f7a4_1 : decode cJ6_bitCount_0f7a4 1 = .ok (.iload_n 0, 1) := by decide +kernel
theorem dJ6_bitCount_0f7a4_2 : decode cJ6_bitCount_0f7a4 2 = .ok (.iconst 1, 1) := by decide +kernel
theorem dJ6_bitCount_0f7a4_3 : decode cJ6_bitCount_0f7a4 3 = .ok (.iushr, 1) := by decide +kernel
theorem dJ6_bitCount_0f7a4_4 : decode cJ6_bitCount_0f7a4 4 = .ok (.ldc_w 265, 3) := by decide +kernel
theorem dJ6_bitCount_0f7a4_7 : decode cJ6_bitCount_0f7a4 7 = .ok (.iand, 1) := by decide +kernel
theorem dJ6_bitCount_0f7a4_8 : decode cJ6_bitCount_0f7a4 8 = .ok (.isub, 1) := by decide +kernel
theorem dJ6_bitCount_0f7a4_9 : decode cJ6_bitCount_0f7a4 9 = .ok (.istore_n 0, 1) := by decide +kernel
theorem dJ6_bitCount_0f7a4_10 : decode cJ6_bitCount_0f7a4 10 = .ok (.iload_n 0, 1) := by decide +kernel
theorem dJ6_bitCount_0f7a4_11 : decode cJ6_bitCount_0f7a4 11 = .ok (.ldc_w 266, 3) := by decide +kernel
theorem dJ6_bitCount_0f7a4_14 : decode cJ6_bitCount_0f7a4 14 = .ok (.iand, 1) := by decide +kernel
theorem dJ6_bitCount_0f7a4_15 : decode cJ6_bitCount_0f7a4 15 = .ok (.iload_n 0, 1) := by decide +kernel
theorem dJ6_bitCount_0f7a4_16 : decode cJ6_bitCount_0f7a4 16 = .ok (.iconst 2, 1) := by decide +kernel
theorem dJ6_bitCount_0f7a4_17 : decode cJ6_bitCount_0f7a4 17 = .ok (.iushr, 1) := by decide +kernel
theorem dJ6_bitCount_0f7a4_18 : decode cJ6_bitCount_0f7a4 18 = .ok (.ldc_w 266, 3) := by decide +kernel
theorem dJ6_bitCount_0f7a4_21 : decode cJ6_bitCount_0f7a4 21 = .ok (.iand, 1) := by decide +kernel
theorem dJ6_bitCount_0f7a4_22 : decode cJ6_bitCount_0f7a4 22 = .ok (.iadd, 1) := by decide +kernel
theorem dJ6_bitCount_0f7a4_23 : decode cJ6_bitCount_0f7a4 23 = .ok (.istore_n 0, 1) := by decide +kernel
theorem dJ6_bitCount_0f7a4_24 : decode cJ6_bitCount_0f7a4 24 = .ok (.iload_n 0, 1) := by decide +kernel
theorem dJ6_bitCount_0f7a4_25 : decode cJ6_bitCount_0f7a4 25 = .ok (.iload_n 0, 1) := by decide +kernel
theorem dJ6_bitCount_0f7a4_26 : decode cJ6_bitCount_0f7a4 26 = .ok (.iconst 4, 1) := by decide +kernel
theorem dJ6_bitCount_0f7a4_27 : decode cJ6_bitCount_0f7a4 27 = .ok (.iushr, 1) := by decide +kernel
theorem dJ6_bitCount_0f7a4_28 : decode cJ6_bitCount_0f7a4 28 = .ok (.iadd, 1) := by decide +kernel
theorem dJ6_bitCount_0f7a4_29 : decode cJ6_bitCount_0f7a4 29 = .ok (.ldc_w 267, 3) := by decide +kernel
theorem dJ6_bitCount_0f7a4_32 : decode cJ6_bitCount_0f7a4 32 = .ok (.iand, 1) := by decide +kernel
theorem dJ6_bitCount_0f7a4_33 : decode cJ6_bitCount_0f7a4 33 = .ok (.istore_n 0, 1) := by decide +kernel
theorem dJ6_bitCount_0f7a4_34 : decode cJ6_bitCount_0f7a4 34 = .ok (.iload_n 0, 1) := by decide +kernel
theorem dJ6_bitCount_0f7a4_35 : decode cJ6_bitCount_0f7a4 35 = .ok (.iload_n 0, 1) := by decide +kernel
theorem dJ6_bitCount_0f7a4_36 : decode cJ6_bitCount_0f7a4 36 = .ok (.bipush 8, 2) := by decide +kernel
theorem dJ6_bitCount_0f7a4_38 : decode cJ6_bitCount_0f7a4 38 = .ok (.iushr, 1) := by decide +kernel
theorem dJ6_bitCount_0f7a4_39 : decode cJ6_bitCount_0f7a4 39 = .ok (.iadd, 1) := by decide +kernel
theorem dJ6_bitCount_0f7a4_40 : decode cJ6_bitCount_0f7a4 40 = .ok (.istore_n 0, 1) := by decide +kernel
theorem dJ6_bitCount_0f7a4_41 : decode cJ6_bitCount_0f7a4 41 = .ok (.iload_n 0, 1) := by decide +kernel
theorem dJ6_bitCount_0f7a4_42 : decode cJ6_bitCount_0f7a4 42 = .ok (.iload_n 0, 1) := by decide +kernel
theorem dJ6_bitCount_0f7a4_43 : decode cJ6_bitCount_0f7a4 43 = .ok (.bipush 16, 2) := by decide +kernel
theorem dJ6_bitCount_0f7a4_45 : decode cJ6_bitCount_0f7a4 45 = .ok (.iushr, 1) := by decide +kernel
theorem dJ6_bitCount_0f7a4_46 : decode cJ6_bitCount_0f7a4 46 = .ok (.iadd, 1) := by decide +kernel
theorem dJ6_bitCount_0f7a4_47 : decode cJ6_bitCount_0f7a4 47 = .ok (.istore_n 0, 1) := by decide +kernel
theorem dJ6_bitCount_0f7a4_48 : decode cJ6_bitCount_0f7a4 48 = .ok (.iload_n 0, 1) := by decide +kernel
theorem dJ6_bitCount_0f7a4_49 : decode cJ6_bitCount_0f7a4 49 = .ok (.bipush 63, 2) := by decide +kernel
theorem dJ6_bitCount_0f7a4_51 : decode cJ6_bitCount_0f7a4 51 = .ok (.iand, 1) := by decide +kernel
theorem dJ6_bitCount_0f7a4_52 : decode cJ6_bitCount_0f7a4 52 = .ok (.ireturn, 1) := by decide +kernel
theorem dJxa1e45_init_da8c8_0 : decode cJxa1e45_init_da8c8 0 = .ok (.aload_n 0, 1) := by decide +kernel
theorem dJxa1e45_init_da8c8_1 : decode cJxa1e45_init_da8c8 1 = .ok (.invokespecial 1, 3) := by decide +kernel
theorem dJxa1e45_init_da8c8_4 : decode cJxa1e45_init_da8c8 4 = .ok (.return_, 1) := by decide +kernel
theorem dJxc12de_init_da8c8_0 : decode cJxc12de_init_da8c8 0 = .ok (.aload_n 0, 1) := by decide +kernel
theorem dJxc12de_init_da8c8_1 : decode cJxc12de_init_da8c8 1 = .ok (.invokespecial 1, 3) := by decide +kernel
theorem dJxc12de_init_da8c8_4 : decode cJxc12de_init_da8c8 4 = .ok (.aload_n 0, 1) := by decide +kernel
theorem dJxc12de_init_da8c8_5 : decode cJxc12de_init_da8c8 5 = .ok (.iconst 0, 1) := by decide +kernel
theorem dJxc12de_init_da8c8_6 : decode cJxc12de_init_da8c8 6 = .ok (.putfield 7, 3) := by decide +kernel
theorem dJxc12de_init_da8c8_9 : decode cJxc12de_init_da8c8 9 = .ok (.return_, 1) := by decide +kernel
theorem dJx4a65c_init_da8c8_0 : decode cJx4a65c_init_da8c8 0 = .ok (.aload_n 0, 1) := by decide +kernel
theorem dJx4a65c_init_da8c8_1 : decode cJx4a65c_init_da8c8 1 = .ok (.invokespecial 1, 3) := by decide +kernel
theorem dJx4a65c_init_da8c8_4 : decode cJx4a65c_init_da8c8 4 = .ok (.aload_n 0, 1) := by decide +kernel
theorem dJx4a65c_init_da8c8_5 : decode cJx4a65c_init_da8c8 5 = .ok (.getstatic 39, 3) := by decide +kernel
theorem dJx4a65c_init_da8c8_8 : decode cJx4a65c_init_da8c8 8 = .ok (.putfield 9, 3) := by decide +kernel
theorem dJx4a65c_init_da8c8_11 : decode cJx4a65c_init_da8c8 11 = .ok (.return_, 1) := by decide +kernel
theorem dJx4a65c_grow_92f84_0 : decode cJx4a65c_grow_92f84 0 = .ok (.aload_n 0, 1) := by decide +kernel
theorem dJx4a65c_grow_92f84_1 : decode cJx4a65c_grow_92f84 1 = .ok (.getfield 9, 3) := by decide +kernel
theorem dJx4a65c_grow_92f84_4 : decode cJx4a65c_grow_92f84 4 = .ok (.arraylength, 1) := by decide +kernel
theorem dJx4a65c_grow_92f84_5 : decode cJx4a65c_grow_92f84 5 = .ok (.istore_n 2, 1) := by decide +kernel
theorem dJx4a65c_grow_92f84_6 : decode cJx4a65c_grow_92f84 6 = .ok (.iload_n 2, 1) := by decide +kernel
theorem dJx4a65c_grow_92f84_7 : decode cJx4a65c_grow_92f84 7 = .ok (.ifCond .gt 13, 3) := by decide +kernel
theorem dJx4a65c_grow_92f84_10 : decode cJx4a65c_grow_92f84 10 = .ok (.aload_n 0, 1) := by decide +kernel
theorem dJx4a65c_grow_92f84_11 : decode cJx4a65c_grow_92f84 11 = .ok (.getfield 9, 3) := by decide +kernel
theorem dJx4a65c_grow_92f84_14 : decode cJx4a65c_grow_92f84 14 = .ok (.getstatic 39, 3) := by decide +kernel
theorem dJx4a65c_grow_92f84_17 : decode cJx4a65c_grow_92f84 17 = .ok (.if_acmp .eq 28, 3) := by decide +kernel
theorem dJx4a65c_grow_92f84_20 : decode cJx4a65c_grow_92f84 20 = .ok (.iload_n 2, 1) := by decide +kernel
theorem dJx4a65c_grow_92f84_21 : decode cJx4a65c_grow_92f84 21 = .ok (.iload_n 1, 1) := by decide +kernel
theorem dJx4a65c_grow_92f84_22 : decode cJx4a65c_grow_92f84 22 = .ok (.iload_n 2, 1) := by decide +kernel
theorem dJx4a65c_grow_92f84_23 : decode cJx4a65c_grow_92f84 23 = .ok (.isub, 1) := by decide +kernel
theorem dJx4a65c_grow_92f84_24 : decode cJx4a65c_grow_92f84 24 = .ok (.iload_n 2, 1) := by decide +kernel
theorem dJx4a65c_grow_92f84_25 : decode cJx4a65c_grow_92f84 25 = .ok (.iconst 1, 1) := by decide +kernel
theorem dJx4a65c_grow_92f84_26 : decode cJx4a65c_grow_92f84 26 = .ok (.ishr, 1) := by decide +kernel
theorem dJx4a65c_grow_92f84_27 : decode cJx4a65c_grow_92f84 27 = .ok (.invokestatic 73, 3) := by decide +kernel
theorem dJx4a65c_grow_92f84_30 : decode cJx4a65c_grow_92f84 30 = .ok (.istore_n 3, 1) := by decide +kernel
theorem dJx4a65c_grow_92f84_31 : decode cJx4a65c_grow_92f84 31 = .ok (.aload_n 0, 1) := by decide +kernel
theorem dJx4a65c_grow_92f84_32 : decode cJx4a65c_grow_92f84 32 = .ok (.aload_n 0, 1) := by decide +kernel
theorem dJx4a65c_grow_92f84_33 : decode cJx4a65c_grow_92f84 33 = .ok (.getfield 9, 3) := by decide +kernel
theorem dJx4a65c_grow_92f84_36 : decode cJx4a65c_grow_92f84 36 = .ok (.iload_n 3, 1) := by decide +kernel
theorem dJx4a65c_grow_92f84_37 : decode cJx4a65c_grow_92f84 37 = .ok (.invokestatic 66, 3) := by decide +kernel
theorem dJx4a65c_grow_92f84_40 : decode cJx4a65c_grow_92f84 40 = .ok (.dup_x1, 1) := by decide +kernel
theorem dJx4a65c_grow_92f84_41 : decode cJx4a65c_grow_92f84 41 = .ok (.putfield 9, 3) := by decide +kernel
theorem dJx4a65c_grow_92f84_44 : decode cJx4a65c_grow_92f84 44 = .ok (.areturn, 1) := by decide +kernel
theorem dJx4a65c_grow_92f84_45 : decode cJx4a65c_grow_92f84 45 = .ok (.aload_n 0, 1) := by decide +kernel
theorem dJx4a65c_grow_92f84_46 : decode cJx4a65c_grow_92f84 46 = .ok (.bipush 10, 2) := by decide +kernel
theorem dJx4a65c_grow_92f84_48 : decode cJx4a65c_grow_92f84 48 = .ok (.iload_n 1, 1) := by decide +kernel
theorem dJx4a65c_grow_92f84_49 : decode cJx4a65c_grow_92f84 49 = .ok (.invokestatic 79, 3) := by decide +kernel
theorem dJx4a65c_grow_92f84_52 : decode cJx4a65c_grow_92f84 52 = .ok (.anewarray 7, 3) := by decide +kernel
theorem dJx4a65c_grow_92f84_55 : decode cJx4a65c_grow_92f84 55 = .ok (.dup_x1, 1) := by decide +kernel
theorem dJx4a65c_grow_92f84_56 : decode cJx4a65c_grow_92f84 56 = .ok (.putfield 9, 3) := by decide +kernel
theorem dJx4a65c_grow_92f84_59 : decode cJx4a65c_grow_92f84 59 = .ok (.areturn, 1) := by decide +kernel
theorem dJx4a65c_grow_d5877_0 : decode cJx4a65c_grow_d5877 0 = .ok (.aload_n 0, 1) := by decide +kernel
theorem dJx4a65c_grow_d5877_1 : decode cJx4a65c_grow_d5877 1 = .ok (.aload_n 0, 1) := by decide +kernel
theorem dJx4a65c_grow_d5877_2 : decode cJx4a65c_grow_d5877 2 = .ok (.getfield 48, 3) := by decide +kernel
theorem dJx4a65c_grow_d5877_5 : decode cJx4a65c_grow_d5877 5 = .ok (.iconst 1, 1) := by decide +kernel
theorem dJx4a65c_grow_d5877_6 : decode cJx4a65c_grow_d5877 6 = .ok (.iadd, 1) := by decide +kernel
theorem dJx4a65c_grow_d5877_7 : decode cJx4a65c_grow_d5877 7 = .ok (.invokevirtual 69, 3) := by decide +kernel
theorem dJx4a65c_grow_d5877_10 : decode cJx4a65c_grow_d5877 10 = .ok (.areturn, 1) := by decide +kernel
theorem dJx4a65c_size_8abf5_0 : decode cJx4a65c_size_8abf5 0 = .ok (.aload_n 0, 1) := by decide +kernel
theorem dJx4a65c_size_8abf5_1 : decode cJx4a65c_size_8abf5 1 = .ok (.getfield 48, 3) := by decide +kernel
theorem dJx4a65c_size_8abf5_4 : decode cJx4a65c_size_8abf5 4 = .ok (.ireturn, 1) := by decide +kernel
theorem dJx4a65c_isEmpty_aae02_0 : decode cJx4a65c_isEmpty_aae02 0 = .ok (.aload_n 0, 1) := by decide +kernel
theorem dJx4a65c_isEmpty_aae02_1 : decode cJx4a65c_isEmpty_aae02 1 = .ok (.getfield 48, 3) := by decide +kernel
theorem dJx4a65c_isEmpty_aae02_4 : decode cJx4a65c_isEmpty_aae02 4 = .ok (.ifCond .ne 7, 3) := by decide +kernel
theorem dJx4a65c_isEmpty_aae02_7 : decode cJx4a65c_isEmpty_aae02 7 = .ok (.iconst 1, 1) := by decide +kernel
theorem dJx4a65c_isEmpty_aae02_8 : decode cJx4a65c_isEmpty_aae02 8 = .ok (.goto 4, 3) := by decide +kernel
theorem dJx4a65c_isEmpty_aae02_11 : decode cJx4a65c_isEmpty_aae02 11 = .ok (.iconst 0, 1) := by decide +kernel
theorem dJx4a65c_isEmpty_aae02_12 : decode cJx4a65c_isEmpty_aae02 12 = .ok (.ireturn, 1) := by decide +kernel
theorem dJx4a65c_elementData_915e3_0 : decode cJx4a65c_elementData_915e3 0 = .ok (.aload_n 0, 1) := by decide +kernel
theorem dJx4a65c_elementData_915e3_1 : decode cJx4a65c_elementData_915e3 1 = .ok (.getfield 9, 3) := by decide +kernel
theorem dJx4a65c_elementData_915e3_4 : decode cJx4a65c_elementData_915e3 4 = .ok (.iload_n 1, 1) := by decide +kernel
theorem dJx4a65c_elementData_915e3_5 : decode cJx4a65c_elementData_915e3 5 = .ok (.aaload, 1) := by decide +kernel
theorem dJx4a65c_elementData_915e3_6 : decode cJx4a65c_elementData_915e3 6 = .ok (.areturn, 1) := by decide +kernel
theorem dJx4a65c_get_915e3_0 : decode cJx4a65c_get_915e3 0 = .ok (.iload_n 1, 1) := by decide +kernel
theorem dJx4a65c_get_915e3_1 : decode cJx4a65c_get_915e3 1 = .ok (.aload_n 0, 1) := by decide +kernel
theorem dJx4a65c_get_915e3_2 : decode cJx4a65c_get_915e3 2 = .ok (.getfield 48, 3) := by decide +kernel
theorem dJx4a65c_get_915e3_5 : decode cJx4a65c_get_915e3 5 = .ok (.invokestatic 118, 3) := by decide +kernel
theorem dJx4a65c_get_915e3_8 : decode cJx4a65c_get_915e3 8 = .ok (.pop, 1) := by decide +kernel
theorem dJx4a65c_get_915e3_9 : decode cJx4a65c_get_915e3 9 = .ok (.aload_n 0, 1) := by decide +kernel
theorem dJx4a65c_get_915e3_10 : decode cJx4a65c_get_915e3 10 = .ok (.iload_n 1, 1) := by decide +kernel
theorem dJx4a65c_get_915e3_11 : decode cJx4a65c_get_915e3 11 = .ok (.invokevirtual 123, 3) := by decide +kernel
theorem dJx4a65c_get_915e3_14 : decode cJx4a65c_get_915e3 14 = .ok (.areturn, 1) := by decide +kernel
theorem dJx4a65c_add_72be8_0 : decode cJx4a65c_add_72be8 0 = .ok (.iload_n 3, 1) := by decide +kernel
theorem dJx4a65c_add_72be8_1 : decode cJx4a65c_add_72be8 1 = .ok (.aload_n 2, 1) := by decide +kernel
theorem dJx4a65c_add_72be8_2 : decode cJx4a65c_add_72be8 2 = .ok (.arraylength, 1) := by decide +kernel
theorem dJx4a65c_add_72be8_3 : decode cJx4a65c_add_72be8 3 = .ok (.if_icmp .ne 8, 3) := by decide +kernel
theorem dJx4a65c_add_72be8_6 : decode cJx4a65c_add_72be8 6 = .ok (.aload_n 0, 1) := by decide +kernel
theorem dJx4a65c_add_72be8_7 : decode cJx4a65c_add_72be8 7 = .ok (.invokevirtual 129, 3) := by decide +kernel
theorem dJx4a65c_add_72be8_10 : decode cJx4a65c_add_72be8 10 = .ok (.astore_n 2, 1) := by decide +kernel
theorem dJx4a65c_add_72be8_11 : decode cJx4a65c_add_72be8 11 = .ok (.aload_n 2, 1) := by decide +kernel
theorem dJx4a65c_add_72be8_12 : decode cJx4a65c_add_72be8 12 = .ok (.iload_n 3, 1) := by decide +kernel
theorem dJx4a65c_add_72be8_13 : decode cJx4a65c_add_72be8 13 = .ok (.aload_n 1, 1) := by decide +kernel
theorem dJx4a65c_add_72be8_14 : decode cJx4a65c_add_72be8 14 = .ok (.aastore, 1) := by decide +kernel
theorem dJx4a65c_add_72be8_15 : decode cJx4a65c_add_72be8 15 = .ok (.aload_n 0, 1) := by decide +kernel
theorem dJx4a65c_add_72be8_16 : decode cJx4a65c_add_72be8 16 = .ok (.iload_n 3, 1) := by decide +kernel
theorem dJx4a65c_add_72be8_17 : decode cJx4a65c_add_72be8 17 = .ok (.iconst 1, 1) := by decide +kernel
theorem dJx4a65c_add_72be8_18 : decode cJx4a65c_add_72be8 18 = .ok (.iadd, 1) := by decide +kernel
theorem dJx4a65c_add_72be8_19 : decode cJx4a65c_add_72be8 19 = .ok (.putfield 48, 3) := by decide +kernel
theorem dJx4a65c_add_72be8_22 : decode cJx4a65c_add_72be8 22 = .ok (.return_, 1) := by decide +kernel
theorem dJx4a65c_add_9ea2d_0 : decode cJx4a65c_add_9ea2d 0 = .ok (.aload_n 0, 1) := by decide +kernel
theorem dJx4a65c_add_9ea2d_1 : decode cJx4a65c_add_9ea2d 1 = .ok (.dup, 1) := by decide +kernel
theorem dJx4a65c_add_9ea2d_2 : decode cJx4a65c_add_9ea2d 2 = .ok (.getfield 63, 3) := by decide +kernel
theorem dJx4a65c_add_9ea2d_5 : decode cJx4a65c_add_9ea2d 5 = .ok (.iconst 1, 1) := by decide +kernel
theorem dJx4a65c_add_9ea2d_6 : decode cJx4a65c_add_9ea2d 6 = .ok (.iadd, 1) := by decide +kernel
theorem dJx4a65c_add_9ea2d_7 : decode cJx4a65c_add_9ea2d 7 = .ok (.putfield 63, 3) := by decide +kernel
theorem dJx4a65c_add_9ea2d_10 : decode cJx4a65c_add_9ea2d 10 = .ok (.aload_n 0, 1) := by decide +kernel
theorem dJx4a65c_add_9ea2d_11 : decode cJx4a65c_add_9ea2d 11 = .ok (.aload_n 1, 1) := by decide +kernel
theorem dJx4a65c_add_9ea2d_12 : decode cJx4a65c_add_9ea2d 12 = .ok (.aload_n 0, 1) := by decide +kernel
theorem dJx4a65c_add_9ea2d_13 : decode cJx4a65c_add_9ea2d 13 = .ok (.getfield 9, 3) := by decide +kernel
theorem dJx4a65c_add_9ea2d_16 : decode cJx4a65c_add_9ea2d 16 = .ok (.aload_n 0, 1) := by decide +kernel
theorem dJx4a65c_add_9ea2d_17 : decode cJx4a65c_add_9ea2d 17 = .ok (.getfield 48, 3) := by decide +kernel
theorem dJx4a65c_add_9ea2d_20 : decode cJx4a65c_add_9ea2d 20 = .ok (.invokevirtual 131, 3) := by decide +kernel
theorem dJx4a65c_add_9ea2d_23 : decode cJx4a65c_add_9ea2d 23 = .ok (.iconst 1, 1) := by decide +kernel
theorem dJx4a65c_add_9ea2d_24 : decode cJx4a65c_add_9ea2d 24 = .ok (.ireturn, 1) := by decide +kernel
theorem dJx4a65c_add_7a177_0 : decode cJx4a65c_add_7a177 0 = .ok (.aload_n 0, 1) := by decide +kernel
theorem dJx4a65c_add_7a177_1 : decode cJx4a65c_add_7a177 1 = .ok (.iload_n 1, 1) := by decide +kernel
theorem dJx4a65c_add_7a177_2 : decode cJx4a65c_add_7a177 2 = .ok (.invokevirtual 135, 3) := by decide +kernel
theorem dJx4a65c_add_7a177_5 : decode cJx4a65c_add_7a177 5 = .ok (.aload_n 0, 1) := by decide +kernel
theorem dJx4a65c_add_7a177_6 : decode cJx4a65c_add_7a177 6 = .ok (.dup, 1) := by decide +kernel
theorem dJx4a65c_add_7a177_7 : decode cJx4a65c_add_7a177 7 = .ok (.getfield 63, 3) := by decide +kernel
theorem dJx4a65c_add_7a177_10 : decode cJx4a65c_add_7a177 10 = .ok (.iconst 1, 1) := by decide +kernel
theorem dJx4a65c_add_7a177_11 : decode cJx4a65c_add_7a177 11 = .ok (.iadd, 1) := by decide +kernel
theorem dJx4a65c_add_7a177_12 : decode cJx4a65c_add_7a177 12 = .ok (.putfield 63, 3) := by decide +kernel
theorem dJx4a65c_add_7a177_15 : decode cJx4a65c_add_7a177 15 = .ok (.aload_n 0, 1) := by decide +kernel
theorem dJx4a65c_add_7a177_16 : decode cJx4a65c_add_7a177 16 = .ok (.getfield 48, 3) := by decide +kernel
theorem dJx4a65c_add_7a177_19 : decode cJx4a65c_add_7a177 19 = .ok (.dup, 1) := by decide +kernel
theorem dJx4a65c_add_7a177_20 : decode cJx4a65c_add_7a177 20 = .ok (.istore_n 3, 1) := by decide +kernel
theorem dJx4a65c_add_7a177_21 : decode cJx4a65c_add_7a177 21 = .ok (.aload_n 0, 1) := by decide +kernel
theorem dJx4a65c_add_7a177_22 : decode cJx4a65c_add_7a177 22 = .ok (.getfield 9, 3) := by decide +kernel
theorem dJx4a65c_add_7a177_25 : decode cJx4a65c_add_7a177 25 = .ok (.dup, 1) := by decide +kernel
theorem dJx4a65c_add_7a177_26 : decode cJx4a65c_add_7a177 26 = .ok (.astore 4, 2) := by decide +kernel
theorem dJx4a65c_add_7a177_28 : decode cJx4a65c_add_7a177 28 = .ok (.arraylength, 1) := by decide +kernel
theorem dJx4a65c_add_7a177_29 : decode cJx4a65c_add_7a177 29 = .ok (.if_icmp .ne 9, 3) := by decide +kernel
theorem dJx4a65c_add_7a177_32 : decode cJx4a65c_add_7a177 32 = .ok (.aload_n 0, 1) := by decide +kernel
theorem dJx4a65c_add_7a177_33 : decode cJx4a65c_add_7a177 33 = .ok (.invokevirtual 129, 3) := by decide +kernel
theorem dJx4a65c_add_7a177_36 : decode cJx4a65c_add_7a177 36 = .ok (.astore 4, 2) := by decide +kernel
theorem dJx4a65c_add_7a177_38 : decode cJx4a65c_add_7a177 38 = .ok (.aload 4, 2) := by decide +kernel
theorem dJx4a65c_add_7a177_40 : decode cJx4a65c_add_7a177 40 = .ok (.iload_n 1, 1) := by decide +kernel
theorem dJx4a65c_add_7a177_41 : decode cJx4a65c_add_7a177 41 = .ok (.aload 4, 2) := by decide +kernel
theorem dJx4a65c_add_7a177_43 : decode cJx4a65c_add_7a177 43 = .ok (.iload_n 1, 1) := by decide +kernel
theorem dJx4a65c_add_7a177_44 : decode cJx4a65c_add_7a177 44 = .ok (.iconst 1, 1) := by decide +kernel
theorem dJx4a65c_add_7a177_45 : decode cJx4a65c_add_7a177 45 = .ok (.iadd, 1) := by decide +kernel
theorem dJx4a65c_add_7a177_46 : decode cJx4a65c_add_7a177 46 = .ok (.iload_n 3, 1) := by decide +kernel
theorem dJx4a65c_add_7a177_47 : decode cJx4a65c_add_7a177 47 = .ok (.iload_n 1, 1) := by decide +kernel
theorem dJx4a65c_add_7a177_48 : decode cJx4a65c_add_7a177 48 = .ok (.isub, 1) := by decide +kernel
theorem dJx4a65c_add_7a177_49 : decode cJx4a65c_add_7a177 49 = .ok (.invokestatic 112, 3) := by decide +kernel
theorem dJx4a65c_add_7a177_52 : decode cJx4a65c_add_7a177 52 = .ok (.aload 4, 2) := by decide +kernel
theorem dJx4a65c_add_7a177_54 : decode cJx4a65c_add_7a177 54 = .ok (.iload_n 1, 1) := by decide +kernel
theorem dJx4a65c_add_7a177_55 : decode cJx4a65c_add_7a177 55 = .ok (.aload_n 2, 1) := by decide +kernel
theorem dJx4a65c_add_7a177_56 : decode cJx4a65c_add_7a177 56 = .ok (.aastore, 1) := by decide +kernel
theorem dJx4a65c_add_7a177_57 : decode cJx4a65c_add_7a177 57 = .ok (.aload_n 0, 1) := by decide +kernel
theorem dJx4a65c_add_7a177_58 : decode cJx4a65c_add_7a177 58 = .ok (.iload_n 3, 1) := by decide +kernel
theorem dJx4a65c_add_7a177_59 : decode cJx4a65c_add_7a177 59 = .ok (.iconst 1, 1) := by decide +kernel
theorem dJx4a65c_add_7a177_60 : decode cJx4a65c_add_7a177 60 = .ok (.iadd, 1) := by decide +kernel
theorem dJx4a65c_add_7a177_61 : decode cJx4a65c_add_7a177 61 = .ok (.putfield 48, 3) := by decide +kernel
theorem dJx4a65c_add_7a177_64 : decode cJx4a65c_add_7a177 64 = .ok (.return_, 1) := by decide +kernel
theorem dJx4a65c_remove_915e3_0 : decode cJx4a65c_remove_915e3 0 = .ok (.iload_n 1, 1) := by decide +kernel
theorem dJx4a65c_remove_915e3_1 : decode cJx4a65c_remove_915e3 1 = .ok (.aload_n 0, 1) := by decide +kernel
theorem dJx4a65c_remove_915e3_2 : decode cJx4a65c_remove_915e3 2 = .ok (.getfield 48, 3) := by decide +kernel
theorem dJx4a65c_remove_915e3_5 : decode cJx4a65c_remove_915e3 5 = .ok (.invokestatic 118, 3) := by decide +kernel
theorem dJx4a65c_remove_915e3_8 : decode cJx4a65c_remove_915e3 8 = .ok (.pop, 1) := by decide +kernel
theorem dJx4a65c_remove_915e3_9 : decode cJx4a65c_remove_915e3 9 = .ok (.aload_n 0, 1) := by decide +kernel
theorem dJx4a65c_remove_915e3_10 : decode cJx4a65c_remove_915e3 10 = .ok (.getfield 9, 3) := by decide +kernel
theorem dJx4a65c_remove_915e3_13 : decode cJx4a65c_remove_915e3 13 = .ok (.astore_n 2, 1) := by decide +kernel
theorem dJx4a65c_remove_915e3_14 : decode cJx4a65c_remove_915e3 14 = .ok (.aload_n 2, 1) := by decide +kernel
theorem dJx4a65c_remove_915e3_15 : decode cJx4a65c_remove_915e3 15 = .ok (.iload_n 1, 1) := by decide +kernel
theorem dJx4a65c_remove_915e3_16 : decode cJx4a65c_remove_915e3 16 = .ok (.aaload, 1) := by decide +kernel
theorem dJx4a65c_remove_915e3_17 : decode cJx4a65c_remove_915e3 17 = .ok (.astore_n 3, 1) := by decide +kernel
theorem dJx4a65c_remove_915e3_18 : decode cJx4a65c_remove_915e3 18 = .ok (.aload_n 0, 1) := by decide +kernel
theorem dJx4a65c_remove_915e3_19 : decode cJx4a65c_remove_915e3 19 = .ok (.aload_n 2, 1) := by decide +kernel
theorem dJx4a65c_remove_915e3_20 : decode cJx4a65c_remove_915e3 20 = .ok (.iload_n 1, 1) := by decide +kernel
theorem dJx4a65c_remove_915e3_21 : decode cJx4a65c_remove_915e3 21 = .ok (.invokevirtual 144, 3) := by decide +kernel
theorem dJx4a65c_remove_915e3_24 : decode cJx4a65c_remove_915e3 24 = .ok (.aload_n 3, 1) := by decide +kernel
theorem dJx4a65c_remove_915e3_25 : decode cJx4a65c_remove_915e3 25 = .ok (.areturn, 1) := by decide +kernel
theorem dJx4a65c_fastRemove_b59b0_0 : decode cJx4a65c_fastRemove_b59b0 0 = .ok (.aload_n 0, 1) := by decide +kernel
theorem dJx4a65c_fastRemove_b59b0_1 : decode cJx4a65c_fastRemove_b59b0 1 = .ok (.dup, 1) := by decide +kernel
theorem dJx4a65c_fastRemove_b59b0_2 : decode cJx4a65c_fastRemove_b59b0 2 = .ok (.getfield 63, 3) := by decide +kernel
theorem dJx4a65c_fastRemove_b59b0_5 : decode cJx4a65c_fastRemove_b59b0 5 = .ok (.iconst 1, 1) := by decide +kernel
theorem dJx4a65c_fastRemove_b59b0_6 : decode cJx4a65c_fastRemove_b59b0 6 = .ok (.iadd, 1) := by decide +kernel
theorem dJx4a65c_fastRemove_b59b0_7 : decode cJx4a65c_fastRemove_b59b0 7 = .ok (.putfield 63, 3) := by decide +kernel
theorem dJx4a65c_fastRemove_b59b0_10 : decode cJx4a65c_fastRemove_b59b0 10 = .ok (.aload_n 0, 1) := by decide +kernel
theorem dJx4a65c_fastRemove_b59b0_11 : decode cJx4a65c_fastRemove_b59b0 11 = .ok (.getfield 48, 3) := by decide +kernel
theorem dJx4a65c_fastRemove_b59b0_14 : decode cJx4a65c_fastRemove_b59b0 14 = .ok (.iconst 1, 1) := by decide +kernel
theorem dJx4a65c_fastRemove_b59b0_15 : decode cJx4a65c_fastRemove_b59b0 15 = .ok (.isub, 1) := by decide +kernel
theorem dJx4a65c_fastRemove_b59b0_16 : decode cJx4a65c_fastRemove_b59b0 16 = .ok (.dup, 1) := by decide +kernel
theorem dJx4a65c_fastRemove_b59b0_17 : decode cJx4a65c_fastRemove_b59b0 17 = .ok (.istore_n 3, 1) := by decide +kernel
theorem dJx4a65c_fastRemove_b59b0_18 : decode cJx4a65c_fastRemove_b59b0 18 = .ok (.iload_n 2, 1) := by decide +kernel
theorem dJx4a65c_fastRemove_b59b0_19 : decode cJx4a65c_fastRemove_b59b0 19 = .ok (.if_icmp .le 15, 3) := by decide +kernel
theorem dJx4a65c_fastRemove_b59b0_22 : decode cJx4a65c_fastRemove_b59b0 22 = .ok (.aload_n 1, 1) := by decide +kernel
theorem dJx4a65c_fastRemove_b59b0_23 : decode cJx4a65c_fastRemove_b59b0 23 = .ok (.iload_n 2, 1) := by decide +kernel
theorem dJx4a65c_fastRemove_b59b0_24 : decode cJx4a65c_fastRemove_b59b0 24 = .ok (.iconst 1, 1) := by decide +kernel
theorem dJx4a65c_fastRemove_b59b0_25 : decode cJx4a65c_fastRemove_b59b0 25 = .ok (.iadd, 1) := by decide +kernel
theorem dJx4a65c_fastRemove_b59b0_26 : decode cJx4a65c_fastRemove_b59b0 26 = .ok (.aload_n 1, 1) := by decide +kernel
theorem dJx4a65c_fastRemove_b59b0_27 : decode cJx4a65c_fastRemove_b59b0 27 = .ok (.iload_n 2, 1) := by decide +kernel
theorem dJx4a65c_fastRemove_b59b0_28 : decode cJx4a65c_fastRemove_b59b0 28 = .ok (.iload_n 3, 1) := by decide +kernel
theorem dJx4a65c_fastRemove_b59b0_29 : decode cJx4a65c_fastRemove_b59b0 29 = .ok (.iload_n 2, 1) := by decide +kernel
theorem dJx4a65c_fastRemove_b59b0_30 : decode cJx4a65c_fastRemove_b59b0 30 = .ok (.isub, 1) := by decide +kernel
theorem dJx4a65c_fastRemove_b59b0_31 : decode cJx4a65c_fastRemove_b59b0 31 = .ok (.invokestatic 112, 3) := by decide +kernel
theorem dJx4a65c_fastRemove_b59b0_34 : decode cJx4a65c_fastRemove_b59b0 34 = .ok (.aload_n 1, 1) := by decide +kernel
theorem dJx4a65c_fastRemove_b59b0_35 : decode cJx4a65c_fastRemove_b59b0 35 = .ok (.aload_n 0, 1) := by decide +kernel
theorem dJx4a65c_fastRemove_b59b0_36 : decode cJx4a65c_fastRemove_b59b0 36 = .ok (.iload_n 3, 1) := by decide +kernel
theorem dJx4a65c_fastRemove_b59b0_37 : decode cJx4a65c_fastRemove_b59b0 37 = .ok (.dup_x1, 1) := by decide +kernel
theorem dJx4a65c_fastRemove_b59b0_38 : decode cJx4a65c_fastRemove_b59b0 38 = .ok (.putfield 48, 3) := by decide +kernel
theorem dJx4a65c_fastRemove_b59b0_41 : decode cJx4a65c_fastRemove_b59b0 41 = .ok (.aconst_null, 1) := by decide +kernel
theorem dJx4a65c_fastRemove_b59b0_42 : decode cJx4a65c_fastRemove_b59b0 42 = .ok (.aastore, 1) := by decide +kernel
theorem dJx4a65c_fastRemove_b59b0_43 : decode cJx4a65c_fastRemove_b59b0 43 = .ok (.return_, 1) := by decide +kernel
theorem dJx4a65c_clear_da8c8_0 : decode cJx4a65c_clear_da8c8 0 = .ok (.aload_n 0, 1) := by decide +kernel
theorem dJx4a65c_clear_da8c8_1 : decode cJx4a65c_clear_da8c8 1 = .ok (.dup, 1) := by decide +kernel
theorem dJx4a65c_clear_da8c8_2 : decode cJx4a65c_clear_da8c8 2 = .ok (.getfield 63, 3) := by decide +kernel
theorem dJx4a65c_clear_da8c8_5 : decode cJx4a65c_clear_da8c8 5 = .ok (.iconst 1, 1) := by decide +kernel
theorem dJx4a65c_clear_da8c8_6 : decode cJx4a65c_clear_da8c8 6 = .ok (.iadd, 1) := by decide +kernel
theorem dJx4a65c_clear_da8c8_7 : decode cJx4a65c_clear_da8c8 7 = .ok (.putfield 63, 3) := by decide +kernel
theorem dJx4a65c_clear_da8c8_10 : decode cJx4a65c_clear_da8c8 10 = .ok (.aload_n 0, 1) := by decide +kernel
theorem dJx4a65c_clear_da8c8_11 : decode cJx4a65c_clear_da8c8 11 = .ok (.getfield 9, 3) := by decide +kernel
theorem dJx4a65c_clear_da8c8_14 : decode cJx4a65c_clear_da8c8 14 = .ok (.astore_n 1, 1) := by decide +kernel
theorem dJx4a65c_clear_da8c8_15 : decode cJx4a65c_clear_da8c8 15 = .ok (.aload_n 0, 1) := by decide +kernel
theorem dJx4a65c_clear_da8c8_16 : decode cJx4a65c_clear_da8c8 16 = .ok (.getfield 48, 3) := by decide +kernel
theorem dJx4a65c_clear_da8c8_19 : decode cJx4a65c_clear_da8c8 19 = .ok (.istore_n 2, 1) := by decide +kernel
theorem dJx4a65c_clear_da8c8_20 : decode cJx4a65c_clear_da8c8 20 = .ok (.aload_n 0, 1) := by decide +kernel
theorem dJx4a65c_clear_da8c8_21 : decode cJx4a65c_clear_da8c8 21 = .ok (.iconst 0, 1) := by decide +kernel
theorem dJx4a65c_clear_da8c8_22 : decode cJx4a65c_clear_da8c8 22 = .ok (.dup_x1, 1) := by decide +kernel
theorem dJx4a65c_clear_da8c8_23 : decode cJx4a65c_clear_da8c8 23 = .ok (.putfield 48, 3) := by decide +kernel
theorem dJx4a65c_clear_da8c8_26 : decode cJx4a65c_clear_da8c8 26 = .ok (.istore_n 3, 1) := by decide +kernel
theorem dJx4a65c_clear_da8c8_27 : decode cJx4a65c_clear_da8c8 27 = .ok (.iload_n 3, 1) := by decide +kernel
theorem dJx4a65c_clear_da8c8_28 : decode cJx4a65c_clear_da8c8 28 = .ok (.iload_n 2, 1) := by decide +kernel
theorem dJx4a65c_clear_da8c8_29 : decode cJx4a65c_clear_da8c8 29 = .ok (.if_icmp .ge 13, 3) := by decide +kernel
theorem dJx4a65c_clear_da8c8_32 : decode cJx4a65c_clear_da8c8 32 = .ok (.aload_n 1, 1) := by decide +kernel
theorem dJx4a65c_clear_da8c8_33 : decode cJx4a65c_clear_da8c8 33 = .ok (.iload_n 3, 1) := by decide +kernel
theorem dJx4a65c_clear_da8c8_34 : decode cJx4a65c_clear_da8c8 34 = .ok (.aconst_null, 1) := by decide +kernel
theorem dJx4a65c_clear_da8c8_35 : decode cJx4a65c_clear_da8c8 35 = .ok (.aastore, 1) := by decide +kernel
theorem dJx4a65c_clear_da8c8_36 : decode cJx4a65c_clear_da8c8 36 = .ok (.iinc 3 1, 3) := by decide +kernel
theorem dJx4a65c_clear_da8c8_39 : decode cJx4a65c_clear_da8c8 39 = .ok (.goto (-12), 3) := by decide +kernel
theorem dJx4a65c_clear_da8c8_42 : decode cJx4a65c_clear_da8c8 42 = .ok (.return_, 1) := by decide +kernel
theorem dJx4a65c_rangeCheckForAdd_d00df_0 : decode cJx4a65c_rangeCheckForAdd_d00df 0 = .ok (.iload_n 1, 1) := by decide +kernel
theorem dJx4a65c_rangeCheckForAdd_d00df_1 : decode cJx4a65c_rangeCheckForAdd_d00df 1 = .ok (.aload_n 0, 1) := by decide +kernel
theorem dJx4a65c_rangeCheckForAdd_d00df_2 : decode cJx4a65c_rangeCheckForAdd_d00df 2 = .ok (.getfield 48, 3) := by decide +kernel
theorem dJx4a65c_rangeCheckForAdd_d00df_5 : decode cJx4a65c_rangeCheckForAdd_d00df 5 = .ok (.if_icmp .gt 7, 3) := by decide +kernel
theorem dJx4a65c_rangeCheckForAdd_d00df_8 : decode cJx4a65c_rangeCheckForAdd_d00df 8 = .ok (.iload_n 1, 1) := by decide +kernel
theorem dJx4a65c_rangeCheckForAdd_d00df_9 : decode cJx4a65c_rangeCheckForAdd_d00df 9 = .ok (.ifCond .ge 16, 3) := by decide +kernel
theorem dJx4a65c_rangeCheckForAdd_d00df_12 : decode cJx4a65c_rangeCheckForAdd_d00df 12 = .ok (.new 187, 3) := by decide +kernel
theorem dJx4a65c_rangeCheckForAdd_d00df_15 : decode cJx4a65c_rangeCheckForAdd_d00df 15 = .ok (.dup, 1) := by decide +kernel
theorem dJx4a65c_rangeCheckForAdd_d00df_16 : decode cJx4a65c_rangeCheckForAdd_d00df 16 = .ok (.aload_n 0, 1) := by decide +kernel
theorem dJx4a65c_rangeCheckForAdd_d00df_17 : decode cJx4a65c_rangeCheckForAdd_d00df 17 = .ok (.iload_n 1, 1) := by decide +kernel
theorem dJx4a65c_rangeCheckForAdd_d00df_18 : decode cJx4a65c_rangeCheckForAdd_d00df 18 = .ok (.invokevirtual 198, 3) := by decide +kernel
theorem dJx4a65c_rangeCheckForAdd_d00df_21 : decode cJx4a65c_rangeCheckForAdd_d00df 21 = .ok (.invokespecial 193, 3) := by decide +kernel
theorem dJx4a65c_rangeCheckForAdd_d00df_24 : decode cJx4a65c_rangeCheckForAdd_d00df 24 = .ok (.athrow, 1) := by decide +kernel
theorem dJx4a65c_rangeCheckForAdd_d00df_25 : decode cJx4a65c_rangeCheckForAdd_d00df 25 = .ok (.return_, 1) := by decide +kernel
theorem dJ7_copyOf_1904c_0 : decode cJ7_copyOf_1904c 0 = .ok (.aload_n 0, 1) := by decide +kernel
theorem dJ7_copyOf_1904c_1 : decode cJ7_copyOf_1904c 1 = .ok (.iload_n 1, 1) := by decide +kernel
theorem dJ7_copyOf_1904c_2 : decode cJ7_copyOf_1904c 2 = .ok (.aload_n 0, 1) := by decide +kernel
theorem dJ7_copyOf_1904c_3 : decode cJ7_copyOf_1904c 3 = .ok (.invokevirtual 86, 3) := by decide +kernel
theorem dJ7_copyOf_1904c_6 : decode cJ7_copyOf_1904c 6 = .ok (.invokestatic 300, 3) := by decide +kernel
theorem dJ7_copyOf_1904c_9 : decode cJ7_copyOf_1904c 9 = .ok (.areturn, 1) := by decide +kernel
theorem dJ7_copyOf_6403c_0 : decode cJ7_copyOf_6403c 0 = .ok (.aload_n 2, 1) := by decide +kernel
theorem dJ7_copyOf_6403c_1 : decode cJ7_copyOf_6403c 1 = .ok (.ldc 110, 2) := by decide +kernel
theorem dJ7_copyOf_6403c_3 : decode cJ7_copyOf_6403c 3 = .ok (.if_acmp .ne 10, 3) := by decide +kernel
theorem dJ7_copyOf_6403c_6 : decode cJ7_copyOf_6403c 6 = .ok (.iload_n 1, 1) := by decide +kernel
theorem dJ7_copyOf_6403c_7 : decode cJ7_copyOf_6403c 7 = .ok (.anewarray 2, 3) := by decide +kernel
theorem dJ7_copyOf_6403c_10 : decode cJ7_copyOf_6403c 10 = .ok (.goto 14, 3) := by decide +kernel
theorem dJ7_copyOf_6403c_13 : decode cJ7_copyOf_6403c 13 = .ok (.aload_n 2, 1) := by decide +kernel
theorem dJ7_copyOf_6403c_14 : decode cJ7_copyOf_6403c 14 = .ok (.invokevirtual 90, 3) := by decide +kernel
theorem dJ7_copyOf_6403c_17 : decode cJ7_copyOf_6403c 17 = .ok (.iload_n 1, 1) := by decide +kernel
theorem dJ7_copyOf_6403c_18 : decode cJ7_copyOf_6403c 18 = .ok (.invokestatic 95, 3) := by decide +kernel
theorem dJ7_copyOf_6403c_21 : decode cJ7_copyOf_6403c 21 = .ok (.checkcast 110, 3) := by decide +kernel
theorem dJ7_copyOf_6403c_24 : decode cJ7_copyOf_6403c 24 = .ok (.astore_n 3, 1) := by decide +kernel
theorem dJ7_copyOf_6403c_25 : decode cJ7_copyOf_6403c 25 = .ok (.aload_n 0, 1) := by decide +kernel
theorem dJ7_copyOf_6403c_26 : decode cJ7_copyOf_6403c 26 = .ok (.iconst 0, 1) := by decide +kernel
theorem dJ7_copyOf_6403c_27 : decode cJ7_copyOf_6403c 27 = .ok (.aload_n 3, 1) := by decide +kernel
theorem dJ7_copyOf_6403c_28 : decode cJ7_copyOf_6403c 28 = .ok (.iconst 0, 1) := by decide +kernel
theorem dJ7_copyOf_6403c_29 : decode cJ7_copyOf_6403c 29 = .ok (.aload_n 0, 1) := by decide +kernel
theorem dJ7_copyOf_6403c_30 : decode cJ7_copyOf_6403c 30 = .ok (.arraylength, 1) := by decide +kernel
theorem dJ7_copyOf_6403c_31 : decode cJ7_copyOf_6403c 31 = .ok (.iload_n 1, 1) := by decide +kernel
theorem dJ7_copyOf_6403c_32 : decode cJ7_copyOf_6403c 32 = .ok (.invokestatic 304, 3) := by decide +kernel
theorem dJ7_copyOf_6403c_35 : decode cJ7_copyOf_6403c 35 = .ok (.invokestatic 150, 3) := by decide +kernel
theorem dJ7_copyOf_6403c_38 : decode cJ7_copyOf_6403c 38 = .ok (.aload_n 3, 1) := by decide +kernel
theorem dJ7_copyOf_6403c_39 : decode cJ7_copyOf_6403c 39 = .ok (.areturn, 1) := by decide +kernel
theorem dJ7_copyOf_9075b_0 : decode cJ7_copyOf_9075b 0 = .ok (.iload_n 1, 1) := by decide +kernel
theorem dJ7_copyOf_9075b_1 : decode cJ7_copyOf_9075b 1 = .ok (.aload_n 0, 1) := by decide +kernel
theorem dJ7_copyOf_9075b_2 : decode cJ7_copyOf_9075b 2 = .ok (.arraylength, 1) := by decide +kernel
theorem dJ7_copyOf_9075b_3 : decode cJ7_copyOf_9075b 3 = .ok (.if_icmp .ne 11, 3) := by decide +kernel
theorem dJ7_copyOf_9075b_6 : decode cJ7_copyOf_9075b 6 = .ok (.aload_n 0, 1) := by decide +kernel
theorem dJ7_copyOf_9075b_7 : decode cJ7_copyOf_9075b 7 = .ok (.invokevirtual 310, 3) := by decide +kernel
theorem dJ7_copyOf_9075b_10 : decode cJ7_copyOf_9075b 10 = .ok (.checkcast 311, 3) := by decide +kernel
theorem dJ7_copyOf_9075b_13 : decode cJ7_copyOf_9075b 13 = .ok (.areturn, 1) := by decide +kernel
theorem dJ7_copyOf_9075b_14 : decode cJ7_copyOf_9075b 14 = .ok (.iload_n 1, 1) := by decide +kernel
theorem dJ7_copyOf_9075b_15 : decode cJ7_copyOf_9075b 15 = .ok (.newarray .byte, 2) := by decide +kernel
theorem dJ7_copyOf_9075b_17 : decode cJ7_copyOf_9075b 17 = .ok (.astore_n 2, 1) := by decide +kernel
theorem dJ7_copyOf_9075b_18 : decode cJ7_copyOf_9075b 18 = .ok (.aload_n 0, 1) := by decide +kernel
theorem dJ7_copyOf_9075b_19 : decode cJ7_copyOf_9075b 19 = .ok (.iconst 0, 1) := by decide +kernel
theorem dJ7_copyOf_9075b_20 : decode cJ7_copyOf_9075b 20 = .ok (.aload_n 2, 1) := by decide +kernel
theorem dJ7_copyOf_9075b_21 : decode cJ7_copyOf_9075b 21 = .ok (.iconst 0, 1) := by decide +kernel
theorem dJ7_copyOf_9075b_22 : decode cJ7_copyOf_9075b 22 = .ok (.aload_n 0, 1) := by decide +kernel
theorem dJ7_copyOf_9075b_23 : decode cJ7_copyOf_9075b 23 = .ok (.arraylength, 1) := by decide +kernel
theorem dJ7_copyOf_9075b_24 : decode cJ7_copyOf_9075b 24 = .ok (.iload_n 1, 1) := by decide +kernel
theorem dJ7_copyOf_9075b_25 : decode cJ7_copyOf_9075b 25 = .ok (.invokestatic 304, 3) := by decide +kernel
theorem dJ7_copyOf_9075b_28 : decode cJ7_copyOf_9075b 28 = .ok (.invokestatic 150, 3) := by decide +kernel
theorem dJ7_copyOf_9075b_31 : decode cJ7_copyOf_9075b 31 = .ok (.aload_n 2, 1) := by decide +kernel
theorem dJ7_copyOf_9075b_32 : decode cJ7_copyOf_9075b 32 = .ok (.areturn, 1) := by decide +kernel
theorem dJ15_checkIndex_7cf53_0 : decode cJ15_checkIndex_7cf53 0 = .ok (.iload_n 0, 1) := by decide +kernel
theorem dJ15_checkIndex_7cf53_1 : decode cJ15_checkIndex_7cf53 1 = .ok (.iload_n 1, 1) := by decide +kernel
theorem dJ15_checkIndex_7cf53_2 : decode cJ15_checkIndex_7cf53 2 = .ok (.aconst_null, 1) := by decide +kernel
theorem dJ15_checkIndex_7cf53_3 : decode cJ15_checkIndex_7cf53 3 = .ok (.invokestatic 105, 3) := by decide +kernel
theorem dJ15_checkIndex_7cf53_6 : decode cJ15_checkIndex_7cf53 6 = .ok (.ireturn, 1) := by decide +kernel
theorem dJ8_newLength_cabcc_0 : decode cJ8_newLength_cabcc 0 = .ok (.iload_n 0, 1) := by decide +kernel
theorem dJ8_newLength_cabcc_1 : decode cJ8_newLength_cabcc 1 = .ok (.iload_n 1, 1) := by decide +kernel
theorem dJ8_newLength_cabcc_2 : decode cJ8_newLength_cabcc 2 = .ok (.iload_n 2, 1) := by decide +kernel
theorem dJ8_newLength_cabcc_3 : decode cJ8_newLength_cabcc 3 = .ok (.invokestatic 194, 3) := by decide +kernel
theorem dJ8_newLength_cabcc_6 : decode cJ8_newLength_cabcc 6 = .ok (.iadd, 1) := by decide +kernel
theorem dJ8_newLength_cabcc_7 : decode cJ8_newLength_cabcc 7 = .ok (.istore_n 3, 1) := by decide +kernel
theorem dJ8_newLength_cabcc_8 : decode cJ8_newLength_cabcc 8 = .ok (.iconst 0, 1) := by decide +kernel
theorem dJ8_newLength_cabcc_9 : decode cJ8_newLength_cabcc 9 = .ok (.iload_n 3, 1) := by decide +kernel
theorem dJ8_newLength_cabcc_10 : decode cJ8_newLength_cabcc 10 = .ok (.if_icmp .ge 11, 3) := by decide +kernel
theorem dJ8_newLength_cabcc_13 : decode cJ8_newLength_cabcc 13 = .ok (.iload_n 3, 1) := by decide +kernel
theorem dJ8_newLength_cabcc_14 : decode cJ8_newLength_cabcc 14 = .ok (.ldc 200, 2) := by decide +kernel
theorem dJ8_newLength_cabcc_16 : decode cJ8_newLength_cabcc 16 = .ok (.if_icmp .gt 5, 3) := by decide +kernel
theorem dJ8_newLength_cabcc_19 : decode cJ8_newLength_cabcc 19 = .ok (.iload_n 3, 1) := by decide +kernel
theorem dJ8_newLength_cabcc_20 : decode cJ8_newLength_cabcc 20 = .ok (.ireturn, 1) := by decide +kernel
theorem dJ8_newLength_cabcc_21 : decode cJ8_newLength_cabcc 21 = .ok (.iload_n 0, 1) := by decide +kernel
theorem dJ8_newLength_cabcc_22 : decode cJ8_newLength_cabcc 22 = .ok (.iload_n 1, 1) := by decide +kernel
theorem dJ8_newLength_cabcc_23 : decode cJ8_newLength_cabcc 23 = .ok (.invokestatic 201, 3) := by decide +kernel
theorem dJ8_newLength_cabcc_26 : decode cJ8_newLength_cabcc 26 = .ok (.ireturn, 1) := by decide +kernel
theorem dJ3_checkIndex_8e157_0 : decode cJ3_checkIndex_8e157 0 = .ok (.iload_n 0, 1) := by decide +kernel
theorem dJ3_checkIndex_8e157_1 : decode cJ3_checkIndex_8e157 1 = .ok (.ifCond .lt 8, 3) := by decide +kernel
theorem dJ3_checkIndex_8e157_4 : decode cJ3_checkIndex_8e157 4 = .ok (.iload_n 0, 1) := by decide +kernel
theorem dJ3_checkIndex_8e157_5 : decode cJ3_checkIndex_8e157 5 = .ok (.iload_n 1, 1) := by decide +kernel
theorem dJ3_checkIndex_8e157_6 : decode cJ3_checkIndex_8e157 6 = .ok (.if_icmp .lt 10, 3) := by decide +kernel
theorem dJ3_checkIndex_8e157_9 : decode cJ3_checkIndex_8e157 9 = .ok (.aload_n 2, 1) := by decide +kernel
theorem dJ3_checkIndex_8e157_10 : decode cJ3_checkIndex_8e157 10 = .ok (.iload_n 0, 1) := by decide +kernel
theorem dJ3_checkIndex_8e157_11 : decode cJ3_checkIndex_8e157 11 = .ok (.iload_n 1, 1) := by decide +kernel
theorem dJ3_checkIndex_8e157_12 : decode cJ3_checkIndex_8e157 12 = .ok (.invokestatic 95, 3) := by decide +kernel
theorem dJ3_checkIndex_8e157_15 : decode cJ3_checkIndex_8e157 15 = .ok (.athrow, 1) := by decide +kernel
theorem dJ3_checkIndex_8e157_16 : decode cJ3_checkIndex_8e157 16 = .ok (.iload_n 0, 1) := by decide +kernel
theorem dJ3_checkIndex_8e157_17 : decode cJ3_checkIndex_8e157 17 = .ok (.ireturn, 1) := by decide +kernel
