theorem dX0_init_0 : decode cX0_init 0 = .ok (.aload_n 0, 1) := by decide +kernel
theorem dX0_init_1 : decode cX0_init 1 = .ok (.invokespecial 3, 3) := by decide +kernel
theorem dX0_init_4 : decode cX0_init 4 = .ok (.aload_n 0, 1) := by decide +kernel
theorem dX0_init_5 : decode cX0_init 5 = .ok (.sipush 384, 3) := by decide +kernel
theorem dX0_init_8 : decode cX0_init 8 = .ok (.newarray .int, 2) := by decide +kernel
theorem dX0_init_10 : decode cX0_init 10 = .ok (.putfield 9, 3) := by decide +kernel
theorem dX0_init_13 : decode cX0_init 13 = .ok (.return_, 1) := by decide +kernel
theorem dX0_roundTrip_0 : decode cX0_roundTrip 0 = .ok (.iload_n 2, 1) := by decide +kernel
theorem dX0_roundTrip_1 : decode cX0_roundTrip 1 = .ok (.ifCond .ne 5, 3) := by decide +kernel
theorem dX0_roundTrip_4 : decode cX0_roundTrip 4 = .ok (.iconst 0, 1) := by decide +kernel
theorem dX0_roundTrip_5 : decode cX0_roundTrip 5 = .ok (.ireturn, 1) := by decide +kernel
theorem dX0_roundTrip_6 : decode cX0_roundTrip 6 = .ok (.iconst 1, 1) := by decide +kernel
theorem dX0_roundTrip_7 : decode cX0_roundTrip 7 = .ok (.istore_n 3, 1) := by decide +kernel
theorem dX0_roundTrip_8 : decode cX0_roundTrip 8 = .ok (.iload_n 3, 1) := by decide +kernel
theorem dX0_roundTrip_9 : decode cX0_roundTrip 9 = .ok (.bipush 64, 2) := by decide +kernel
theorem dX0_roundTrip_11 : decode cX0_roundTrip 11 = .ok (.if_icmp .ge 23, 3) := by decide +kernel
theorem dX0_roundTrip_14 : decode cX0_roundTrip 14 = .ok (.iload_n 3, 1) := by decide +kernel
theorem dX0_roundTrip_15 : decode cX0_roundTrip 15 = .ok (.iload_n 2, 1) := by decide +kernel
theorem dX0_roundTrip_16 : decode cX0_roundTrip 16 = .ok (.iconst (-1), 1) := by decide +kernel
theorem dX0_roundTrip_17 : decode cX0_roundTrip 17 = .ok (.ixor, 1) := by decide +kernel
theorem dX0_roundTrip_18 : decode cX0_roundTrip 18 = .ok (.iand, 1) := by decide +kernel
theorem dX0_roundTrip_19 : decode cX0_roundTrip 19 = .ok (.ifCond .ne 9, 3) := by decide +kernel
theorem dX0_roundTrip_22 : decode cX0_roundTrip 22 = .ok (.aload_n 0, 1) := by decide +kernel
theorem dX0_roundTrip_23 : decode cX0_roundTrip 23 = .ok (.aload_n 1, 1) := by decide +kernel
theorem dX0_roundTrip_24 : decode cX0_roundTrip 24 = .ok (.iload_n 3, 1) := by decide +kernel
theorem dX0_roundTrip_25 : decode cX0_roundTrip 25 = .ok (.invokevirtual 15, 3) := by decide +kernel
theorem dX0_roundTrip_28 : decode cX0_roundTrip 28 = .ok (.iinc 3 1, 3) := by decide +kernel
theorem dX0_roundTrip_31 : decode cX0_roundTrip 31 = .ok (.goto (-23), 3) := by decide +kernel
theorem dX0_roundTrip_34 : decode cX0_roundTrip 34 = .ok (.ldc 19, 2) := by decide +kernel
theorem dX0_roundTrip_36 : decode cX0_roundTrip 36 = .ok (.istore_n 3, 1) := by decide +kernel
theorem dX0_roundTrip_37 : decode cX0_roundTrip 37 = .ok (.iconst 0, 1) := by decide +kernel
theorem dX0_roundTrip_38 : decode cX0_roundTrip 38 = .ok (.istore 4, 2) := by decide +kernel
theorem dX0_roundTrip_40 : decode cX0_roundTrip 40 = .ok (.iload 4, 2) := by decide +kernel
theorem dX0_roundTrip_42 : decode cX0_roundTrip 42 = .ok (.bipush 6, 2) := by decide +kernel
theorem dX0_roundTrip_44 : decode cX0_roundTrip 44 = .ok (.if_icmp .ge 28, 3) := by decide +kernel
theorem dX0_roundTrip_47 : decode cX0_roundTrip 47 = .ok (.iload_n 3, 1) := by decide +kernel
theorem dX0_roundTrip_48 : decode cX0_roundTrip 48 = .ok (.aload_n 0, 1) := by decide +kernel
theorem dX0_roundTrip_49 : decode cX0_roundTrip 49 = .ok (.iload_n 2, 1) := by decide +kernel
theorem dX0_roundTrip_50 : decode cX0_roundTrip 50 = .ok (.iload 4, 2) := by decide +kernel
theorem dX0_roundTrip_52 : decode cX0_roundTrip 52 = .ok (.invokevirtual 20, 3) := by decide +kernel
theorem dX0_roundTrip_55 : decode cX0_roundTrip 55 = .ok (.aload_n 1, 1) := by decide +kernel
theorem dX0_roundTrip_56 : decode cX0_roundTrip 56 = .ok (.iload 4, 2) := by decide +kernel
theorem dX0_roundTrip_58 : decode cX0_roundTrip 58 = .ok (.invokevirtual 24, 3) := by decide +kernel
theorem dX0_roundTrip_61 : decode cX0_roundTrip 61 = .ok (.iadd, 1) := by decide +kernel
theorem dX0_roundTrip_62 : decode cX0_roundTrip 62 = .ok (.invokestatic 30, 3) := by decide +kernel
theorem dX0_roundTrip_65 : decode cX0_roundTrip 65 = .ok (.istore_n 3, 1) := by decide +kernel
theorem dX0_roundTrip_66 : decode cX0_roundTrip 66 = .ok (.iinc 4 1, 3) := by decide +kernel
theorem dX0_roundTrip_69 : decode cX0_roundTrip 69 = .ok (.goto (-29), 3) := by decide +kernel
theorem dX0_roundTrip_72 : decode cX0_roundTrip 72 = .ok (.iload_n 3, 1) := by decide +kernel
theorem dX0_roundTrip_73 : decode cX0_roundTrip 73 = .ok (.ireturn, 1) := by decide +kernel
theorem dX0_putWays_0 : decode cX0_putWays 0 = .ok (.iconst 0, 1) := by decide +kernel
theorem dX0_putWays_1 : decode cX0_putWays 1 = .ok (.istore_n 3, 1) := by decide +kernel
theorem dX0_putWays_2 : decode cX0_putWays 2 = .ok (.iload_n 3, 1) := by decide +kernel
theorem dX0_putWays_3 : decode cX0_putWays 3 = .ok (.bipush 6, 2) := by decide +kernel
theorem dX0_putWays_5 : decode cX0_putWays 5 = .ok (.if_icmp .ge 46, 3) := by decide +kernel
theorem dX0_putWays_8 : decode cX0_putWays 8 = .ok (.iload_n 2, 1) := by decide +kernel
theorem dX0_putWays_9 : decode cX0_putWays 9 = .ok (.bipush 6, 2) := by decide +kernel
theorem dX0_putWays_11 : decode cX0_putWays 11 = .ok (.imul, 1) := by decide +kernel
theorem dX0_putWays_12 : decode cX0_putWays 12 = .ok (.iload_n 3, 1) := by decide +kernel
theorem dX0_putWays_13 : decode cX0_putWays 13 = .ok (.iadd, 1) := by decide +kernel
theorem dX0_putWays_14 : decode cX0_putWays 14 = .ok (.istore 4, 2) := by decide +kernel
theorem dX0_putWays_16 : decode cX0_putWays 16 = .ok (.iload 4, 2) := by decide +kernel
theorem dX0_putWays_18 : decode cX0_putWays 18 = .ok (.ifCond .lt 27, 3) := by decide +kernel
theorem dX0_putWays_21 : decode cX0_putWays 21 = .ok (.iload 4, 2) := by decide +kernel
theorem dX0_putWays_23 : decode cX0_putWays 23 = .ok (.aload_n 0, 1) := by decide +kernel
theorem dX0_putWays_24 : decode cX0_putWays 24 = .ok (.getfield 9, 3) := by decide +kernel
theorem dX0_putWays_27 : decode cX0_putWays 27 = .ok (.arraylength, 1) := by decide +kernel
theorem dX0_putWays_28 : decode cX0_putWays 28 = .ok (.if_icmp .ge 17, 3) := by decide +kernel
theorem dX0_putWays_31 : decode cX0_putWays 31 = .ok (.aload_n 0, 1) := by decide +kernel
theorem dX0_putWays_32 : decode cX0_putWays 32 = .ok (.getfield 9, 3) := by decide +kernel
theorem dX0_putWays_35 : decode cX0_putWays 35 = .ok (.iload 4, 2) := by decide +kernel
theorem dX0_putWays_37 : decode cX0_putWays 37 = .ok (.aload_n 0, 1) := by decide +kernel
theorem dX0_putWays_38 : decode cX0_putWays 38 = .ok (.aload_n 1, 1) := by decide +kernel
theorem dX0_putWays_39 : decode cX0_putWays 39 = .ok (.iload_n 2, 1) := by decide +kernel
theorem dX0_putWays_40 : decode cX0_putWays 40 = .ok (.iload_n 3, 1) := by decide +kernel
theorem dX0_putWays_41 : decode cX0_putWays 41 = .ok (.invokevirtual 35, 3) := by decide +kernel
theorem dX0_putWays_44 : decode cX0_putWays 44 = .ok (.iastore, 1) := by decide +kernel
theorem dX0_putWays_45 : decode cX0_putWays 45 = .ok (.iinc 3 1, 3) := by decide +kernel
theorem dX0_putWays_48 : decode cX0_putWays 48 = .ok (.goto (-46), 3) := by decide +kernel
theorem dX0_putWays_51 : decode cX0_putWays 51 = .ok (.return_, 1) := by decide +kernel
theorem dX0_leastWay_0 : decode cX0_leastWay 0 = .ok (.iload_n 2, 1) := by decide +kernel
theorem dX0_leastWay_1 : decode cX0_leastWay 1 = .ok (.iload_n 3, 1) := by decide +kernel
theorem dX0_leastWay_2 : decode cX0_leastWay 2 = .ok (.ishr, 1) := by decide +kernel
theorem dX0_leastWay_3 : decode cX0_leastWay 3 = .ok (.iconst 1, 1) := by decide +kernel
theorem dX0_leastWay_4 : decode cX0_leastWay 4 = .ok (.iand, 1) := by decide +kernel
theorem dX0_leastWay_5 : decode cX0_leastWay 5 = .ok (.ifCond .ne 6, 3) := by decide +kernel
theorem dX0_leastWay_8 : decode cX0_leastWay 8 = .ok (.ldc 19, 2) := by decide +kernel
theorem dX0_leastWay_10 : decode cX0_leastWay 10 = .ok (.ireturn, 1) := by decide +kernel
theorem dX0_leastWay_11 : decode cX0_leastWay 11 = .ok (.iload_n 2, 1) := by decide +kernel
theorem dX0_leastWay_12 : decode cX0_leastWay 12 = .ok (.iconst 1, 1) := by decide +kernel
theorem dX0_leastWay_13 : decode cX0_leastWay 13 = .ok (.iload_n 3, 1) := by decide +kernel
theorem dX0_leastWay_14 : decode cX0_leastWay 14 = .ok (.ishl, 1) := by decide +kernel
theorem dX0_leastWay_15 : decode cX0_leastWay 15 = .ok (.iconst (-1), 1) := by decide +kernel
theorem dX0_leastWay_16 : decode cX0_leastWay 16 = .ok (.ixor, 1) := by decide +kernel
theorem dX0_leastWay_17 : decode cX0_leastWay 17 = .ok (.iand, 1) := by decide +kernel
theorem dX0_leastWay_18 : decode cX0_leastWay 18 = .ok (.istore 4, 2) := by decide +kernel
theorem dX0_leastWay_20 : decode cX0_leastWay 20 = .ok (.iload 4, 2) := by decide +kernel
theorem dX0_leastWay_22 : decode cX0_leastWay 22 = .ok (.ifCond .ne 9, 3) := by decide +kernel
theorem dX0_leastWay_25 : decode cX0_leastWay 25 = .ok (.aload_n 1, 1) := by decide +kernel
theorem dX0_leastWay_26 : decode cX0_leastWay 26 = .ok (.iload_n 3, 1) := by decide +kernel
theorem dX0_leastWay_27 : decode cX0_leastWay 27 = .ok (.invokevirtual 24, 3) := by decide +kernel
theorem dX0_leastWay_30 : decode cX0_leastWay 30 = .ok (.ireturn, 1) := by decide +kernel
theorem dX0_leastWay_31 : decode cX0_leastWay 31 = .ok (.ldc 19, 2) := by decide +kernel
theorem dX0_leastWay_33 : decode cX0_leastWay 33 = .ok (.istore 5, 2) := by decide +kernel
theorem dX0_leastWay_35 : decode cX0_leastWay 35 = .ok (.iconst 0, 1) := by decide +kernel
theorem dX0_leastWay_36 : decode cX0_leastWay 36 = .ok (.istore 6, 2) := by decide +kernel
theorem dX0_leastWay_38 : decode cX0_leastWay 38 = .ok (.iload 6, 2) := by decide +kernel
theorem dX0_leastWay_40 : decode cX0_leastWay 40 = .ok (.bipush 6, 2) := by decide +kernel
theorem dX0_leastWay_42 : decode cX0_leastWay 42 = .ok (.if_icmp .ge 32, 3) := by decide +kernel
theorem dX0_leastWay_45 : decode cX0_leastWay 45 = .ok (.iload 5, 2) := by decide +kernel
theorem dX0_leastWay_47 : decode cX0_leastWay 47 = .ok (.aload_n 0, 1) := by decide +kernel
theorem dX0_leastWay_48 : decode cX0_leastWay 48 = .ok (.iload 4, 2) := by decide +kernel
theorem dX0_leastWay_50 : decode cX0_leastWay 50 = .ok (.iload 6, 2) := by decide +kernel
theorem dX0_leastWay_52 : decode cX0_leastWay 52 = .ok (.invokevirtual 20, 3) := by decide +kernel
theorem dX0_leastWay_55 : decode cX0_leastWay 55 = .ok (.aload_n 1, 1) := by decide +kernel
theorem dX0_leastWay_56 : decode cX0_leastWay 56 = .ok (.iload 6, 2) := by decide +kernel
theorem dX0_leastWay_58 : decode cX0_leastWay 58 = .ok (.iload_n 3, 1) := by decide +kernel
theorem dX0_leastWay_59 : decode cX0_leastWay 59 = .ok (.invokevirtual 39, 3) := by decide +kernel
theorem dX0_leastWay_62 : decode cX0_leastWay 62 = .ok (.iadd, 1) := by decide +kernel
theorem dX0_leastWay_63 : decode cX0_leastWay 63 = .ok (.invokestatic 30, 3) := by decide +kernel
theorem dX0_leastWay_66 : decode cX0_leastWay 66 = .ok (.istore 5, 2) := by decide +kernel
theorem dX0_leastWay_68 : decode cX0_leastWay 68 = .ok (.iinc 6 1, 3) := by decide +kernel
theorem dX0_leastWay_71 : decode cX0_leastWay 71 = .ok (.goto (-33), 3) := by decide +kernel
theorem dX0_leastWay_74 : decode cX0_leastWay 74 = .ok (.iload 5, 2) := by decide +kernel
theorem dX0_leastWay_76 : decode cX0_leastWay 76 = .ok (.ireturn, 1) := by decide +kernel
theorem dX0_wayBy_0 : decode cX0_wayBy 0 = .ok (.iload_n 1, 1) := by decide +kernel
theorem dX0_wayBy_1 : decode cX0_wayBy 1 = .ok (.bipush 6, 2) := by decide +kernel
theorem dX0_wayBy_3 : decode cX0_wayBy 3 = .ok (.imul, 1) := by decide +kernel
theorem dX0_wayBy_4 : decode cX0_wayBy 4 = .ok (.iload_n 2, 1) := by decide +kernel
theorem dX0_wayBy_5 : decode cX0_wayBy 5 = .ok (.iadd, 1) := by decide +kernel
theorem dX0_wayBy_6 : decode cX0_wayBy 6 = .ok (.istore_n 3, 1) := by decide +kernel
theorem dX0_wayBy_7 : decode cX0_wayBy 7 = .ok (.iload_n 3, 1) := by decide +kernel
theorem dX0_wayBy_8 : decode cX0_wayBy 8 = .ok (.ifCond .lt 12, 3) := by decide +kernel
theorem dX0_wayBy_11 : decode cX0_wayBy 11 = .ok (.iload_n 3, 1) := by decide +kernel
theorem dX0_wayBy_12 : decode cX0_wayBy 12 = .ok (.aload_n 0, 1) := by decide +kernel
theorem dX0_wayBy_13 : decode cX0_wayBy 13 = .ok (.getfield 9, 3) := by decide +kernel
theorem dX0_wayBy_16 : decode cX0_wayBy 16 = .ok (.arraylength, 1) := by decide +kernel
theorem dX0_wayBy_17 : decode cX0_wayBy 17 = .ok (.if_icmp .lt 8, 3) := by decide +kernel
theorem dX0_wayBy_20 : decode cX0_wayBy 20 = .ok (.ldc 19, 2) := by decide +kernel
theorem dX0_wayBy_22 : decode cX0_wayBy 22 = .ok (.goto 9, 3) := by decide +kernel
theorem dX0_wayBy_25 : decode cX0_wayBy 25 = .ok (.aload_n 0, 1) := by decide +kernel
theorem dX0_wayBy_26 : decode cX0_wayBy 26 = .ok (.getfield 9, 3) := by decide +kernel
theorem dX0_wayBy_29 : decode cX0_wayBy 29 = .ok (.iload_n 3, 1) := by decide +kernel
theorem dX0_wayBy_30 : decode cX0_wayBy 30 = .ok (.iaload, 1) := by decide +kernel
theorem dX0_wayBy_31 : decode cX0_wayBy 31 = .ok (.ireturn, 1) := by decide +kernel
theorem dX1_init_0 : decode cX1_init 0 = .ok (.aload_n 0, 1) := by decide +kernel
theorem dX1_init_1 : decode cX1_init 1 = .ok (.iload_n 1, 1) := by decide +kernel
theorem dX1_init_2 : decode cX1_init 2 = .ok (.iload_n 2, 1) := by decide +kernel
theorem dX1_init_3 : decode cX1_init 3 = .ok (.iload_n 3, 1) := by decide +kernel
theorem dX1_init_4 : decode cX1_init 4 = .ok (.invokespecial 1, 3) := by decide +kernel
theorem dX1_init_7 : decode cX1_init 7 = .ok (.return_, 1) := by decide +kernel
theorem dX1_kind_0 : decode cX1_kind 0 = .ok (.iconst 3, 1) := by decide +kernel
theorem dX1_kind_1 : decode cX1_kind 1 = .ok (.ireturn, 1) := by decide +kernel
theorem dX1_fee_0 : decode cX1_fee 0 = .ok (.aload_n 0, 1) := by decide +kernel
theorem dX1_fee_1 : decode cX1_fee 1 = .ok (.invokespecial 7, 3) := by decide +kernel
theorem dX1_fee_4 : decode cX1_fee 4 = .ok (.aload_n 0, 1) := by decide +kernel
theorem dX1_fee_5 : decode cX1_fee 5 = .ok (.getfield 11, 3) := by decide +kernel
theorem dX1_fee_8 : decode cX1_fee 8 = .ok (.iadd, 1) := by decide +kernel
theorem dX1_fee_9 : decode cX1_fee 9 = .ok (.ireturn, 1) := by decide +kernel
theorem dX2_init_0 : decode cX2_init 0 = .ok (.aload_n 0, 1) := by decide +kernel
theorem dX2_init_1 : decode cX2_init 1 = .ok (.invokespecial 3, 3) := by decide +kernel
theorem dX2_init_4 : decode cX2_init 4 = .ok (.aload_n 0, 1) := by decide +kernel
theorem dX2_init_5 : decode cX2_init 5 = .ok (.bipush 8, 2) := by decide +kernel
theorem dX2_init_7 : decode cX2_init 7 = .ok (.anewarray 9, 3) := by decide +kernel
theorem dX2_init_10 : decode cX2_init 10 = .ok (.putfield 11, 3) := by decide +kernel
theorem dX2_init_13 : decode cX2_init 13 = .ok (.aload_n 0, 1) := by decide +kernel
theorem dX2_init_14 : decode cX2_init 14 = .ok (.bipush 49, 2) := by decide +kernel
theorem dX2_init_16 : decode cX2_init 16 = .ok (.newarray .int, 2) := by decide +kernel
theorem dX2_init_18 : decode cX2_init 18 = .ok (.putfield 17, 3) := by decide +kernel
theorem dX2_init_21 : decode cX2_init 21 = .ok (.aload_n 0, 1) := by decide +kernel
theorem dX2_init_22 : decode cX2_init 22 = .ok (.bipush 49, 2) := by decide +kernel
theorem dX2_init_24 : decode cX2_init 24 = .ok (.newarray .int, 2) := by decide +kernel
theorem dX2_init_26 : decode cX2_init 26 = .ok (.putfield 21, 3) := by decide +kernel
theorem dX2_init_29 : decode cX2_init 29 = .ok (.aload_n 0, 1) := by decide +kernel
theorem dX2_init_30 : decode cX2_init 30 = .ok (.new 24, 3) := by decide +kernel
theorem dX2_init_33 : decode cX2_init 33 = .ok (.dup, 1) := by decide +kernel
theorem dX2_init_34 : decode cX2_init 34 = .ok (.invokespecial 26, 3) := by decide +kernel
theorem dX2_init_37 : decode cX2_init 37 = .ok (.putfield 27, 3) := by decide +kernel
theorem dX2_init_40 : decode cX2_init 40 = .ok (.return_, 1) := by decide +kernel
theorem dX2_become_0 : decode cX2_become 0 = .ok (.aload_n 0, 1) := by decide +kernel
theorem dX2_become_1 : decode cX2_become 1 = .ok (.aload_n 1, 1) := by decide +kernel
theorem dX2_become_2 : decode cX2_become 2 = .ok (.getfield 31, 3) := by decide +kernel
theorem dX2_become_5 : decode cX2_become 5 = .ok (.putfield 31, 3) := by decide +kernel
theorem dX2_become_8 : decode cX2_become 8 = .ok (.iconst 0, 1) := by decide +kernel
theorem dX2_become_9 : decode cX2_become 9 = .ok (.istore_n 2, 1) := by decide +kernel
theorem dX2_become_10 : decode cX2_become 10 = .ok (.iload_n 2, 1) := by decide +kernel
theorem dX2_become_11 : decode cX2_become 11 = .ok (.aload_n 0, 1) := by decide +kernel
theorem dX2_become_12 : decode cX2_become 12 = .ok (.getfield 11, 3) := by decide +kernel
theorem dX2_become_15 : decode cX2_become 15 = .ok (.arraylength, 1) := by decide +kernel
theorem dX2_become_16 : decode cX2_become 16 = .ok (.if_icmp .ge 20, 3) := by decide +kernel
theorem dX2_become_19 : decode cX2_become 19 = .ok (.aload_n 0, 1) := by decide +kernel
theorem dX2_become_20 : decode cX2_become 20 = .ok (.getfield 11, 3) := by decide +kernel
theorem dX2_become_23 : decode cX2_become 23 = .ok (.iload_n 2, 1) := by decide +kernel
theorem dX2_become_24 : decode cX2_become 24 = .ok (.aload_n 1, 1) := by decide +kernel
theorem dX2_become_25 : decode cX2_become 25 = .ok (.iload_n 2, 1) := by decide +kernel
theorem dX2_become_26 : decode cX2_become 26 = .ok (.invokevirtual 35, 3) := by decide +kernel
theorem dX2_become_29 : decode cX2_become 29 = .ok (.aastore, 1) := by decide +kernel
theorem dX2_become_30 : decode cX2_become 30 = .ok (.iinc 2 1, 3) := by decide +kernel
theorem dX2_become_33 : decode cX2_become 33 = .ok (.goto (-23), 3) := by decide +kernel
theorem dX2_become_36 : decode cX2_become 36 = .ok (.aload_n 0, 1) := by decide +kernel
theorem dX2_become_37 : decode cX2_become 37 = .ok (.aload_n 1, 1) := by decide +kernel
theorem dX2_become_38 : decode cX2_become 38 = .ok (.getfield 39, 3) := by decide +kernel
theorem dX2_become_41 : decode cX2_become 41 = .ok (.putfield 39, 3) := by decide +kernel
theorem dX2_become_44 : decode cX2_become 44 = .ok (.iconst 0, 1) := by decide +kernel
theorem dX2_become_45 : decode cX2_become 45 = .ok (.istore_n 2, 1) := by decide +kernel
theorem dX2_become_46 : decode cX2_become 46 = .ok (.iload_n 2, 1) := by decide +kernel
theorem dX2_become_47 : decode cX2_become 47 = .ok (.aload_n 0, 1) := by decide +kernel
theorem dX2_become_48 : decode cX2_become 48 = .ok (.getfield 17, 3) := by decide +kernel
theorem dX2_become_51 : decode cX2_become 51 = .ok (.arraylength, 1) := by decide +kernel
theorem dX2_become_52 : decode cX2_become 52 = .ok (.if_icmp .ge 40, 3) := by decide +kernel
theorem dX2_become_55 : decode cX2_become 55 = .ok (.iload_n 2, 1) := by decide +kernel
theorem dX2_become_56 : decode cX2_become 56 = .ok (.aload_n 0, 1) := by decide +kernel
theorem dX2_become_57 : decode cX2_become 57 = .ok (.getfield 21, 3) := by decide +kernel
theorem dX2_become_60 : decode cX2_become 60 = .ok (.arraylength, 1) := by decide +kernel
theorem dX2_become_61 : decode cX2_become 61 = .ok (.if_icmp .ge 31, 3) := by decide +kernel
theorem dX2_become_64 : decode cX2_become 64 = .ok (.aload_n 0, 1) := by decide +kernel
theorem dX2_become_65 : decode cX2_become 65 = .ok (.getfield 17, 3) := by decide +kernel
theorem dX2_become_68 : decode cX2_become 68 = .ok (.iload_n 2, 1) := by decide +kernel
theorem dX2_become_69 : decode cX2_become 69 = .ok (.aload_n 1, 1) := by decide +kernel
theorem dX2_become_70 : decode cX2_become 70 = .ok (.iload_n 2, 1) := by decide +kernel
theorem dX2_become_71 : decode cX2_become 71 = .ok (.invokevirtual 42, 3) := by decide +kernel
theorem dX2_become_74 : decode cX2_become 74 = .ok (.iastore, 1) := by decide +kernel
theorem dX2_become_75 : decode cX2_become 75 = .ok (.aload_n 0, 1) := by decide +kernel
theorem dX2_become_76 : decode cX2_become 76 = .ok (.getfield 21, 3) := by decide +kernel
theorem dX2_become_79 : decode cX2_become 79 = .ok (.iload_n 2, 1) := by decide +kernel
theorem dX2_become_80 : decode cX2_become 80 = .ok (.aload_n 1, 1) := by decide +kernel
theorem dX2_become_81 : decode cX2_become 81 = .ok (.iload_n 2, 1) := by decide +kernel
theorem dX2_become_82 : decode cX2_become 82 = .ok (.invokevirtual 46, 3) := by decide +kernel
theorem dX2_become_85 : decode cX2_become 85 = .ok (.iastore, 1) := by decide +kernel
theorem dX2_become_86 : decode cX2_become 86 = .ok (.iinc 2 1, 3) := by decide +kernel
theorem dX2_become_89 : decode cX2_become 89 = .ok (.goto (-43), 3) := by decide +kernel
theorem dX2_become_92 : decode cX2_become 92 = .ok (.aload_n 0, 1) := by decide +kernel
theorem dX2_become_93 : decode cX2_become 93 = .ok (.getfield 27, 3) := by decide +kernel
theorem dX2_become_96 : decode cX2_become 96 = .ok (.aload_n 1, 1) := by decide +kernel
theorem dX2_become_97 : decode cX2_become 97 = .ok (.getfield 27, 3) := by decide +kernel
theorem dX2_become_100 : decode cX2_become 100 = .ok (.invokevirtual 49, 3) := by decide +kernel
theorem dX2_become_103 : decode cX2_become 103 = .ok (.aload_n 0, 1) := by decide +kernel
theorem dX2_become_104 : decode cX2_become 104 = .ok (.aload_n 1, 1) := by decide +kernel
theorem dX2_become_105 : decode cX2_become 105 = .ok (.getfield 53, 3) := by decide +kernel
theorem dX2_become_108 : decode cX2_become 108 = .ok (.putfield 53, 3) := by decide +kernel
theorem dX2_become_111 : decode cX2_become 111 = .ok (.return_, 1) := by decide +kernel
theorem dX2_stretchAt_0 : decode cX2_stretchAt 0 = .ok (.iload_n 1, 1) := by decide +kernel
theorem dX2_stretchAt_1 : decode cX2_stretchAt 1 = .ok (.ifCond .lt 20, 3) := by decide +kernel
theorem dX2_stretchAt_4 : decode cX2_stretchAt 4 = .ok (.iload_n 1, 1) := by decide +kernel
theorem dX2_stretchAt_5 : decode cX2_stretchAt 5 = .ok (.aload_n 0, 1) := by decide +kernel
theorem dX2_stretchAt_6 : decode cX2_stretchAt 6 = .ok (.getfield 31, 3) := by decide +kernel
theorem dX2_stretchAt_9 : decode cX2_stretchAt 9 = .ok (.if_icmp .ge 12, 3) := by decide +kernel
theorem dX2_stretchAt_12 : decode cX2_stretchAt 12 = .ok (.iload_n 1, 1) := by decide +kernel
theorem dX2_stretchAt_13 : decode cX2_stretchAt 13 = .ok (.aload_n 0, 1) := by decide +kernel
theorem dX2_stretchAt_14 : decode cX2_stretchAt 14 = .ok (.getfield 11, 3) := by decide +kernel
theorem dX2_stretchAt_17 : decode cX2_stretchAt 17 = .ok (.arraylength, 1) := by decide +kernel
theorem dX2_stretchAt_18 : decode cX2_stretchAt 18 = .ok (.if_icmp .lt 7, 3) := by decide +kernel
theorem dX2_stretchAt_21 : decode cX2_stretchAt 21 = .ok (.aconst_null, 1) := by decide +kernel
theorem dX2_stretchAt_22 : decode cX2_stretchAt 22 = .ok (.goto 9, 3) := by decide +kernel
theorem dX2_stretchAt_25 : decode cX2_stretchAt 25 = .ok (.aload_n 0, 1) := by decide +kernel
theorem dX2_stretchAt_26 : decode cX2_stretchAt 26 = .ok (.getfield 11, 3) := by decide +kernel
theorem dX2_stretchAt_29 : decode cX2_stretchAt 29 = .ok (.iload_n 1, 1) := by decide +kernel
theorem dX2_stretchAt_30 : decode cX2_stretchAt 30 = .ok (.aaload, 1) := by decide +kernel
theorem dX2_stretchAt_31 : decode cX2_stretchAt 31 = .ok (.areturn, 1) := by decide +kernel
theorem dX2_appendStretch_0 : decode cX2_appendStretch 0 = .ok (.aload_n 0, 1) := by decide +kernel
theorem dX2_appendStretch_1 : decode cX2_appendStretch 1 = .ok (.getfield 31, 3) := by decide +kernel
theorem dX2_appendStretch_4 : decode cX2_appendStretch 4 = .ok (.ifCond .lt 26, 3) := by decide +kernel
theorem dX2_appendStretch_7 : decode cX2_appendStretch 7 = .ok (.aload_n 0, 1) := by decide +kernel
theorem dX2_appendStretch_8 : decode cX2_appendStretch 8 = .ok (.getfield 31, 3) := by decide +kernel
theorem dX2_appendStretch_11 : decode cX2_appendStretch 11 = .ok (.aload_n 0, 1) := by decide +kernel
theorem dX2_appendStretch_12 : decode cX2_appendStretch 12 = .ok (.getfield 11, 3) := by decide +kernel
theorem dX2_appendStretch_15 : decode cX2_appendStretch 15 = .ok (.arraylength, 1) := by decide +kernel
theorem dX2_appendStretch_16 : decode cX2_appendStretch 16 = .ok (.if_icmp .ge 14, 3) := by decide +kernel
theorem dX2_appendStretch_19 : decode cX2_appendStretch 19 = .ok (.aload_n 0, 1) := by decide +kernel
theorem dX2_appendStretch_20 : decode cX2_appendStretch 20 = .ok (.getfield 39, 3) := by decide +kernel
theorem dX2_appendStretch_23 : decode cX2_appendStretch 23 = .ok (.iload_n 3, 1) := by decide +kernel
theorem dX2_appendStretch_24 : decode cX2_appendStretch 24 = .ok (.iadd, 1) := by decide +kernel
theorem dX2_appendStretch_25 : decode cX2_appendStretch 25 = .ok (.bipush 48, 2) := by decide +kernel
theorem dX2_appendStretch_27 : decode cX2_appendStretch 27 = .ok (.if_icmp .le 5, 3) := by decide +kernel
theorem dX2_appendStretch_30 : decode cX2_appendStretch 30 = .ok (.iconst 0, 1) := by decide +kernel
theorem dX2_appendStretch_31 : decode cX2_appendStretch 31 = .ok (.ireturn, 1) := by decide +kernel
theorem dX2_appendStretch_32 : decode cX2_appendStretch 32 = .ok (.aload_n 0, 1) := by decide +kernel
theorem dX2_appendStretch_33 : decode cX2_appendStretch 33 = .ok (.getfield 39, 3) := by decide +kernel
theorem dX2_appendStretch_36 : decode cX2_appendStretch 36 = .ok (.iconst 1, 1) := by decide +kernel
theorem dX2_appendStretch_37 : decode cX2_appendStretch 37 = .ok (.iadd, 1) := by decide +kernel
theorem dX2_appendStretch_38 : decode cX2_appendStretch 38 = .ok (.istore 5, 2) := by decide +kernel
theorem dX2_appendStretch_40 : decode cX2_appendStretch 40 = .ok (.iload_n 1, 1) := by decide +kernel
theorem dX2_appendStretch_41 : decode cX2_appendStretch 41 = .ok (.tableswitch 135 0 5 #[39, 55, 71, 87, 103, 119], 39) := by decide +kernel
theorem dX2_appendStretch_80 : decode cX2_appendStretch 80 = .ok (.new 9, 3) := by decide +kernel
theorem dX2_appendStretch_83 : decode cX2_appendStretch 83 = .ok (.dup, 1) := by decide +kernel
theorem dX2_appendStretch_84 : decode cX2_appendStretch 84 = .ok (.iload_n 2, 1) := by decide +kernel
theorem dX2_appendStretch_85 : decode cX2_appendStretch 85 = .ok (.iload 5, 2) := by decide +kernel
theorem dX2_appendStretch_87 : decode cX2_appendStretch 87 = .ok (.iload_n 3, 1) := by decide +kernel
theorem dX2_appendStretch_88 : decode cX2_appendStretch 88 = .ok (.invokespecial 56, 3) := by decide +kernel
theorem dX2_appendStretch_91 : decode cX2_appendStretch 91 = .ok (.astore 4, 2) := by decide +kernel
theorem dX2_appendStretch_93 : decode cX2_appendStretch 93 = .ok (.goto 85, 3) := by decide +kernel
theorem dX2_appendStretch_96 : decode cX2_appendStretch 96 = .ok (.new 59, 3) := by decide +kernel
theorem dX2_appendStretch_99 : decode cX2_appendStretch 99 = .ok (.dup, 1) := by decide +kernel
theorem dX2_appendStretch_100 : decode cX2_appendStretch 100 = .ok (.iload_n 2, 1) := by decide +kernel
theorem dX2_appendStretch_101 : decode cX2_appendStretch 101 = .ok (.iload 5, 2) := by decide +kernel
theorem dX2_appendStretch_103 : decode cX2_appendStretch 103 = .ok (.iload_n 3, 1) := by decide +kernel
theorem dX2_appendStretch_104 : decode cX2_appendStretch 104 = .ok (.invokespecial 61, 3) := by decide +kernel
theorem dX2_appendStretch_107 : decode cX2_appendStretch 107 = .ok (.astore 4, 2) := by decide +kernel
theorem dX2_appendStretch_109 : decode cX2_appendStretch 109 = .ok (.goto 69, 3) := by decide +kernel
theorem dX2_appendStretch_112 : decode cX2_appendStretch 112 = .ok (.new 62, 3) := by decide +kernel
theorem dX2_appendStretch_115 : decode cX2_appendStretch 115 = .ok (.dup, 1) := by decide +kernel
theorem dX2_appendStretch_116 : decode cX2_appendStretch 116 = .ok (.iload_n 2, 1) := by decide +kernel
theorem dX2_appendStretch_117 : decode cX2_appendStretch 117 = .ok (.iload 5, 2) := by decide +kernel
theorem dX2_appendStretch_119 : decode cX2_appendStretch 119 = .ok (.iload_n 3, 1) := by decide +kernel
theorem dX2_appendStretch_120 : decode cX2_appendStretch 120 = .ok (.invokespecial 64, 3) := by decide +kernel
theorem dX2_appendStretch_123 : decode cX2_appendStretch 123 = .ok (.astore 4, 2) := by decide +kernel
theorem dX2_appendStretch_125 : decode cX2_appendStretch 125 = .ok (.goto 53, 3) := by decide +kernel
theorem dX2_appendStretch_128 : decode cX2_appendStretch 128 = .ok (.new 65, 3) := by decide +kernel
theorem dX2_appendStretch_131 : decode cX2_appendStretch 131 = .ok (.dup, 1) := by decide +kernel
theorem dX2_appendStretch_132 : decode cX2_appendStretch 132 = .ok (.iload_n 2, 1) := by decide +kernel
theorem dX2_appendStretch_133 : decode cX2_appendStretch 133 = .ok (.iload 5, 2) := by decide +kernel
theorem dX2_appendStretch_135 : decode cX2_appendStretch 135 = .ok (.iload_n 3, 1) := by decide +kernel
theorem dX2_appendStretch_136 : decode cX2_appendStretch 136 = .ok (.invokespecial 67, 3) := by decide +kernel
theorem dX2_appendStretch_139 : decode cX2_appendStretch 139 = .ok (.astore 4, 2) := by decide +kernel
theorem dX2_appendStretch_141 : decode cX2_appendStretch 141 = .ok (.goto 37, 3) := by decide +kernel
theorem dX2_appendStretch_144 : decode cX2_appendStretch 144 = .ok (.new 68, 3) := by decide +kernel
theorem dX2_appendStretch_147 : decode cX2_appendStretch 147 = .ok (.dup, 1) := by decide +kernel
theorem dX2_appendStretch_148 : decode cX2_appendStretch 148 = .ok (.iload_n 2, 1) := by decide +kernel
theorem dX2_appendStretch_149 : decode cX2_appendStretch 149 = .ok (.iload 5, 2) := by decide +kernel
theorem dX2_appendStretch_151 : decode cX2_appendStretch 151 = .ok (.iload_n 3, 1) := by decide +kernel
theorem dX2_appendStretch_152 : decode cX2_appendStretch 152 = .ok (.invokespecial 70, 3) := by decide +kernel
theorem dX2_appendStretch_155 : decode cX2_appendStretch 155 = .ok (.astore 4, 2) := by decide +kernel
theorem dX2_appendStretch_157 : decode cX2_appendStretch 157 = .ok (.goto 21, 3) := by decide +kernel
theorem dX2_appendStretch_160 : decode cX2_appendStretch 160 = .ok (.new 71, 3) := by decide +kernel
theorem dX2_appendStretch_163 : decode cX2_appendStretch 163 = .ok (.dup, 1) := by decide +kernel
theorem dX2_appendStretch_164 : decode cX2_appendStretch 164 = .ok (.iload_n 2, 1) := by decide +kernel
theorem dX2_appendStretch_165 : decode cX2_appendStretch 165 = .ok (.iload 5, 2) := by decide +kernel
theorem dX2_appendStretch_167 : decode cX2_appendStretch 167 = .ok (.iload_n 3, 1) := by decide +kernel
theorem dX2_appendStretch_168 : decode cX2_appendStretch 168 = .ok (.invokespecial 73, 3) := by decide +kernel
theorem dX2_appendStretch_171 : decode cX2_appendStretch 171 = .ok (.astore 4, 2) := by decide +kernel
theorem dX2_appendStretch_173 : decode cX2_appendStretch 173 = .ok (.goto 5, 3) := by decide +kernel
theorem dX2_appendStretch_176 : decode cX2_appendStretch 176 = .ok (.iconst 0, 1) := by decide +kernel
theorem dX2_appendStretch_177 : decode cX2_appendStretch 177 = .ok (.ireturn, 1) := by decide +kernel
theorem dX2_appendStretch_178 : decode cX2_appendStretch 178 = .ok (.aload_n 0, 1) := by decide +kernel
theorem dX2_appendStretch_179 : decode cX2_appendStretch 179 = .ok (.getfield 11, 3) := by decide +kernel
theorem dX2_appendStretch_182 : decode cX2_appendStretch 182 = .ok (.aload_n 0, 1) := by decide +kernel
theorem dX2_appendStretch_183 : decode cX2_appendStretch 183 = .ok (.getfield 31, 3) := by decide +kernel
theorem dX2_appendStretch_186 : decode cX2_appendStretch 186 = .ok (.aload 4, 2) := by decide +kernel
theorem dX2_appendStretch_188 : decode cX2_appendStretch 188 = .ok (.aastore, 1) := by decide +kernel
theorem dX2_appendStretch_189 : decode cX2_appendStretch 189 = .ok (.aload_n 0, 1) := by decide +kernel
theorem dX2_appendStretch_190 : decode cX2_appendStretch 190 = .ok (.dup, 1) := by decide +kernel
theorem dX2_appendStretch_191 : decode cX2_appendStretch 191 = .ok (.getfield 31, 3) := by decide +kernel
theorem dX2_appendStretch_194 : decode cX2_appendStretch 194 = .ok (.iconst 1, 1) := by decide +kernel
theorem dX2_appendStretch_195 : decode cX2_appendStretch 195 = .ok (.iadd, 1) := by decide +kernel
theorem dX2_appendStretch_196 : decode cX2_appendStretch 196 = .ok (.putfield 31, 3) := by decide +kernel
theorem dX2_appendStretch_199 : decode cX2_appendStretch 199 = .ok (.iconst 1, 1) := by decide +kernel
theorem dX2_appendStretch_200 : decode cX2_appendStretch 200 = .ok (.ireturn, 1) := by decide +kernel
theorem dX2_appendYard_0 : decode cX2_appendYard 0 = .ok (.aload_n 0, 1) := by decide +kernel
theorem dX2_appendYard_1 : decode cX2_appendYard 1 = .ok (.aload_n 0, 1) := by decide +kernel
theorem dX2_appendYard_2 : decode cX2_appendYard 2 = .ok (.getfield 39, 3) := by decide +kernel
theorem dX2_appendYard_5 : decode cX2_appendYard 5 = .ok (.invokevirtual 42, 3) := by decide +kernel
theorem dX2_appendYard_8 : decode cX2_appendYard 8 = .ok (.iload_n 1, 1) := by decide +kernel
theorem dX2_appendYard_9 : decode cX2_appendYard 9 = .ok (.bipush 101, 2) := by decide +kernel
theorem dX2_appendYard_11 : decode cX2_appendYard 11 = .ok (.if_icmp .ne 7, 3) := by decide +kernel
theorem dX2_appendYard_14 : decode cX2_appendYard 14 = .ok (.iconst 1, 1) := by decide +kernel
theorem dX2_appendYard_15 : decode cX2_appendYard 15 = .ok (.goto 4, 3) := by decide +kernel
theorem dX2_appendYard_18 : decode cX2_appendYard 18 = .ok (.iconst 0, 1) := by decide +kernel
theorem dX2_appendYard_19 : decode cX2_appendYard 19 = .ok (.iadd, 1) := by decide +kernel
theorem dX2_appendYard_20 : decode cX2_appendYard 20 = .ok (.iload_n 1, 1) := by decide +kernel
theorem dX2_appendYard_21 : decode cX2_appendYard 21 = .ok (.bipush 119, 2) := by decide +kernel
theorem dX2_appendYard_23 : decode cX2_appendYard 23 = .ok (.if_icmp .ne 7, 3) := by decide +kernel
theorem dX2_appendYard_26 : decode cX2_appendYard 26 = .ok (.iconst 1, 1) := by decide +kernel
theorem dX2_appendYard_27 : decode cX2_appendYard 27 = .ok (.goto 4, 3) := by decide +kernel
theorem dX2_appendYard_30 : decode cX2_appendYard 30 = .ok (.iconst 0, 1) := by decide +kernel
theorem dX2_appendYard_31 : decode cX2_appendYard 31 = .ok (.isub, 1) := by decide +kernel
theorem dX2_appendYard_32 : decode cX2_appendYard 32 = .ok (.istore_n 2, 1) := by decide +kernel
theorem dX2_appendYard_33 : decode cX2_appendYard 33 = .ok (.aload_n 0, 1) := by decide +kernel
theorem dX2_appendYard_34 : decode cX2_appendYard 34 = .ok (.aload_n 0, 1) := by decide +kernel
theorem dX2_appendYard_35 : decode cX2_appendYard 35 = .ok (.getfield 39, 3) := by decide +kernel
theorem dX2_appendYard_38 : decode cX2_appendYard 38 = .ok (.invokevirtual 46, 3) := by decide +kernel
theorem dX2_appendYard_41 : decode cX2_appendYard 41 = .ok (.iload_n 1, 1) := by decide +kernel
theorem dX2_appendYard_42 : decode cX2_appendYard 42 = .ok (.bipush 110, 2) := by decide +kernel
theorem dX2_appendYard_44 : decode cX2_appendYard 44 = .ok (.if_icmp .ne 7, 3) := by decide +kernel
theorem dX2_appendYard_47 : decode cX2_appendYard 47 = .ok (.iconst 1, 1) := by decide +kernel
theorem dX2_appendYard_48 : decode cX2_appendYard 48 = .ok (.goto 4, 3) := by decide +kernel
theorem dX2_appendYard_51 : decode cX2_appendYard 51 = .ok (.iconst 0, 1) := by decide +kernel
theorem dX2_appendYard_52 : decode cX2_appendYard 52 = .ok (.iadd, 1) := by decide +kernel
theorem dX2_appendYard_53 : decode cX2_appendYard 53 = .ok (.iload_n 1, 1) := by decide +kernel
theorem dX2_appendYard_54 : decode cX2_appendYard 54 = .ok (.bipush 115, 2) := by decide +kernel
theorem dX2_appendYard_56 : decode cX2_appendYard 56 = .ok (.if_icmp .ne 7, 3) := by decide +kernel
theorem dX2_appendYard_59 : decode cX2_appendYard 59 = .ok (.iconst 1, 1) := by decide +kernel
theorem dX2_appendYard_60 : decode cX2_appendYard 60 = .ok (.goto 4, 3) := by decide +kernel
theorem dX2_appendYard_63 : decode cX2_appendYard 63 = .ok (.iconst 0, 1) := by decide +kernel
theorem dX2_appendYard_64 : decode cX2_appendYard 64 = .ok (.isub, 1) := by decide +kernel
theorem dX2_appendYard_65 : decode cX2_appendYard 65 = .ok (.istore_n 3, 1) := by decide +kernel
theorem dX2_appendYard_66 : decode cX2_appendYard 66 = .ok (.aload_n 0, 1) := by decide +kernel
theorem dX2_appendYard_67 : decode cX2_appendYard 67 = .ok (.getfield 39, 3) := by decide +kernel
theorem dX2_appendYard_70 : decode cX2_appendYard 70 = .ok (.iconst 1, 1) := by decide +kernel
theorem dX2_appendYard_71 : decode cX2_appendYard 71 = .ok (.iadd, 1) := by decide +kernel
theorem dX2_appendYard_72 : decode cX2_appendYard 72 = .ok (.istore 4, 2) := by decide +kernel
theorem dX2_appendYard_74 : decode cX2_appendYard 74 = .ok (.iload 4, 2) := by decide +kernel
theorem dX2_appendYard_76 : decode cX2_appendYard 76 = .ok (.ifCond .lt 45, 3) := by decide +kernel
theorem dX2_appendYard_79 : decode cX2_appendYard 79 = .ok (.iload 4, 2) := by decide +kernel
theorem dX2_appendYard_81 : decode cX2_appendYard 81 = .ok (.aload_n 0, 1) := by decide +kernel
theorem dX2_appendYard_82 : decode cX2_appendYard 82 = .ok (.getfield 17, 3) := by decide +kernel
theorem dX2_appendYard_85 : decode cX2_appendYard 85 = .ok (.arraylength, 1) := by decide +kernel
theorem dX2_appendYard_86 : decode cX2_appendYard 86 = .ok (.if_icmp .ge 35, 3) := by decide +kernel
theorem dX2_appendYard_89 : decode cX2_appendYard 89 = .ok (.iload 4, 2) := by decide +kernel
theorem dX2_appendYard_91 : decode cX2_appendYard 91 = .ok (.aload_n 0, 1) := by decide +kernel
theorem dX2_appendYard_92 : decode cX2_appendYard 92 = .ok (.getfield 21, 3) := by decide +kernel
theorem dX2_appendYard_95 : decode cX2_appendYard 95 = .ok (.arraylength, 1) := by decide +kernel
theorem dX2_appendYard_96 : decode cX2_appendYard 96 = .ok (.if_icmp .ge 25, 3) := by decide +kernel
theorem dX2_appendYard_99 : decode cX2_appendYard 99 = .ok (.aload_n 0, 1) := by decide +kernel
theorem dX2_appendYard_100 : decode cX2_appendYard 100 = .ok (.getfield 17, 3) := by decide +kernel
theorem dX2_appendYard_103 : decode cX2_appendYard 103 = .ok (.iload 4, 2) := by decide +kernel
theorem dX2_appendYard_105 : decode cX2_appendYard 105 = .ok (.iload_n 2, 1) := by decide +kernel
theorem dX2_appendYard_106 : decode cX2_appendYard 106 = .ok (.iastore, 1) := by decide +kernel
theorem dX2_appendYard_107 : decode cX2_appendYard 107 = .ok (.aload_n 0, 1) := by decide +kernel
theorem dX2_appendYard_108 : decode cX2_appendYard 108 = .ok (.getfield 21, 3) := by decide +kernel
theorem dX2_appendYard_111 : decode cX2_appendYard 111 = .ok (.iload 4, 2) := by decide +kernel
theorem dX2_appendYard_113 : decode cX2_appendYard 113 = .ok (.iload_n 3, 1) := by decide +kernel
theorem dX2_appendYard_114 : decode cX2_appendYard 114 = .ok (.iastore, 1) := by decide +kernel
theorem dX2_appendYard_115 : decode cX2_appendYard 115 = .ok (.aload_n 0, 1) := by decide +kernel
theorem dX2_appendYard_116 : decode cX2_appendYard 116 = .ok (.iload 4, 2) := by decide +kernel
theorem dX2_appendYard_118 : decode cX2_appendYard 118 = .ok (.putfield 39, 3) := by decide +kernel
theorem dX2_appendYard_121 : decode cX2_appendYard 121 = .ok (.return_, 1) := by decide +kernel
theorem dX2_hasPlace_0 : decode cX2_hasPlace 0 = .ok (.iload_n 1, 1) := by decide +kernel
theorem dX2_hasPlace_1 : decode cX2_hasPlace 1 = .ok (.ifCond .lt 15, 3) := by decide +kernel
theorem dX2_hasPlace_4 : decode cX2_hasPlace 4 = .ok (.iload_n 1, 1) := by decide +kernel
theorem dX2_hasPlace_5 : decode cX2_hasPlace 5 = .ok (.aload_n 0, 1) := by decide +kernel
theorem dX2_hasPlace_6 : decode cX2_hasPlace 6 = .ok (.getfield 39, 3) := by decide +kernel
theorem dX2_hasPlace_9 : decode cX2_hasPlace 9 = .ok (.if_icmp .gt 7, 3) := by decide +kernel
theorem dX2_hasPlace_12 : decode cX2_hasPlace 12 = .ok (.iconst 1, 1) := by decide +kernel
theorem dX2_hasPlace_13 : decode cX2_hasPlace 13 = .ok (.goto 4, 3) := by decide +kernel
theorem dX2_hasPlace_16 : decode cX2_hasPlace 16 = .ok (.iconst 0, 1) := by decide +kernel
theorem dX2_hasPlace_17 : decode cX2_hasPlace 17 = .ok (.ireturn, 1) := by decide +kernel
theorem dX2_xAt_0 : decode cX2_xAt 0 = .ok (.iload_n 1, 1) := by decide +kernel
theorem dX2_xAt_1 : decode cX2_xAt 1 = .ok (.ifCond .lt 12, 3) := by decide +kernel
theorem dX2_xAt_4 : decode cX2_xAt 4 = .ok (.iload_n 1, 1) := by decide +kernel
theorem dX2_xAt_5 : decode cX2_xAt 5 = .ok (.aload_n 0, 1) := by decide +kernel
theorem dX2_xAt_6 : decode cX2_xAt 6 = .ok (.getfield 17, 3) := by decide +kernel
theorem dX2_xAt_9 : decode cX2_xAt 9 = .ok (.arraylength, 1) := by decide +kernel
theorem dX2_xAt_10 : decode cX2_xAt 10 = .ok (.if_icmp .lt 7, 3) := by decide +kernel
theorem dX2_xAt_13 : decode cX2_xAt 13 = .ok (.iconst 0, 1) := by decide +kernel
theorem dX2_xAt_14 : decode cX2_xAt 14 = .ok (.goto 9, 3) := by decide +kernel
theorem dX2_xAt_17 : decode cX2_xAt 17 = .ok (.aload_n 0, 1) := by decide +kernel
theorem dX2_xAt_18 : decode cX2_xAt 18 = .ok (.getfield 17, 3) := by decide +kernel
theorem dX2_xAt_21 : decode cX2_xAt 21 = .ok (.iload_n 1, 1) := by decide +kernel
theorem dX2_xAt_22 : decode cX2_xAt 22 = .ok (.iaload, 1) := by decide +kernel
theorem dX2_xAt_23 : decode cX2_xAt 23 = .ok (.ireturn, 1) := by decide +kernel
theorem dX2_yAt_0 : decode cX2_yAt 0 = .ok (.iload_n 1, 1) := by decide +kernel
theorem dX2_yAt_1 : decode cX2_yAt 1 = .ok (.ifCond .lt 12, 3) := by decide +kernel
theorem dX2_yAt_4 : decode cX2_yAt 4 = .ok (.iload_n 1, 1) := by decide +kernel
theorem dX2_yAt_5 : decode cX2_yAt 5 = .ok (.aload_n 0, 1) := by decide +kernel
theorem dX2_yAt_6 : decode cX2_yAt 6 = .ok (.getfield 21, 3) := by decide +kernel
theorem dX2_yAt_9 : decode cX2_yAt 9 = .ok (.arraylength, 1) := by decide +kernel
theorem dX2_yAt_10 : decode cX2_yAt 10 = .ok (.if_icmp .lt 7, 3) := by decide +kernel
theorem dX2_yAt_13 : decode cX2_yAt 13 = .ok (.iconst 0, 1) := by decide +kernel
theorem dX2_yAt_14 : decode cX2_yAt 14 = .ok (.goto 9, 3) := by decide +kernel
theorem dX2_yAt_17 : decode cX2_yAt 17 = .ok (.aload_n 0, 1) := by decide +kernel
theorem dX2_yAt_18 : decode cX2_yAt 18 = .ok (.getfield 21, 3) := by decide +kernel
theorem dX2_yAt_21 : decode cX2_yAt 21 = .ok (.iload_n 1, 1) := by decide +kernel
theorem dX2_yAt_22 : decode cX2_yAt 22 = .ok (.iaload, 1) := by decide +kernel
theorem dX2_yAt_23 : decode cX2_yAt 23 = .ok (.ireturn, 1) := by decide +kernel
theorem dX2_shoreNow_0 : decode cX2_shoreNow 0 = .ok (.aload_n 0, 1) := by decide +kernel
theorem dX2_shoreNow_1 : decode cX2_shoreNow 1 = .ok (.aload_n 0, 1) := by decide +kernel
theorem dX2_shoreNow_2 : decode cX2_shoreNow 2 = .ok (.getfield 53, 3) := by decide +kernel
theorem dX2_shoreNow_5 : decode cX2_shoreNow 5 = .ok (.invokevirtual 74, 3) := by decide +kernel
theorem dX2_shoreNow_8 : decode cX2_shoreNow 8 = .ok (.lreturn, 1) := by decide +kernel
theorem dX2_shoreAt_0 : decode cX2_shoreAt 0 = .ok (.lconst 1, 1) := by decide +kernel
theorem dX2_shoreAt_1 : decode cX2_shoreAt 1 = .ok (.lstore_n 2, 1) := by decide +kernel
theorem dX2_shoreAt_2 : decode cX2_shoreAt 2 = .ok (.iconst 0, 1) := by decide +kernel
theorem dX2_shoreAt_3 : decode cX2_shoreAt 3 = .ok (.istore 4, 2) := by decide +kernel
theorem dX2_shoreAt_5 : decode cX2_shoreAt 5 = .ok (.iload 4, 2) := by decide +kernel
theorem dX2_shoreAt_7 : decode cX2_shoreAt 7 = .ok (.bipush 8, 2) := by decide +kernel
theorem dX2_shoreAt_9 : decode cX2_shoreAt 9 = .ok (.if_icmp .ge 39, 3) := by decide +kernel
theorem dX2_shoreAt_12 : decode cX2_shoreAt 12 = .ok (.aload_n 0, 1) := by decide +kernel
theorem dX2_shoreAt_13 : decode cX2_shoreAt 13 = .ok (.iload 4, 2) := by decide +kernel
theorem dX2_shoreAt_15 : decode cX2_shoreAt 15 = .ok (.invokevirtual 35, 3) := by decide +kernel
theorem dX2_shoreAt_18 : decode cX2_shoreAt 18 = .ok (.astore 5, 2) := by decide +kernel
theorem dX2_shoreAt_20 : decode cX2_shoreAt 20 = .ok (.aload 5, 2) := by decide +kernel
theorem dX2_shoreAt_22 : decode cX2_shoreAt 22 = .ok (.ifnull 20, 3) := by decide +kernel
theorem dX2_shoreAt_25 : decode cX2_shoreAt 25 = .ok (.aload 5, 2) := by decide +kernel
theorem dX2_shoreAt_27 : decode cX2_shoreAt 27 = .ok (.iload_n 1, 1) := by decide +kernel
theorem dX2_shoreAt_28 : decode cX2_shoreAt 28 = .ok (.invokevirtual 78, 3) := by decide +kernel
theorem dX2_shoreAt_31 : decode cX2_shoreAt 31 = .ok (.ifCond .eq 11, 3) := by decide +kernel
theorem dX2_shoreAt_34 : decode cX2_shoreAt 34 = .ok (.lload_n 2, 1) := by decide +kernel
theorem dX2_shoreAt_35 : decode cX2_shoreAt 35 = .ok (.aload 5, 2) := by decide +kernel
theorem dX2_shoreAt_37 : decode cX2_shoreAt 37 = .ok (.invokevirtual 82, 3) := by decide +kernel
theorem dX2_shoreAt_40 : decode cX2_shoreAt 40 = .ok (.lor, 1) := by decide +kernel
theorem dX2_shoreAt_41 : decode cX2_shoreAt 41 = .ok (.lstore_n 2, 1) := by decide +kernel
theorem dX2_shoreAt_42 : decode cX2_shoreAt 42 = .ok (.iinc 4 1, 3) := by decide +kernel
theorem dX2_shoreAt_45 : decode cX2_shoreAt 45 = .ok (.goto (-40), 3) := by decide +kernel
theorem dX2_shoreAt_48 : decode cX2_shoreAt 48 = .ok (.lload_n 2, 1) := by decide +kernel
theorem dX2_shoreAt_49 : decode cX2_shoreAt 49 = .ok (.lreturn, 1) := by decide +kernel
theorem dX2_feesOfStretches_0 : decode cX2_feesOfStretches 0 = .ok (.iconst 0, 1) := by decide +kernel
theorem dX2_feesOfStretches_1 : decode cX2_feesOfStretches 1 = .ok (.istore_n 1, 1) := by decide +kernel
theorem dX2_feesOfStretches_2 : decode cX2_feesOfStretches 2 = .ok (.iconst 0, 1) := by decide +kernel
theorem dX2_feesOfStretches_3 : decode cX2_feesOfStretches 3 = .ok (.istore_n 2, 1) := by decide +kernel
theorem dX2_feesOfStretches_4 : decode cX2_feesOfStretches 4 = .ok (.iload_n 2, 1) := by decide +kernel
theorem dX2_feesOfStretches_5 : decode cX2_feesOfStretches 5 = .ok (.bipush 8, 2) := by decide +kernel
theorem dX2_feesOfStretches_7 : decode cX2_feesOfStretches 7 = .ok (.if_icmp .ge 30, 3) := by decide +kernel
theorem dX2_feesOfStretches_10 : decode cX2_feesOfStretches 10 = .ok (.aload_n 0, 1) := by decide +kernel
theorem dX2_feesOfStretches_11 : decode cX2_feesOfStretches 11 = .ok (.iload_n 2, 1) := by decide +kernel
theorem dX2_feesOfStretches_12 : decode cX2_feesOfStretches 12 = .ok (.invokevirtual 35, 3) := by decide +kernel
theorem dX2_feesOfStretches_15 : decode cX2_feesOfStretches 15 = .ok (.astore_n 3, 1) := by decide +kernel
theorem dX2_feesOfStretches_16 : decode cX2_feesOfStretches 16 = .ok (.iload_n 1, 1) := by decide +kernel
theorem dX2_feesOfStretches_17 : decode cX2_feesOfStretches 17 = .ok (.aload_n 3, 1) := by decide +kernel
theorem dX2_feesOfStretches_18 : decode cX2_feesOfStretches 18 = .ok (.ifnonnull 7, 3) := by decide +kernel
theorem dX2_feesOfStretches_21 : decode cX2_feesOfStretches 21 = .ok (.iconst 0, 1) := by decide +kernel
theorem dX2_feesOfStretches_22 : decode cX2_feesOfStretches 22 = .ok (.goto 7, 3) := by decide +kernel
theorem dX2_feesOfStretches_25 : decode cX2_feesOfStretches 25 = .ok (.aload_n 3, 1) := by decide +kernel
theorem dX2_feesOfStretches_26 : decode cX2_feesOfStretches 26 = .ok (.invokevirtual 86, 3) := by decide +kernel
theorem dX2_feesOfStretches_29 : decode cX2_feesOfStretches 29 = .ok (.iadd, 1) := by decide +kernel
theorem dX2_feesOfStretches_30 : decode cX2_feesOfStretches 30 = .ok (.istore_n 1, 1) := by decide +kernel
theorem dX2_feesOfStretches_31 : decode cX2_feesOfStretches 31 = .ok (.iinc 2 1, 3) := by decide +kernel
theorem dX2_feesOfStretches_34 : decode cX2_feesOfStretches 34 = .ok (.goto (-30), 3) := by decide +kernel
theorem dX2_feesOfStretches_37 : decode cX2_feesOfStretches 37 = .ok (.iload_n 1, 1) := by decide +kernel
theorem dX2_feesOfStretches_38 : decode cX2_feesOfStretches 38 = .ok (.ireturn, 1) := by decide +kernel
theorem dX2_feesOf_0 : decode cX2_feesOf 0 = .ok (.iconst 0, 1) := by decide +kernel
theorem dX2_feesOf_1 : decode cX2_feesOf 1 = .ok (.istore_n 3, 1) := by decide +kernel
theorem dX2_feesOf_2 : decode cX2_feesOf 2 = .ok (.iconst 0, 1) := by decide +kernel
theorem dX2_feesOf_3 : decode cX2_feesOf 3 = .ok (.istore 4, 2) := by decide +kernel
theorem dX2_feesOf_5 : decode cX2_feesOf 5 = .ok (.iload 4, 2) := by decide +kernel
theorem dX2_feesOf_7 : decode cX2_feesOf 7 = .ok (.bipush 8, 2) := by decide +kernel
theorem dX2_feesOf_9 : decode cX2_feesOf 9 = .ok (.if_icmp .ge 41, 3) := by decide +kernel
theorem dX2_feesOf_12 : decode cX2_feesOf 12 = .ok (.aload_n 0, 1) := by decide +kernel
theorem dX2_feesOf_13 : decode cX2_feesOf 13 = .ok (.iload 4, 2) := by decide +kernel
theorem dX2_feesOf_15 : decode cX2_feesOf 15 = .ok (.invokevirtual 35, 3) := by decide +kernel
theorem dX2_feesOf_18 : decode cX2_feesOf 18 = .ok (.astore 5, 2) := by decide +kernel
theorem dX2_feesOf_20 : decode cX2_feesOf 20 = .ok (.aload 5, 2) := by decide +kernel
theorem dX2_feesOf_22 : decode cX2_feesOf 22 = .ok (.ifnull 22, 3) := by decide +kernel
theorem dX2_feesOf_25 : decode cX2_feesOf 25 = .ok (.iload_n 3, 1) := by decide +kernel
theorem dX2_feesOf_26 : decode cX2_feesOf 26 = .ok (.aload 5, 2) := by decide +kernel
theorem dX2_feesOf_28 : decode cX2_feesOf 28 = .ok (.invokevirtual 86, 3) := by decide +kernel
theorem dX2_feesOf_31 : decode cX2_feesOf 31 = .ok (.lload_n 1, 1) := by decide +kernel
theorem dX2_feesOf_32 : decode cX2_feesOf 32 = .ok (.aload 5, 2) := by decide +kernel
theorem dX2_feesOf_34 : decode cX2_feesOf 34 = .ok (.invokevirtual 82, 3) := by decide +kernel
theorem dX2_feesOf_37 : decode cX2_feesOf 37 = .ok (.land, 1) := by decide +kernel
theorem dX2_feesOf_38 : decode cX2_feesOf 38 = .ok (.invokestatic 90, 3) := by decide +kernel
theorem dX2_feesOf_41 : decode cX2_feesOf 41 = .ok (.imul, 1) := by decide +kernel
theorem dX2_feesOf_42 : decode cX2_feesOf 42 = .ok (.iadd, 1) := by decide +kernel
theorem dX2_feesOf_43 : decode cX2_feesOf 43 = .ok (.istore_n 3, 1) := by decide +kernel
theorem dX2_feesOf_44 : decode cX2_feesOf 44 = .ok (.iinc 4 1, 3) := by decide +kernel
theorem dX2_feesOf_47 : decode cX2_feesOf 47 = .ok (.goto (-42), 3) := by decide +kernel
theorem dX2_feesOf_50 : decode cX2_feesOf 50 = .ok (.iload_n 3, 1) := by decide +kernel
theorem dX2_feesOf_51 : decode cX2_feesOf 51 = .ok (.ireturn, 1) := by decide +kernel
theorem dX2_isRodApart_0 : decode cX2_isRodApart 0 = .ok (.aload_n 0, 1) := by decide +kernel
theorem dX2_isRodApart_1 : decode cX2_isRodApart 1 = .ok (.iload_n 1, 1) := by decide +kernel
theorem dX2_isRodApart_2 : decode cX2_isRodApart 2 = .ok (.invokevirtual 42, 3) := by decide +kernel
theorem dX2_isRodApart_5 : decode cX2_isRodApart 5 = .ok (.aload_n 0, 1) := by decide +kernel
theorem dX2_isRodApart_6 : decode cX2_isRodApart 6 = .ok (.iload_n 2, 1) := by decide +kernel
theorem dX2_isRodApart_7 : decode cX2_isRodApart 7 = .ok (.invokevirtual 42, 3) := by decide +kernel
theorem dX2_isRodApart_10 : decode cX2_isRodApart 10 = .ok (.isub, 1) := by decide +kernel
theorem dX2_isRodApart_11 : decode cX2_isRodApart 11 = .ok (.istore 4, 2) := by decide +kernel
theorem dX2_isRodApart_13 : decode cX2_isRodApart 13 = .ok (.aload_n 0, 1) := by decide +kernel
theorem dX2_isRodApart_14 : decode cX2_isRodApart 14 = .ok (.iload_n 1, 1) := by decide +kernel
theorem dX2_isRodApart_15 : decode cX2_isRodApart 15 = .ok (.invokevirtual 46, 3) := by decide +kernel
theorem dX2_isRodApart_18 : decode cX2_isRodApart 18 = .ok (.aload_n 0, 1) := by decide +kernel
theorem dX2_isRodApart_19 : decode cX2_isRodApart 19 = .ok (.iload_n 2, 1) := by decide +kernel
theorem dX2_isRodApart_20 : decode cX2_isRodApart 20 = .ok (.invokevirtual 46, 3) := by decide +kernel
theorem dX2_isRodApart_23 : decode cX2_isRodApart 23 = .ok (.isub, 1) := by decide +kernel
theorem dX2_isRodApart_24 : decode cX2_isRodApart 24 = .ok (.istore 5, 2) := by decide +kernel
theorem dX2_isRodApart_26 : decode cX2_isRodApart 26 = .ok (.iload 4, 2) := by decide +kernel
theorem dX2_isRodApart_28 : decode cX2_isRodApart 28 = .ok (.iload 4, 2) := by decide +kernel
theorem dX2_isRodApart_30 : decode cX2_isRodApart 30 = .ok (.imul, 1) := by decide +kernel
theorem dX2_isRodApart_31 : decode cX2_isRodApart 31 = .ok (.iload 5, 2) := by decide +kernel
theorem dX2_isRodApart_33 : decode cX2_isRodApart 33 = .ok (.iload 5, 2) := by decide +kernel
theorem dX2_isRodApart_35 : decode cX2_isRodApart 35 = .ok (.imul, 1) := by decide +kernel
theorem dX2_isRodApart_36 : decode cX2_isRodApart 36 = .ok (.iadd, 1) := by decide +kernel
theorem dX2_isRodApart_37 : decode cX2_isRodApart 37 = .ok (.iload_n 3, 1) := by decide +kernel
theorem dX2_isRodApart_38 : decode cX2_isRodApart 38 = .ok (.iload_n 3, 1) := by decide +kernel
theorem dX2_isRodApart_39 : decode cX2_isRodApart 39 = .ok (.imul, 1) := by decide +kernel
theorem dX2_isRodApart_40 : decode cX2_isRodApart 40 = .ok (.if_icmp .lt 7, 3) := by decide +kernel
theorem dX2_isRodApart_43 : decode cX2_isRodApart 43 = .ok (.iconst 1, 1) := by decide +kernel
theorem dX2_isRodApart_44 : decode cX2_isRodApart 44 = .ok (.goto 4, 3) := by decide +kernel
theorem dX2_isRodApart_47 : decode cX2_isRodApart 47 = .ok (.iconst 0, 1) := by decide +kernel
theorem dX2_isRodApart_48 : decode cX2_isRodApart 48 = .ok (.ireturn, 1) := by decide +kernel
theorem dX2_reachedFrom_0 : decode cX2_reachedFrom 0 = .ok (.lconst 0, 1) := by decide +kernel
theorem dX2_reachedFrom_1 : decode cX2_reachedFrom 1 = .ok (.lstore 5, 2) := by decide +kernel
theorem dX2_reachedFrom_3 : decode cX2_reachedFrom 3 = .ok (.bipush (-9), 2) := by decide +kernel
theorem dX2_reachedFrom_5 : decode cX2_reachedFrom 5 = .ok (.istore 7, 2) := by decide +kernel
theorem dX2_reachedFrom_7 : decode cX2_reachedFrom 7 = .ok (.iload 4, 2) := by decide +kernel
theorem dX2_reachedFrom_9 : decode cX2_reachedFrom 9 = .ok (.istore 8, 2) := by decide +kernel
theorem dX2_reachedFrom_11 : decode cX2_reachedFrom 11 = .ok (.iload 8, 2) := by decide +kernel
theorem dX2_reachedFrom_13 : decode cX2_reachedFrom 13 = .ok (.aload_n 0, 1) := by decide +kernel
theorem dX2_reachedFrom_14 : decode cX2_reachedFrom 14 = .ok (.getfield 39, 3) := by decide +kernel
theorem dX2_reachedFrom_17 : decode cX2_reachedFrom 17 = .ok (.if_icmp .gt 50, 3) := by decide +kernel
theorem dX2_reachedFrom_20 : decode cX2_reachedFrom 20 = .ok (.lload_n 1, 1) := by decide +kernel
theorem dX2_reachedFrom_21 : decode cX2_reachedFrom 21 = .ok (.iload 8, 2) := by decide +kernel
theorem dX2_reachedFrom_23 : decode cX2_reachedFrom 23 = .ok (.invokestatic 96, 3) := by decide +kernel
theorem dX2_reachedFrom_26 : decode cX2_reachedFrom 26 = .ok (.ifCond .eq 35, 3) := by decide +kernel
theorem dX2_reachedFrom_29 : decode cX2_reachedFrom 29 = .ok (.iload 7, 2) := by decide +kernel
theorem dX2_reachedFrom_31 : decode cX2_reachedFrom 31 = .ok (.bipush (-9), 2) := by decide +kernel
theorem dX2_reachedFrom_33 : decode cX2_reachedFrom 33 = .ok (.if_icmp .eq 15, 3) := by decide +kernel
theorem dX2_reachedFrom_36 : decode cX2_reachedFrom 36 = .ok (.aload_n 0, 1) := by decide +kernel
theorem dX2_reachedFrom_37 : decode cX2_reachedFrom 37 = .ok (.iload 7, 2) := by decide +kernel
theorem dX2_reachedFrom_39 : decode cX2_reachedFrom 39 = .ok (.iload 8, 2) := by decide +kernel
theorem dX2_reachedFrom_41 : decode cX2_reachedFrom 41 = .ok (.iload_n 3, 1) := by decide +kernel
theorem dX2_reachedFrom_42 : decode cX2_reachedFrom 42 = .ok (.invokevirtual 100, 3) := by decide +kernel
theorem dX2_reachedFrom_45 : decode cX2_reachedFrom 45 = .ok (.ifCond .eq 16, 3) := by decide +kernel
theorem dX2_reachedFrom_48 : decode cX2_reachedFrom 48 = .ok (.lload 5, 2) := by decide +kernel
theorem dX2_reachedFrom_50 : decode cX2_reachedFrom 50 = .ok (.lconst 1, 1) := by decide +kernel
theorem dX2_reachedFrom_51 : decode cX2_reachedFrom 51 = .ok (.iload 8, 2) := by decide +kernel
theorem dX2_reachedFrom_53 : decode cX2_reachedFrom 53 = .ok (.lshl, 1) := by decide +kernel
theorem dX2_reachedFrom_54 : decode cX2_reachedFrom 54 = .ok (.lor, 1) := by decide +kernel
theorem dX2_reachedFrom_55 : decode cX2_reachedFrom 55 = .ok (.lstore 5, 2) := by decide +kernel
theorem dX2_reachedFrom_57 : decode cX2_reachedFrom 57 = .ok (.iload 8, 2) := by decide +kernel
theorem dX2_reachedFrom_59 : decode cX2_reachedFrom 59 = .ok (.istore 7, 2) := by decide +kernel
theorem dX2_reachedFrom_61 : decode cX2_reachedFrom 61 = .ok (.iinc 8 1, 3) := by decide +kernel
theorem dX2_reachedFrom_64 : decode cX2_reachedFrom 64 = .ok (.goto (-53), 3) := by decide +kernel
theorem dX2_reachedFrom_67 : decode cX2_reachedFrom 67 = .ok (.lload 5, 2) := by decide +kernel
theorem dX2_reachedFrom_69 : decode cX2_reachedFrom 69 = .ok (.lreturn, 1) := by decide +kernel
theorem dX2_milesOf_0 : decode cX2_milesOf 0 = .ok (.iload_n 3, 1) := by decide +kernel
theorem dX2_milesOf_1 : decode cX2_milesOf 1 = .ok (.aload_n 0, 1) := by decide +kernel
theorem dX2_milesOf_2 : decode cX2_milesOf 2 = .ok (.lload_n 1, 1) := by decide +kernel
theorem dX2_milesOf_3 : decode cX2_milesOf 3 = .ok (.iload_n 3, 1) := by decide +kernel
theorem dX2_milesOf_4 : decode cX2_milesOf 4 = .ok (.iload 4, 2) := by decide +kernel
theorem dX2_milesOf_6 : decode cX2_milesOf 6 = .ok (.invokevirtual 104, 3) := by decide +kernel
theorem dX2_milesOf_9 : decode cX2_milesOf 9 = .ok (.invokestatic 108, 3) := by decide +kernel
theorem dX2_milesOf_12 : decode cX2_milesOf 12 = .ok (.imul, 1) := by decide +kernel
theorem dX2_milesOf_13 : decode cX2_milesOf 13 = .ok (.ireturn, 1) := by decide +kernel
theorem dX2_milesWithout_0 : decode cX2_milesWithout 0 = .ok (.aload_n 0, 1) := by decide +kernel
theorem dX2_milesWithout_1 : decode cX2_milesWithout 1 = .ok (.aload_n 0, 1) := by decide +kernel
theorem dX2_milesWithout_2 : decode cX2_milesWithout 2 = .ok (.invokevirtual 111, 3) := by decide +kernel
theorem dX2_milesWithout_5 : decode cX2_milesWithout 5 = .ok (.aload_n 1, 1) := by decide +kernel
theorem dX2_milesWithout_6 : decode cX2_milesWithout 6 = .ok (.invokevirtual 82, 3) := by decide +kernel
theorem dX2_milesWithout_9 : decode cX2_milesWithout 9 = .ok (.ldc2_w 114, 3) := by decide +kernel
theorem dX2_milesWithout_12 : decode cX2_milesWithout 12 = .ok (.lxor, 1) := by decide +kernel
theorem dX2_milesWithout_13 : decode cX2_milesWithout 13 = .ok (.land, 1) := by decide +kernel
theorem dX2_milesWithout_14 : decode cX2_milesWithout 14 = .ok (.iload_n 2, 1) := by decide +kernel
theorem dX2_milesWithout_15 : decode cX2_milesWithout 15 = .ok (.iconst 0, 1) := by decide +kernel
theorem dX2_milesWithout_16 : decode cX2_milesWithout 16 = .ok (.invokevirtual 116, 3) := by decide +kernel
theorem dX2_milesWithout_19 : decode cX2_milesWithout 19 = .ok (.ireturn, 1) := by decide +kernel
theorem dX2_milesOfTwo_0 : decode cX2_milesOfTwo 0 = .ok (.aload_n 0, 1) := by decide +kernel
theorem dX2_milesOfTwo_1 : decode cX2_milesOfTwo 1 = .ok (.invokevirtual 111, 3) := by decide +kernel
theorem dX2_milesOfTwo_4 : decode cX2_milesOfTwo 4 = .ok (.lstore 4, 2) := by decide +kernel
theorem dX2_milesOfTwo_6 : decode cX2_milesOfTwo 6 = .ok (.iconst 0, 1) := by decide +kernel
theorem dX2_milesOfTwo_7 : decode cX2_milesOfTwo 7 = .ok (.istore 6, 2) := by decide +kernel
theorem dX2_milesOfTwo_9 : decode cX2_milesOfTwo 9 = .ok (.lload 4, 2) := by decide +kernel
theorem dX2_milesOfTwo_11 : decode cX2_milesOfTwo 11 = .ok (.invokestatic 120, 3) := by decide +kernel
theorem dX2_milesOfTwo_14 : decode cX2_milesOfTwo 14 = .ok (.istore 7, 2) := by decide +kernel
theorem dX2_milesOfTwo_16 : decode cX2_milesOfTwo 16 = .ok (.iconst 0, 1) := by decide +kernel
theorem dX2_milesOfTwo_17 : decode cX2_milesOfTwo 17 = .ok (.istore 8, 2) := by decide +kernel
theorem dX2_milesOfTwo_19 : decode cX2_milesOfTwo 19 = .ok (.iconst 0, 1) := by decide +kernel
theorem dX2_milesOfTwo_20 : decode cX2_milesOfTwo 20 = .ok (.istore 9, 2) := by decide +kernel
theorem dX2_milesOfTwo_22 : decode cX2_milesOfTwo 22 = .ok (.iconst 0, 1) := by decide +kernel
theorem dX2_milesOfTwo_23 : decode cX2_milesOfTwo 23 = .ok (.istore 10, 2) := by decide +kernel
theorem dX2_milesOfTwo_25 : decode cX2_milesOfTwo 25 = .ok (.iload 10, 2) := by decide +kernel
theorem dX2_milesOfTwo_27 : decode cX2_milesOfTwo 27 = .ok (.bipush 48, 2) := by decide +kernel
theorem dX2_milesOfTwo_29 : decode cX2_milesOfTwo 29 = .ok (.if_icmp .ge 75, 3) := by decide +kernel
theorem dX2_milesOfTwo_32 : decode cX2_milesOfTwo 32 = .ok (.aload_n 0, 1) := by decide +kernel
theorem dX2_milesOfTwo_33 : decode cX2_milesOfTwo 33 = .ok (.lload 4, 2) := by decide +kernel
theorem dX2_milesOfTwo_35 : decode cX2_milesOfTwo 35 = .ok (.iload 6, 2) := by decide +kernel
theorem dX2_milesOfTwo_37 : decode cX2_milesOfTwo 37 = .ok (.iload_n 1, 1) := by decide +kernel
theorem dX2_milesOfTwo_38 : decode cX2_milesOfTwo 38 = .ok (.iconst 1, 1) := by decide +kernel
theorem dX2_milesOfTwo_39 : decode cX2_milesOfTwo 39 = .ok (.invokevirtual 123, 3) := by decide +kernel
theorem dX2_milesOfTwo_42 : decode cX2_milesOfTwo 42 = .ok (.istore 11, 2) := by decide +kernel
theorem dX2_milesOfTwo_44 : decode cX2_milesOfTwo 44 = .ok (.iload 11, 2) := by decide +kernel
theorem dX2_milesOfTwo_46 : decode cX2_milesOfTwo 46 = .ok (.bipush (-9), 2) := by decide +kernel
theorem dX2_milesOfTwo_48 : decode cX2_milesOfTwo 48 = .ok (.if_icmp .eq 17, 3) := by decide +kernel
theorem dX2_milesOfTwo_51 : decode cX2_milesOfTwo 51 = .ok (.iload 11, 2) := by decide +kernel
theorem dX2_milesOfTwo_53 : decode cX2_milesOfTwo 53 = .ok (.iload 7, 2) := by decide +kernel
theorem dX2_milesOfTwo_55 : decode cX2_milesOfTwo 55 = .ok (.if_icmp .ge 10, 3) := by decide +kernel
theorem dX2_milesOfTwo_58 : decode cX2_milesOfTwo 58 = .ok (.iload 11, 2) := by decide +kernel
theorem dX2_milesOfTwo_60 : decode cX2_milesOfTwo 60 = .ok (.istore 6, 2) := by decide +kernel
theorem dX2_milesOfTwo_62 : decode cX2_milesOfTwo 62 = .ok (.iinc 8 1, 3) := by decide +kernel
theorem dX2_milesOfTwo_65 : decode cX2_milesOfTwo 65 = .ok (.aload_n 0, 1) := by decide +kernel
theorem dX2_milesOfTwo_66 : decode cX2_milesOfTwo 66 = .ok (.lload 4, 2) := by decide +kernel
theorem dX2_milesOfTwo_68 : decode cX2_milesOfTwo 68 = .ok (.iload 7, 2) := by decide +kernel
theorem dX2_milesOfTwo_70 : decode cX2_milesOfTwo 70 = .ok (.iload_n 2, 1) := by decide +kernel
theorem dX2_milesOfTwo_71 : decode cX2_milesOfTwo 71 = .ok (.iconst (-1), 1) := by decide +kernel
theorem dX2_milesOfTwo_72 : decode cX2_milesOfTwo 72 = .ok (.invokevirtual 123, 3) := by decide +kernel
theorem dX2_milesOfTwo_75 : decode cX2_milesOfTwo 75 = .ok (.istore 11, 2) := by decide +kernel
theorem dX2_milesOfTwo_77 : decode cX2_milesOfTwo 77 = .ok (.iload 11, 2) := by decide +kernel
theorem dX2_milesOfTwo_79 : decode cX2_milesOfTwo 79 = .ok (.bipush (-9), 2) := by decide +kernel
theorem dX2_milesOfTwo_81 : decode cX2_milesOfTwo 81 = .ok (.if_icmp .eq 17, 3) := by decide +kernel
theorem dX2_milesOfTwo_84 : decode cX2_milesOfTwo 84 = .ok (.iload 6, 2) := by decide +kernel
theorem dX2_milesOfTwo_86 : decode cX2_milesOfTwo 86 = .ok (.iload 11, 2) := by decide +kernel
theorem dX2_milesOfTwo_88 : decode cX2_milesOfTwo 88 = .ok (.if_icmp .ge 10, 3) := by decide +kernel
theorem dX2_milesOfTwo_91 : decode cX2_milesOfTwo 91 = .ok (.iload 11, 2) := by decide +kernel
theorem dX2_milesOfTwo_93 : decode cX2_milesOfTwo 93 = .ok (.istore 7, 2) := by decide +kernel
theorem dX2_milesOfTwo_95 : decode cX2_milesOfTwo 95 = .ok (.iinc 9 1, 3) := by decide +kernel
theorem dX2_milesOfTwo_98 : decode cX2_milesOfTwo 98 = .ok (.iinc 10 1, 3) := by decide +kernel
theorem dX2_milesOfTwo_101 : decode cX2_milesOfTwo 101 = .ok (.goto (-76), 3) := by decide +kernel
theorem dX2_milesOfTwo_104 : decode cX2_milesOfTwo 104 = .ok (.iload_n 3, 1) := by decide +kernel
theorem dX2_milesOfTwo_105 : decode cX2_milesOfTwo 105 = .ok (.ifCond .eq 10, 3) := by decide +kernel
theorem dX2_milesOfTwo_108 : decode cX2_milesOfTwo 108 = .ok (.iload_n 1, 1) := by decide +kernel
theorem dX2_milesOfTwo_109 : decode cX2_milesOfTwo 109 = .ok (.iload 8, 2) := by decide +kernel
theorem dX2_milesOfTwo_111 : decode cX2_milesOfTwo 111 = .ok (.imul, 1) := by decide +kernel
theorem dX2_milesOfTwo_112 : decode cX2_milesOfTwo 112 = .ok (.goto 7, 3) := by decide +kernel
theorem dX2_milesOfTwo_115 : decode cX2_milesOfTwo 115 = .ok (.iload_n 2, 1) := by decide +kernel
theorem dX2_milesOfTwo_116 : decode cX2_milesOfTwo 116 = .ok (.iload 9, 2) := by decide +kernel
theorem dX2_milesOfTwo_118 : decode cX2_milesOfTwo 118 = .ok (.imul, 1) := by decide +kernel
theorem dX2_milesOfTwo_119 : decode cX2_milesOfTwo 119 = .ok (.ireturn, 1) := by decide +kernel
theorem dX2_stepFrom_0 : decode cX2_stepFrom 0 = .ok (.iconst 1, 1) := by decide +kernel
theorem dX2_stepFrom_1 : decode cX2_stepFrom 1 = .ok (.istore 6, 2) := by decide +kernel
theorem dX2_stepFrom_3 : decode cX2_stepFrom 3 = .ok (.iload 6, 2) := by decide +kernel
theorem dX2_stepFrom_5 : decode cX2_stepFrom 5 = .ok (.aload_n 0, 1) := by decide +kernel
theorem dX2_stepFrom_6 : decode cX2_stepFrom 6 = .ok (.getfield 39, 3) := by decide +kernel
theorem dX2_stepFrom_9 : decode cX2_stepFrom 9 = .ok (.if_icmp .gt 42, 3) := by decide +kernel
theorem dX2_stepFrom_12 : decode cX2_stepFrom 12 = .ok (.iload_n 3, 1) := by decide +kernel
theorem dX2_stepFrom_13 : decode cX2_stepFrom 13 = .ok (.iload 6, 2) := by decide +kernel
theorem dX2_stepFrom_15 : decode cX2_stepFrom 15 = .ok (.iload 5, 2) := by decide +kernel
theorem dX2_stepFrom_17 : decode cX2_stepFrom 17 = .ok (.imul, 1) := by decide +kernel
theorem dX2_stepFrom_18 : decode cX2_stepFrom 18 = .ok (.iadd, 1) := by decide +kernel
theorem dX2_stepFrom_19 : decode cX2_stepFrom 19 = .ok (.istore 7, 2) := by decide +kernel
theorem dX2_stepFrom_21 : decode cX2_stepFrom 21 = .ok (.lload_n 1, 1) := by decide +kernel
theorem dX2_stepFrom_22 : decode cX2_stepFrom 22 = .ok (.iload 7, 2) := by decide +kernel
theorem dX2_stepFrom_24 : decode cX2_stepFrom 24 = .ok (.invokestatic 96, 3) := by decide +kernel
theorem dX2_stepFrom_27 : decode cX2_stepFrom 27 = .ok (.ifCond .eq 18, 3) := by decide +kernel
theorem dX2_stepFrom_30 : decode cX2_stepFrom 30 = .ok (.aload_n 0, 1) := by decide +kernel
theorem dX2_stepFrom_31 : decode cX2_stepFrom 31 = .ok (.iload_n 3, 1) := by decide +kernel
theorem dX2_stepFrom_32 : decode cX2_stepFrom 32 = .ok (.iload 7, 2) := by decide +kernel
theorem dX2_stepFrom_34 : decode cX2_stepFrom 34 = .ok (.iload 4, 2) := by decide +kernel
theorem dX2_stepFrom_36 : decode cX2_stepFrom 36 = .ok (.invokevirtual 100, 3) := by decide +kernel
theorem dX2_stepFrom_39 : decode cX2_stepFrom 39 = .ok (.ifCond .eq 6, 3) := by decide +kernel
theorem dX2_stepFrom_42 : decode cX2_stepFrom 42 = .ok (.iload 7, 2) := by decide +kernel
theorem dX2_stepFrom_44 : decode cX2_stepFrom 44 = .ok (.ireturn, 1) := by decide +kernel
theorem dX2_stepFrom_45 : decode cX2_stepFrom 45 = .ok (.iinc 6 1, 3) := by decide +kernel
theorem dX2_stepFrom_48 : decode cX2_stepFrom 48 = .ok (.goto (-45), 3) := by decide +kernel
theorem dX2_stepFrom_51 : decode cX2_stepFrom 51 = .ok (.bipush (-9), 2) := by decide +kernel
theorem dX2_stepFrom_53 : decode cX2_stepFrom 53 = .ok (.ireturn, 1) := by decide +kernel
theorem dX3_init_0 : decode cX3_init 0 = .ok (.aload_n 0, 1) := by decide +kernel
theorem dX3_init_1 : decode cX3_init 1 = .ok (.invokespecial 3, 3) := by decide +kernel
theorem dX3_init_4 : decode cX3_init 4 = .ok (.aload_n 0, 1) := by decide +kernel
theorem dX3_init_5 : decode cX3_init 5 = .ok (.bipush 80, 2) := by decide +kernel
theorem dX3_init_7 : decode cX3_init 7 = .ok (.newarray .int, 2) := by decide +kernel
theorem dX3_init_9 : decode cX3_init 9 = .ok (.putfield 9, 3) := by decide +kernel
theorem dX3_init_12 : decode cX3_init 12 = .ok (.return_, 1) := by decide +kernel
theorem dX3_append_0 : decode cX3_append 0 = .ok (.aload_n 0, 1) := by decide +kernel
theorem dX3_append_1 : decode cX3_append 1 = .ok (.getfield 15, 3) := by decide +kernel
theorem dX3_append_4 : decode cX3_append 4 = .ok (.ifCond .lt 15, 3) := by decide +kernel
theorem dX3_append_7 : decode cX3_append 7 = .ok (.aload_n 0, 1) := by decide +kernel
theorem dX3_append_8 : decode cX3_append 8 = .ok (.getfield 15, 3) := by decide +kernel
theorem dX3_append_11 : decode cX3_append 11 = .ok (.aload_n 0, 1) := by decide +kernel
theorem dX3_append_12 : decode cX3_append 12 = .ok (.getfield 9, 3) := by decide +kernel
theorem dX3_append_15 : decode cX3_append 15 = .ok (.arraylength, 1) := by decide +kernel
theorem dX3_append_16 : decode cX3_append 16 = .ok (.if_icmp .lt 5, 3) := by decide +kernel
theorem dX3_append_19 : decode cX3_append 19 = .ok (.iconst 0, 1) := by decide +kernel
theorem dX3_append_20 : decode cX3_append 20 = .ok (.ireturn, 1) := by decide +kernel
theorem dX3_append_21 : decode cX3_append 21 = .ok (.aload_n 0, 1) := by decide +kernel
theorem dX3_append_22 : decode cX3_append 22 = .ok (.getfield 9, 3) := by decide +kernel
theorem dX3_append_25 : decode cX3_append 25 = .ok (.aload_n 0, 1) := by decide +kernel
theorem dX3_append_26 : decode cX3_append 26 = .ok (.getfield 15, 3) := by decide +kernel
theorem dX3_append_29 : decode cX3_append 29 = .ok (.iload_n 1, 1) := by decide +kernel
theorem dX3_append_30 : decode cX3_append 30 = .ok (.iastore, 1) := by decide +kernel
theorem dX3_append_31 : decode cX3_append 31 = .ok (.aload_n 0, 1) := by decide +kernel
theorem dX3_append_32 : decode cX3_append 32 = .ok (.dup, 1) := by decide +kernel
theorem dX3_append_33 : decode cX3_append 33 = .ok (.getfield 15, 3) := by decide +kernel
theorem dX3_append_36 : decode cX3_append 36 = .ok (.iconst 1, 1) := by decide +kernel
theorem dX3_append_37 : decode cX3_append 37 = .ok (.iadd, 1) := by decide +kernel
theorem dX3_append_38 : decode cX3_append 38 = .ok (.putfield 15, 3) := by decide +kernel
theorem dX3_append_41 : decode cX3_append 41 = .ok (.iconst 1, 1) := by decide +kernel
theorem dX3_append_42 : decode cX3_append 42 = .ok (.ireturn, 1) := by decide +kernel
theorem dX3_letterAt_0 : decode cX3_letterAt 0 = .ok (.iload_n 1, 1) := by decide +kernel
theorem dX3_letterAt_1 : decode cX3_letterAt 1 = .ok (.ifCond .lt 20, 3) := by decide +kernel
theorem dX3_letterAt_4 : decode cX3_letterAt 4 = .ok (.iload_n 1, 1) := by decide +kernel
theorem dX3_letterAt_5 : decode cX3_letterAt 5 = .ok (.aload_n 0, 1) := by decide +kernel
theorem dX3_letterAt_6 : decode cX3_letterAt 6 = .ok (.getfield 15, 3) := by decide +kernel
theorem dX3_letterAt_9 : decode cX3_letterAt 9 = .ok (.if_icmp .ge 12, 3) := by decide +kernel
theorem dX3_letterAt_12 : decode cX3_letterAt 12 = .ok (.iload_n 1, 1) := by decide +kernel
theorem dX3_letterAt_13 : decode cX3_letterAt 13 = .ok (.aload_n 0, 1) := by decide +kernel
theorem dX3_letterAt_14 : decode cX3_letterAt 14 = .ok (.getfield 9, 3) := by decide +kernel
theorem dX3_letterAt_17 : decode cX3_letterAt 17 = .ok (.arraylength, 1) := by decide +kernel
theorem dX3_letterAt_18 : decode cX3_letterAt 18 = .ok (.if_icmp .lt 7, 3) := by decide +kernel
theorem dX3_letterAt_21 : decode cX3_letterAt 21 = .ok (.iconst (-1), 1) := by decide +kernel
theorem dX3_letterAt_22 : decode cX3_letterAt 22 = .ok (.goto 9, 3) := by decide +kernel
theorem dX3_letterAt_25 : decode cX3_letterAt 25 = .ok (.aload_n 0, 1) := by decide +kernel
theorem dX3_letterAt_26 : decode cX3_letterAt 26 = .ok (.getfield 9, 3) := by decide +kernel
theorem dX3_letterAt_29 : decode cX3_letterAt 29 = .ok (.iload_n 1, 1) := by decide +kernel
theorem dX3_letterAt_30 : decode cX3_letterAt 30 = .ok (.iaload, 1) := by decide +kernel
theorem dX3_letterAt_31 : decode cX3_letterAt 31 = .ok (.ireturn, 1) := by decide +kernel
theorem dX3_isDigit_0 : decode cX3_isDigit 0 = .ok (.aload_n 0, 1) := by decide +kernel
theorem dX3_isDigit_1 : decode cX3_isDigit 1 = .ok (.iload_n 1, 1) := by decide +kernel
theorem dX3_isDigit_2 : decode cX3_isDigit 2 = .ok (.invokevirtual 19, 3) := by decide +kernel
theorem dX3_isDigit_5 : decode cX3_isDigit 5 = .ok (.istore_n 2, 1) := by decide +kernel
theorem dX3_isDigit_6 : decode cX3_isDigit 6 = .ok (.iload_n 2, 1) := by decide +kernel
theorem dX3_isDigit_7 : decode cX3_isDigit 7 = .ok (.bipush 48, 2) := by decide +kernel
theorem dX3_isDigit_9 : decode cX3_isDigit 9 = .ok (.if_icmp .lt 13, 3) := by decide +kernel
theorem dX3_isDigit_12 : decode cX3_isDigit 12 = .ok (.iload_n 2, 1) := by decide +kernel
theorem dX3_isDigit_13 : decode cX3_isDigit 13 = .ok (.bipush 57, 2) := by decide +kernel
theorem dX3_isDigit_15 : decode cX3_isDigit 15 = .ok (.if_icmp .gt 7, 3) := by decide +kernel
theorem dX3_isDigit_18 : decode cX3_isDigit 18 = .ok (.iconst 1, 1) := by decide +kernel
theorem dX3_isDigit_19 : decode cX3_isDigit 19 = .ok (.goto 4, 3) := by decide +kernel
theorem dX3_isDigit_22 : decode cX3_isDigit 22 = .ok (.iconst 0, 1) := by decide +kernel
theorem dX3_isDigit_23 : decode cX3_isDigit 23 = .ok (.ireturn, 1) := by decide +kernel
theorem dX3_digitAt_0 : decode cX3_digitAt 0 = .ok (.aload_n 0, 1) := by decide +kernel
theorem dX3_digitAt_1 : decode cX3_digitAt 1 = .ok (.iload_n 1, 1) := by decide +kernel
theorem dX3_digitAt_2 : decode cX3_digitAt 2 = .ok (.invokevirtual 19, 3) := by decide +kernel
theorem dX3_digitAt_5 : decode cX3_digitAt 5 = .ok (.bipush 48, 2) := by decide +kernel
theorem dX3_digitAt_7 : decode cX3_digitAt 7 = .ok (.isub, 1) := by decide +kernel
theorem dX3_digitAt_8 : decode cX3_digitAt 8 = .ok (.ireturn, 1) := by decide +kernel
theorem dX3_pairAt_0 : decode cX3_pairAt 0 = .ok (.bipush 10, 2) := by decide +kernel
theorem dX3_pairAt_2 : decode cX3_pairAt 2 = .ok (.aload_n 0, 1) := by decide +kernel
theorem dX3_pairAt_3 : decode cX3_pairAt 3 = .ok (.iload_n 1, 1) := by decide +kernel
theorem dX3_pairAt_4 : decode cX3_pairAt 4 = .ok (.invokevirtual 23, 3) := by decide +kernel
theorem dX3_pairAt_7 : decode cX3_pairAt 7 = .ok (.imul, 1) := by decide +kernel
theorem dX3_pairAt_8 : decode cX3_pairAt 8 = .ok (.aload_n 0, 1) := by decide +kernel
theorem dX3_pairAt_9 : decode cX3_pairAt 9 = .ok (.iload_n 1, 1) := by decide +kernel
theorem dX3_pairAt_10 : decode cX3_pairAt 10 = .ok (.iconst 1, 1) := by decide +kernel
theorem dX3_pairAt_11 : decode cX3_pairAt 11 = .ok (.iadd, 1) := by decide +kernel
theorem dX3_pairAt_12 : decode cX3_pairAt 12 = .ok (.invokevirtual 23, 3) := by decide +kernel
theorem dX3_pairAt_15 : decode cX3_pairAt 15 = .ok (.iadd, 1) := by decide +kernel
theorem dX3_pairAt_16 : decode cX3_pairAt 16 = .ok (.ireturn, 1) := by decide +kernel
theorem dX3_isWay_0 : decode cX3_isWay 0 = .ok (.aload_n 0, 1) := by decide +kernel
theorem dX3_isWay_1 : decode cX3_isWay 1 = .ok (.iload_n 1, 1) := by decide +kernel
theorem dX3_isWay_2 : decode cX3_isWay 2 = .ok (.invokevirtual 19, 3) := by decide +kernel
theorem dX3_isWay_5 : decode cX3_isWay 5 = .ok (.istore_n 2, 1) := by decide +kernel
theorem dX3_isWay_6 : decode cX3_isWay 6 = .ok (.iload_n 2, 1) := by decide +kernel
theorem dX3_isWay_7 : decode cX3_isWay 7 = .ok (.bipush 110, 2) := by decide +kernel
theorem dX3_isWay_9 : decode cX3_isWay 9 = .ok (.if_icmp .eq 21, 3) := by decide +kernel
theorem dX3_isWay_12 : decode cX3_isWay 12 = .ok (.iload_n 2, 1) := by decide +kernel
theorem dX3_isWay_13 : decode cX3_isWay 13 = .ok (.bipush 101, 2) := by decide +kernel
theorem dX3_isWay_15 : decode cX3_isWay 15 = .ok (.if_icmp .eq 15, 3) := by decide +kernel
theorem dX3_isWay_18 : decode cX3_isWay 18 = .ok (.iload_n 2, 1) := by decide +kernel
theorem dX3_isWay_19 : decode cX3_isWay 19 = .ok (.bipush 115, 2) := by decide +kernel
theorem dX3_isWay_21 : decode cX3_isWay 21 = .ok (.if_icmp .eq 9, 3) := by decide +kernel
theorem dX3_isWay_24 : decode cX3_isWay 24 = .ok (.iload_n 2, 1) := by decide +kernel
theorem dX3_isWay_25 : decode cX3_isWay 25 = .ok (.bipush 119, 2) := by decide +kernel
theorem dX3_isWay_27 : decode cX3_isWay 27 = .ok (.if_icmp .ne 7, 3) := by decide +kernel
theorem dX3_isWay_30 : decode cX3_isWay 30 = .ok (.iconst 1, 1) := by decide +kernel
theorem dX3_isWay_31 : decode cX3_isWay 31 = .ok (.goto 4, 3) := by decide +kernel
theorem dX3_isWay_34 : decode cX3_isWay 34 = .ok (.iconst 0, 1) := by decide +kernel
theorem dX3_isWay_35 : decode cX3_isWay 35 = .ok (.ireturn, 1) := by decide +kernel
theorem dX3_waysFrom_0 : decode cX3_waysFrom 0 = .ok (.iconst 0, 1) := by decide +kernel
theorem dX3_waysFrom_1 : decode cX3_waysFrom 1 = .ok (.istore_n 2, 1) := by decide +kernel
theorem dX3_waysFrom_2 : decode cX3_waysFrom 2 = .ok (.iload_n 2, 1) := by decide +kernel
theorem dX3_waysFrom_3 : decode cX3_waysFrom 3 = .ok (.bipush 9, 2) := by decide +kernel
theorem dX3_waysFrom_5 : decode cX3_waysFrom 5 = .ok (.if_icmp .ge 19, 3) := by decide +kernel
theorem dX3_waysFrom_8 : decode cX3_waysFrom 8 = .ok (.aload_n 0, 1) := by decide +kernel
theorem dX3_waysFrom_9 : decode cX3_waysFrom 9 = .ok (.iload_n 1, 1) := by decide +kernel
theorem dX3_waysFrom_10 : decode cX3_waysFrom 10 = .ok (.iload_n 2, 1) := by decide +kernel
theorem dX3_waysFrom_11 : decode cX3_waysFrom 11 = .ok (.iadd, 1) := by decide +kernel
theorem dX3_waysFrom_12 : decode cX3_waysFrom 12 = .ok (.invokevirtual 26, 3) := by decide +kernel
theorem dX3_waysFrom_15 : decode cX3_waysFrom 15 = .ok (.ifCond .eq 9, 3) := by decide +kernel
theorem dX3_waysFrom_18 : decode cX3_waysFrom 18 = .ok (.iinc 2 1, 3) := by decide +kernel
theorem dX3_waysFrom_21 : decode cX3_waysFrom 21 = .ok (.goto (-19), 3) := by decide +kernel
theorem dX3_waysFrom_24 : decode cX3_waysFrom 24 = .ok (.iload_n 2, 1) := by decide +kernel
theorem dX3_waysFrom_25 : decode cX3_waysFrom 25 = .ok (.ireturn, 1) := by decide +kernel
theorem dX3_digitsOf_0 : decode cX3_digitsOf 0 = .ok (.iload_n 0, 1) := by decide +kernel
theorem dX3_digitsOf_1 : decode cX3_digitsOf 1 = .ok (.lookupswitch 42 #[(99, 35), (114, 37), (116, 40)], 35) := by decide +kernel
theorem dX3_digitsOf_36 : decode cX3_digitsOf 36 = .ok (.iconst 2, 1) := by decide +kernel
theorem dX3_digitsOf_37 : decode cX3_digitsOf 37 = .ok (.ireturn, 1) := by decide +kernel
theorem dX3_digitsOf_38 : decode cX3_digitsOf 38 = .ok (.bipush 6, 2) := by decide +kernel
theorem dX3_digitsOf_40 : decode cX3_digitsOf 40 = .ok (.ireturn, 1) := by decide +kernel
theorem dX3_digitsOf_41 : decode cX3_digitsOf 41 = .ok (.iconst 1, 1) := by decide +kernel
theorem dX3_digitsOf_42 : decode cX3_digitsOf 42 = .ok (.ireturn, 1) := by decide +kernel
theorem dX3_digitsOf_43 : decode cX3_digitsOf 43 = .ok (.iconst (-1), 1) := by decide +kernel
theorem dX3_digitsOf_44 : decode cX3_digitsOf 44 = .ok (.ireturn, 1) := by decide +kernel
theorem dX3_behindStatement_0 : decode cX3_behindStatement 0 = .ok (.aload_n 0, 1) := by decide +kernel
theorem dX3_behindStatement_1 : decode cX3_behindStatement 1 = .ok (.iload_n 1, 1) := by decide +kernel
theorem dX3_behindStatement_2 : decode cX3_behindStatement 2 = .ok (.invokevirtual 19, 3) := by decide +kernel
theorem dX3_behindStatement_5 : decode cX3_behindStatement 5 = .ok (.invokestatic 30, 3) := by decide +kernel
theorem dX3_behindStatement_8 : decode cX3_behindStatement 8 = .ok (.istore_n 2, 1) := by decide +kernel
theorem dX3_behindStatement_9 : decode cX3_behindStatement 9 = .ok (.iload_n 2, 1) := by decide +kernel
theorem dX3_behindStatement_10 : decode cX3_behindStatement 10 = .ok (.ifCond .ge 7, 3) := by decide +kernel
theorem dX3_behindStatement_13 : decode cX3_behindStatement 13 = .ok (.iconst (-1), 1) := by decide +kernel
theorem dX3_behindStatement_14 : decode cX3_behindStatement 14 = .ok (.iload_n 1, 1) := by decide +kernel
theorem dX3_behindStatement_15 : decode cX3_behindStatement 15 = .ok (.isub, 1) := by decide +kernel
theorem dX3_behindStatement_16 : decode cX3_behindStatement 16 = .ok (.ireturn, 1) := by decide +kernel
theorem dX3_behindStatement_17 : decode cX3_behindStatement 17 = .ok (.iload_n 1, 1) := by decide +kernel
theorem dX3_behindStatement_18 : decode cX3_behindStatement 18 = .ok (.iconst 1, 1) := by decide +kernel
theorem dX3_behindStatement_19 : decode cX3_behindStatement 19 = .ok (.iadd, 1) := by decide +kernel
theorem dX3_behindStatement_20 : decode cX3_behindStatement 20 = .ok (.istore_n 3, 1) := by decide +kernel
theorem dX3_behindStatement_21 : decode cX3_behindStatement 21 = .ok (.iconst 0, 1) := by decide +kernel
theorem dX3_behindStatement_22 : decode cX3_behindStatement 22 = .ok (.istore 4, 2) := by decide +kernel
theorem dX3_behindStatement_24 : decode cX3_behindStatement 24 = .ok (.iload 4, 2) := by decide +kernel
theorem dX3_behindStatement_26 : decode cX3_behindStatement 26 = .ok (.iload_n 2, 1) := by decide +kernel
theorem dX3_behindStatement_27 : decode cX3_behindStatement 27 = .ok (.if_icmp .ge 24, 3) := by decide +kernel
theorem dX3_behindStatement_30 : decode cX3_behindStatement 30 = .ok (.aload_n 0, 1) := by decide +kernel
theorem dX3_behindStatement_31 : decode cX3_behindStatement 31 = .ok (.iload_n 3, 1) := by decide +kernel
theorem dX3_behindStatement_32 : decode cX3_behindStatement 32 = .ok (.invokevirtual 33, 3) := by decide +kernel
theorem dX3_behindStatement_35 : decode cX3_behindStatement 35 = .ok (.ifCond .ne 7, 3) := by decide +kernel
theorem dX3_behindStatement_38 : decode cX3_behindStatement 38 = .ok (.iconst (-1), 1) := by decide +kernel
theorem dX3_behindStatement_39 : decode cX3_behindStatement 39 = .ok (.iload_n 3, 1) := by decide +kernel
theorem dX3_behindStatement_40 : decode cX3_behindStatement 40 = .ok (.isub, 1) := by decide +kernel
theorem dX3_behindStatement_41 : decode cX3_behindStatement 41 = .ok (.ireturn, 1) := by decide +kernel
theorem dX3_behindStatement_42 : decode cX3_behindStatement 42 = .ok (.iinc 3 1, 3) := by decide +kernel
theorem dX3_behindStatement_45 : decode cX3_behindStatement 45 = .ok (.iinc 4 1, 3) := by decide +kernel
theorem dX3_behindStatement_48 : decode cX3_behindStatement 48 = .ok (.goto (-24), 3) := by decide +kernel
theorem dX3_behindStatement_51 : decode cX3_behindStatement 51 = .ok (.aload_n 0, 1) := by decide +kernel
theorem dX3_behindStatement_52 : decode cX3_behindStatement 52 = .ok (.iload_n 1, 1) := by decide +kernel
theorem dX3_behindStatement_53 : decode cX3_behindStatement 53 = .ok (.invokevirtual 19, 3) := by decide +kernel
theorem dX3_behindStatement_56 : decode cX3_behindStatement 56 = .ok (.bipush 99, 2) := by decide +kernel
theorem dX3_behindStatement_58 : decode cX3_behindStatement 58 = .ok (.if_icmp .ne 24, 3) := by decide +kernel
theorem dX3_behindStatement_61 : decode cX3_behindStatement 61 = .ok (.aload_n 0, 1) := by decide +kernel
theorem dX3_behindStatement_62 : decode cX3_behindStatement 62 = .ok (.iload_n 3, 1) := by decide +kernel
theorem dX3_behindStatement_63 : decode cX3_behindStatement 63 = .ok (.invokevirtual 36, 3) := by decide +kernel
theorem dX3_behindStatement_66 : decode cX3_behindStatement 66 = .ok (.istore 4, 2) := by decide +kernel
theorem dX3_behindStatement_68 : decode cX3_behindStatement 68 = .ok (.iload 4, 2) := by decide +kernel
theorem dX3_behindStatement_70 : decode cX3_behindStatement 70 = .ok (.ifCond .ne 7, 3) := by decide +kernel
theorem dX3_behindStatement_73 : decode cX3_behindStatement 73 = .ok (.iconst (-1), 1) := by decide +kernel
theorem dX3_behindStatement_74 : decode cX3_behindStatement 74 = .ok (.iload_n 3, 1) := by decide +kernel
theorem dX3_behindStatement_75 : decode cX3_behindStatement 75 = .ok (.isub, 1) := by decide +kernel
theorem dX3_behindStatement_76 : decode cX3_behindStatement 76 = .ok (.ireturn, 1) := by decide +kernel
theorem dX3_behindStatement_77 : decode cX3_behindStatement 77 = .ok (.iload_n 3, 1) := by decide +kernel
theorem dX3_behindStatement_78 : decode cX3_behindStatement 78 = .ok (.iload 4, 2) := by decide +kernel
theorem dX3_behindStatement_80 : decode cX3_behindStatement 80 = .ok (.iadd, 1) := by decide +kernel
theorem dX3_behindStatement_81 : decode cX3_behindStatement 81 = .ok (.istore_n 3, 1) := by decide +kernel
theorem dX3_behindStatement_82 : decode cX3_behindStatement 82 = .ok (.aload_n 0, 1) := by decide +kernel
theorem dX3_behindStatement_83 : decode cX3_behindStatement 83 = .ok (.iload_n 3, 1) := by decide +kernel
theorem dX3_behindStatement_84 : decode cX3_behindStatement 84 = .ok (.invokevirtual 19, 3) := by decide +kernel
theorem dX3_behindStatement_87 : decode cX3_behindStatement 87 = .ok (.bipush 59, 2) := by decide +kernel
theorem dX3_behindStatement_89 : decode cX3_behindStatement 89 = .ok (.if_icmp .ne 9, 3) := by decide +kernel
theorem dX3_behindStatement_92 : decode cX3_behindStatement 92 = .ok (.iload_n 3, 1) := by decide +kernel
theorem dX3_behindStatement_93 : decode cX3_behindStatement 93 = .ok (.iconst 1, 1) := by decide +kernel
theorem dX3_behindStatement_94 : decode cX3_behindStatement 94 = .ok (.iadd, 1) := by decide +kernel
theorem dX3_behindStatement_95 : decode cX3_behindStatement 95 = .ok (.goto 6, 3) := by decide +kernel
theorem dX3_behindStatement_98 : decode cX3_behindStatement 98 = .ok (.iconst (-1), 1) := by decide +kernel
theorem dX3_behindStatement_99 : decode cX3_behindStatement 99 = .ok (.iload_n 3, 1) := by decide +kernel
theorem dX3_behindStatement_100 : decode cX3_behindStatement 100 = .ok (.isub, 1) := by decide +kernel
theorem dX3_behindStatement_101 : decode cX3_behindStatement 101 = .ok (.ireturn, 1) := by decide +kernel
theorem dX3_wrongLetter_0 : decode cX3_wrongLetter 0 = .ok (.iconst 0, 1) := by decide +kernel
theorem dX3_wrongLetter_1 : decode cX3_wrongLetter 1 = .ok (.istore_n 1, 1) := by decide +kernel
theorem dX3_wrongLetter_2 : decode cX3_wrongLetter 2 = .ok (.iconst 0, 1) := by decide +kernel
theorem dX3_wrongLetter_3 : decode cX3_wrongLetter 3 = .ok (.istore_n 2, 1) := by decide +kernel
theorem dX3_wrongLetter_4 : decode cX3_wrongLetter 4 = .ok (.iload_n 2, 1) := by decide +kernel
theorem dX3_wrongLetter_5 : decode cX3_wrongLetter 5 = .ok (.bipush 80, 2) := by decide +kernel
theorem dX3_wrongLetter_7 : decode cX3_wrongLetter 7 = .ok (.if_icmp .ge 37, 3) := by decide +kernel
theorem dX3_wrongLetter_10 : decode cX3_wrongLetter 10 = .ok (.iload_n 2, 1) := by decide +kernel
theorem dX3_wrongLetter_11 : decode cX3_wrongLetter 11 = .ok (.ifCond .eq 11, 3) := by decide +kernel
theorem dX3_wrongLetter_14 : decode cX3_wrongLetter 14 = .ok (.iload_n 1, 1) := by decide +kernel
theorem dX3_wrongLetter_15 : decode cX3_wrongLetter 15 = .ok (.aload_n 0, 1) := by decide +kernel
theorem dX3_wrongLetter_16 : decode cX3_wrongLetter 16 = .ok (.getfield 15, 3) := by decide +kernel
theorem dX3_wrongLetter_19 : decode cX3_wrongLetter 19 = .ok (.if_icmp .ge 25, 3) := by decide +kernel
theorem dX3_wrongLetter_22 : decode cX3_wrongLetter 22 = .ok (.aload_n 0, 1) := by decide +kernel
theorem dX3_wrongLetter_23 : decode cX3_wrongLetter 23 = .ok (.iload_n 1, 1) := by decide +kernel
theorem dX3_wrongLetter_24 : decode cX3_wrongLetter 24 = .ok (.invokevirtual 39, 3) := by decide +kernel
theorem dX3_wrongLetter_27 : decode cX3_wrongLetter 27 = .ok (.istore_n 3, 1) := by decide +kernel
theorem dX3_wrongLetter_28 : decode cX3_wrongLetter 28 = .ok (.iload_n 3, 1) := by decide +kernel
theorem dX3_wrongLetter_29 : decode cX3_wrongLetter 29 = .ok (.ifCond .ge 7, 3) := by decide +kernel
theorem dX3_wrongLetter_32 : decode cX3_wrongLetter 32 = .ok (.iconst (-1), 1) := by decide +kernel
theorem dX3_wrongLetter_33 : decode cX3_wrongLetter 33 = .ok (.iload_n 3, 1) := by decide +kernel
theorem dX3_wrongLetter_34 : decode cX3_wrongLetter 34 = .ok (.isub, 1) := by decide +kernel
theorem dX3_wrongLetter_35 : decode cX3_wrongLetter 35 = .ok (.ireturn, 1) := by decide +kernel
theorem dX3_wrongLetter_36 : decode cX3_wrongLetter 36 = .ok (.iload_n 3, 1) := by decide +kernel
theorem dX3_wrongLetter_37 : decode cX3_wrongLetter 37 = .ok (.istore_n 1, 1) := by decide +kernel
theorem dX3_wrongLetter_38 : decode cX3_wrongLetter 38 = .ok (.iinc 2 1, 3) := by decide +kernel
theorem dX3_wrongLetter_41 : decode cX3_wrongLetter 41 = .ok (.goto (-37), 3) := by decide +kernel
theorem dX3_wrongLetter_44 : decode cX3_wrongLetter 44 = .ok (.iconst (-1), 1) := by decide +kernel
theorem dX3_wrongLetter_45 : decode cX3_wrongLetter 45 = .ok (.ireturn, 1) := by decide +kernel
theorem dX3_tell_0 : decode cX3_tell 0 = .ok (.aload_n 0, 1) := by decide +kernel
theorem dX3_tell_1 : decode cX3_tell 1 = .ok (.iload_n 2, 1) := by decide +kernel
theorem dX3_tell_2 : decode cX3_tell 2 = .ok (.invokevirtual 19, 3) := by decide +kernel
theorem dX3_tell_5 : decode cX3_tell 5 = .ok (.lookupswitch 130 #[(99, 27), (114, 93)], 27) := by decide +kernel
theorem dX3_tell_32 : decode cX3_tell 32 = .ok (.aload_n 0, 1) := by decide +kernel
theorem dX3_tell_33 : decode cX3_tell 33 = .ok (.iload_n 2, 1) := by decide +kernel
theorem dX3_tell_34 : decode cX3_tell 34 = .ok (.iconst 3, 1) := by decide +kernel
theorem dX3_tell_35 : decode cX3_tell 35 = .ok (.iadd, 1) := by decide +kernel
theorem dX3_tell_36 : decode cX3_tell 36 = .ok (.invokevirtual 36, 3) := by decide +kernel
theorem dX3_tell_39 : decode cX3_tell 39 = .ok (.istore_n 3, 1) := by decide +kernel
theorem dX3_tell_40 : decode cX3_tell 40 = .ok (.aload_n 1, 1) := by decide +kernel
theorem dX3_tell_41 : decode cX3_tell 41 = .ok (.aload_n 0, 1) := by decide +kernel
theorem dX3_tell_42 : decode cX3_tell 42 = .ok (.iload_n 2, 1) := by decide +kernel
theorem dX3_tell_43 : decode cX3_tell 43 = .ok (.iconst 1, 1) := by decide +kernel
theorem dX3_tell_44 : decode cX3_tell 44 = .ok (.iadd, 1) := by decide +kernel
theorem dX3_tell_45 : decode cX3_tell 45 = .ok (.invokevirtual 23, 3) := by decide +kernel
theorem dX3_tell_48 : decode cX3_tell 48 = .ok (.aload_n 0, 1) := by decide +kernel
theorem dX3_tell_49 : decode cX3_tell 49 = .ok (.iload_n 2, 1) := by decide +kernel
theorem dX3_tell_50 : decode cX3_tell 50 = .ok (.iconst 2, 1) := by decide +kernel
theorem dX3_tell_51 : decode cX3_tell 51 = .ok (.iadd, 1) := by decide +kernel
theorem dX3_tell_52 : decode cX3_tell 52 = .ok (.invokevirtual 23, 3) := by decide +kernel
theorem dX3_tell_55 : decode cX3_tell 55 = .ok (.iload_n 3, 1) := by decide +kernel
theorem dX3_tell_56 : decode cX3_tell 56 = .ok (.invokevirtual 42, 3) := by decide +kernel
theorem dX3_tell_59 : decode cX3_tell 59 = .ok (.istore 4, 2) := by decide +kernel
theorem dX3_tell_61 : decode cX3_tell 61 = .ok (.iconst 0, 1) := by decide +kernel
theorem dX3_tell_62 : decode cX3_tell 62 = .ok (.istore 5, 2) := by decide +kernel
theorem dX3_tell_64 : decode cX3_tell 64 = .ok (.iload 4, 2) := by decide +kernel
theorem dX3_tell_66 : decode cX3_tell 66 = .ok (.ifCond .eq 29, 3) := by decide +kernel
theorem dX3_tell_69 : decode cX3_tell 69 = .ok (.iload 5, 2) := by decide +kernel
theorem dX3_tell_71 : decode cX3_tell 71 = .ok (.iload_n 3, 1) := by decide +kernel
theorem dX3_tell_72 : decode cX3_tell 72 = .ok (.if_icmp .ge 23, 3) := by decide +kernel
theorem dX3_tell_75 : decode cX3_tell 75 = .ok (.aload_n 1, 1) := by decide +kernel
theorem dX3_tell_76 : decode cX3_tell 76 = .ok (.aload_n 0, 1) := by decide +kernel
theorem dX3_tell_77 : decode cX3_tell 77 = .ok (.iload_n 2, 1) := by decide +kernel
theorem dX3_tell_78 : decode cX3_tell 78 = .ok (.iconst 3, 1) := by decide +kernel
theorem dX3_tell_79 : decode cX3_tell 79 = .ok (.iadd, 1) := by decide +kernel
theorem dX3_tell_80 : decode cX3_tell 80 = .ok (.iload 5, 2) := by decide +kernel
theorem dX3_tell_82 : decode cX3_tell 82 = .ok (.iadd, 1) := by decide +kernel
theorem dX3_tell_83 : decode cX3_tell 83 = .ok (.invokevirtual 19, 3) := by decide +kernel
theorem dX3_tell_86 : decode cX3_tell 86 = .ok (.invokevirtual 48, 3) := by decide +kernel
theorem dX3_tell_89 : decode cX3_tell 89 = .ok (.iinc 5 1, 3) := by decide +kernel
theorem dX3_tell_92 : decode cX3_tell 92 = .ok (.goto (-28), 3) := by decide +kernel
theorem dX3_tell_95 : decode cX3_tell 95 = .ok (.iload 4, 2) := by decide +kernel
theorem dX3_tell_97 : decode cX3_tell 97 = .ok (.ireturn, 1) := by decide +kernel
theorem dX3_tell_98 : decode cX3_tell 98 = .ok (.aload_n 1, 1) := by decide +kernel
theorem dX3_tell_99 : decode cX3_tell 99 = .ok (.getfield 52, 3) := by decide +kernel
theorem dX3_tell_102 : decode cX3_tell 102 = .ok (.aload_n 0, 1) := by decide +kernel
theorem dX3_tell_103 : decode cX3_tell 103 = .ok (.iload_n 2, 1) := by decide +kernel
theorem dX3_tell_104 : decode cX3_tell 104 = .ok (.iconst 1, 1) := by decide +kernel
theorem dX3_tell_105 : decode cX3_tell 105 = .ok (.iadd, 1) := by decide +kernel
theorem dX3_tell_106 : decode cX3_tell 106 = .ok (.invokevirtual 56, 3) := by decide +kernel
theorem dX3_tell_109 : decode cX3_tell 109 = .ok (.aload_n 0, 1) := by decide +kernel
theorem dX3_tell_110 : decode cX3_tell 110 = .ok (.iload_n 2, 1) := by decide +kernel
theorem dX3_tell_111 : decode cX3_tell 111 = .ok (.iconst 3, 1) := by decide +kernel
theorem dX3_tell_112 : decode cX3_tell 112 = .ok (.iadd, 1) := by decide +kernel
theorem dX3_tell_113 : decode cX3_tell 113 = .ok (.invokevirtual 56, 3) := by decide +kernel
theorem dX3_tell_116 : decode cX3_tell 116 = .ok (.aload_n 0, 1) := by decide +kernel
theorem dX3_tell_117 : decode cX3_tell 117 = .ok (.iload_n 2, 1) := by decide +kernel
theorem dX3_tell_118 : decode cX3_tell 118 = .ok (.iconst 5, 1) := by decide +kernel
theorem dX3_tell_119 : decode cX3_tell 119 = .ok (.iadd, 1) := by decide +kernel
theorem dX3_tell_120 : decode cX3_tell 120 = .ok (.invokevirtual 23, 3) := by decide +kernel
theorem dX3_tell_123 : decode cX3_tell 123 = .ok (.aload_n 0, 1) := by decide +kernel
theorem dX3_tell_124 : decode cX3_tell 124 = .ok (.iload_n 2, 1) := by decide +kernel
theorem dX3_tell_125 : decode cX3_tell 125 = .ok (.bipush 6, 2) := by decide +kernel
theorem dX3_tell_127 : decode cX3_tell 127 = .ok (.iadd, 1) := by decide +kernel
theorem dX3_tell_128 : decode cX3_tell 128 = .ok (.invokevirtual 23, 3) := by decide +kernel
theorem dX3_tell_131 : decode cX3_tell 131 = .ok (.invokevirtual 59, 3) := by decide +kernel
theorem dX3_tell_134 : decode cX3_tell 134 = .ok (.ireturn, 1) := by decide +kernel
theorem dX3_tell_135 : decode cX3_tell 135 = .ok (.aload_n 1, 1) := by decide +kernel
theorem dX3_tell_136 : decode cX3_tell 136 = .ok (.aload_n 0, 1) := by decide +kernel
theorem dX3_tell_137 : decode cX3_tell 137 = .ok (.iload_n 2, 1) := by decide +kernel
theorem dX3_tell_138 : decode cX3_tell 138 = .ok (.iconst 1, 1) := by decide +kernel
theorem dX3_tell_139 : decode cX3_tell 139 = .ok (.iadd, 1) := by decide +kernel
theorem dX3_tell_140 : decode cX3_tell 140 = .ok (.invokevirtual 23, 3) := by decide +kernel
theorem dX3_tell_143 : decode cX3_tell 143 = .ok (.putfield 65, 3) := by decide +kernel
theorem dX3_tell_146 : decode cX3_tell 146 = .ok (.iconst 1, 1) := by decide +kernel
theorem dX3_tell_147 : decode cX3_tell 147 = .ok (.ireturn, 1) := by decide +kernel
theorem dX4_init_0 : decode cX4_init 0 = .ok (.aload_n 0, 1) := by decide +kernel
theorem dX4_init_1 : decode cX4_init 1 = .ok (.iload_n 1, 1) := by decide +kernel
theorem dX4_init_2 : decode cX4_init 2 = .ok (.iload_n 2, 1) := by decide +kernel
theorem dX4_init_3 : decode cX4_init 3 = .ok (.iload_n 3, 1) := by decide +kernel
theorem dX4_init_4 : decode cX4_init 4 = .ok (.invokespecial 1, 3) := by decide +kernel
theorem dX4_init_7 : decode cX4_init 7 = .ok (.return_, 1) := by decide +kernel
theorem dX4_kind_0 : decode cX4_kind 0 = .ok (.iconst 4, 1) := by decide +kernel
theorem dX4_kind_1 : decode cX4_kind 1 = .ok (.ireturn, 1) := by decide +kernel
theorem dX4_isDry_0 : decode cX4_isDry 0 = .ok (.aload_n 0, 1) := by decide +kernel
theorem dX4_isDry_1 : decode cX4_isDry 1 = .ok (.iload_n 1, 1) := by decide +kernel
theorem dX4_isDry_2 : decode cX4_isDry 2 = .ok (.invokespecial 7, 3) := by decide +kernel
theorem dX4_isDry_5 : decode cX4_isDry 5 = .ok (.ifCond .eq 13, 3) := by decide +kernel
theorem dX4_isDry_8 : decode cX4_isDry 8 = .ok (.iload_n 1, 1) := by decide +kernel
theorem dX4_isDry_9 : decode cX4_isDry 9 = .ok (.iconst 1, 1) := by decide +kernel
theorem dX4_isDry_10 : decode cX4_isDry 10 = .ok (.iand, 1) := by decide +kernel
theorem dX4_isDry_11 : decode cX4_isDry 11 = .ok (.ifCond .ne 7, 3) := by decide +kernel
theorem dX4_isDry_14 : decode cX4_isDry 14 = .ok (.iconst 1, 1) := by decide +kernel
theorem dX4_isDry_15 : decode cX4_isDry 15 = .ok (.goto 4, 3) := by decide +kernel
theorem dX4_isDry_18 : decode cX4_isDry 18 = .ok (.iconst 0, 1) := by decide +kernel
theorem dX4_isDry_19 : decode cX4_isDry 19 = .ok (.ireturn, 1) := by decide +kernel
theorem dX4_fee_0 : decode cX4_fee 0 = .ok (.iconst 2, 1) := by decide +kernel
theorem dX4_fee_1 : decode cX4_fee 1 = .ok (.aload_n 0, 1) := by decide +kernel
theorem dX4_fee_2 : decode cX4_fee 2 = .ok (.invokespecial 11, 3) := by decide +kernel
theorem dX4_fee_5 : decode cX4_fee 5 = .ok (.imul, 1) := by decide +kernel
theorem dX4_fee_6 : decode cX4_fee 6 = .ok (.ireturn, 1) := by decide +kernel
theorem dX5_init_0 : decode cX5_init 0 = .ok (.aload_n 0, 1) := by decide +kernel
theorem dX5_init_1 : decode cX5_init 1 = .ok (.iload_n 1, 1) := by decide +kernel
theorem dX5_init_2 : decode cX5_init 2 = .ok (.iload_n 2, 1) := by decide +kernel
theorem dX5_init_3 : decode cX5_init 3 = .ok (.iload_n 3, 1) := by decide +kernel
theorem dX5_init_4 : decode cX5_init 4 = .ok (.invokespecial 1, 3) := by decide +kernel
theorem dX5_init_7 : decode cX5_init 7 = .ok (.return_, 1) := by decide +kernel
theorem dX5_kind_0 : decode cX5_kind 0 = .ok (.iconst 2, 1) := by decide +kernel
theorem dX5_kind_1 : decode cX5_kind 1 = .ok (.ireturn, 1) := by decide +kernel
theorem dX5_isDry_0 : decode cX5_isDry 0 = .ok (.iconst 0, 1) := by decide +kernel
theorem dX5_isDry_1 : decode cX5_isDry 1 = .ok (.ireturn, 1) := by decide +kernel
theorem dX5_fee_0 : decode cX5_fee 0 = .ok (.iconst 0, 1) := by decide +kernel
theorem dX5_fee_1 : decode cX5_fee 1 = .ok (.ireturn, 1) := by decide +kernel
theorem dX6_init_0 : decode cX6_init 0 = .ok (.aload_n 0, 1) := by decide +kernel
theorem dX6_init_1 : decode cX6_init 1 = .ok (.invokespecial 1, 3) := by decide +kernel
theorem dX6_init_4 : decode cX6_init 4 = .ok (.aload_n 0, 1) := by decide +kernel
theorem dX6_init_5 : decode cX6_init 5 = .ok (.iload_n 1, 1) := by decide +kernel
theorem dX6_init_6 : decode cX6_init 6 = .ok (.putfield 7, 3) := by decide +kernel
theorem dX6_init_9 : decode cX6_init 9 = .ok (.aload_n 0, 1) := by decide +kernel
theorem dX6_init_10 : decode cX6_init 10 = .ok (.iload_n 2, 1) := by decide +kernel
theorem dX6_init_11 : decode cX6_init 11 = .ok (.putfield 13, 3) := by decide +kernel
theorem dX6_init_14 : decode cX6_init 14 = .ok (.aload_n 0, 1) := by decide +kernel
theorem dX6_init_15 : decode cX6_init 15 = .ok (.iload_n 3, 1) := by decide +kernel
theorem dX6_init_16 : decode cX6_init 16 = .ok (.putfield 16, 3) := by decide +kernel
theorem dX6_init_19 : decode cX6_init 19 = .ok (.aload_n 0, 1) := by decide +kernel
theorem dX6_init_20 : decode cX6_init 20 = .ok (.iload 4, 2) := by decide +kernel
theorem dX6_init_22 : decode cX6_init 22 = .ok (.putfield 19, 3) := by decide +kernel
theorem dX6_init_25 : decode cX6_init 25 = .ok (.return_, 1) := by decide +kernel
theorem dX6_isIsland_0 : decode cX6_isIsland 0 = .ok (.iload_n 1, 1) := by decide +kernel
theorem dX6_isIsland_1 : decode cX6_isIsland 1 = .ok (.aload_n 0, 1) := by decide +kernel
theorem dX6_isIsland_2 : decode cX6_isIsland 2 = .ok (.getfield 16, 3) := by decide +kernel
theorem dX6_isIsland_5 : decode cX6_isIsland 5 = .ok (.if_icmp .lt 15, 3) := by decide +kernel
theorem dX6_isIsland_8 : decode cX6_isIsland 8 = .ok (.iload_n 1, 1) := by decide +kernel
theorem dX6_isIsland_9 : decode cX6_isIsland 9 = .ok (.aload_n 0, 1) := by decide +kernel
theorem dX6_isIsland_10 : decode cX6_isIsland 10 = .ok (.getfield 19, 3) := by decide +kernel
theorem dX6_isIsland_13 : decode cX6_isIsland 13 = .ok (.if_icmp .gt 7, 3) := by decide +kernel
theorem dX6_isIsland_16 : decode cX6_isIsland 16 = .ok (.iconst 1, 1) := by decide +kernel
theorem dX6_isIsland_17 : decode cX6_isIsland 17 = .ok (.goto 4, 3) := by decide +kernel
theorem dX6_isIsland_20 : decode cX6_isIsland 20 = .ok (.iconst 0, 1) := by decide +kernel
theorem dX6_isIsland_21 : decode cX6_isIsland 21 = .ok (.ireturn, 1) := by decide +kernel
theorem dX7_init_0 : decode cX7_init 0 = .ok (.aload_n 0, 1) := by decide +kernel
theorem dX7_init_1 : decode cX7_init 1 = .ok (.invokespecial 3, 3) := by decide +kernel
theorem dX7_init_4 : decode cX7_init 4 = .ok (.aload_n 0, 1) := by decide +kernel
theorem dX7_init_5 : decode cX7_init 5 = .ok (.bipush 6, 2) := by decide +kernel
theorem dX7_init_7 : decode cX7_init 7 = .ok (.anewarray 9, 3) := by decide +kernel
theorem dX7_init_10 : decode cX7_init 10 = .ok (.putfield 11, 3) := by decide +kernel
theorem dX7_init_13 : decode cX7_init 13 = .ok (.return_, 1) := by decide +kernel
theorem dX7_rockAt_0 : decode cX7_rockAt 0 = .ok (.iload_n 1, 1) := by decide +kernel
theorem dX7_rockAt_1 : decode cX7_rockAt 1 = .ok (.ifCond .lt 20, 3) := by decide +kernel
theorem dX7_rockAt_4 : decode cX7_rockAt 4 = .ok (.iload_n 1, 1) := by decide +kernel
theorem dX7_rockAt_5 : decode cX7_rockAt 5 = .ok (.aload_n 0, 1) := by decide +kernel
theorem dX7_rockAt_6 : decode cX7_rockAt 6 = .ok (.getfield 17, 3) := by decide +kernel
theorem dX7_rockAt_9 : decode cX7_rockAt 9 = .ok (.if_icmp .ge 12, 3) := by decide +kernel
theorem dX7_rockAt_12 : decode cX7_rockAt 12 = .ok (.iload_n 1, 1) := by decide +kernel
theorem dX7_rockAt_13 : decode cX7_rockAt 13 = .ok (.aload_n 0, 1) := by decide +kernel
theorem dX7_rockAt_14 : decode cX7_rockAt 14 = .ok (.getfield 11, 3) := by decide +kernel
theorem dX7_rockAt_17 : decode cX7_rockAt 17 = .ok (.arraylength, 1) := by decide +kernel
theorem dX7_rockAt_18 : decode cX7_rockAt 18 = .ok (.if_icmp .lt 7, 3) := by decide +kernel
theorem dX7_rockAt_21 : decode cX7_rockAt 21 = .ok (.aconst_null, 1) := by decide +kernel
theorem dX7_rockAt_22 : decode cX7_rockAt 22 = .ok (.goto 9, 3) := by decide +kernel
theorem dX7_rockAt_25 : decode cX7_rockAt 25 = .ok (.aload_n 0, 1) := by decide +kernel
theorem dX7_rockAt_26 : decode cX7_rockAt 26 = .ok (.getfield 11, 3) := by decide +kernel
theorem dX7_rockAt_29 : decode cX7_rockAt 29 = .ok (.iload_n 1, 1) := by decide +kernel
theorem dX7_rockAt_30 : decode cX7_rockAt 30 = .ok (.aaload, 1) := by decide +kernel
theorem dX7_rockAt_31 : decode cX7_rockAt 31 = .ok (.areturn, 1) := by decide +kernel
theorem dX7_append_0 : decode cX7_append 0 = .ok (.iload_n 3, 1) := by decide +kernel
theorem dX7_append_1 : decode cX7_append 1 = .ok (.iload 4, 2) := by decide +kernel
theorem dX7_append_3 : decode cX7_append 3 = .ok (.if_icmp .gt 22, 3) := by decide +kernel
theorem dX7_append_6 : decode cX7_append 6 = .ok (.aload_n 0, 1) := by decide +kernel
theorem dX7_append_7 : decode cX7_append 7 = .ok (.getfield 17, 3) := by decide +kernel
theorem dX7_append_10 : decode cX7_append 10 = .ok (.ifCond .lt 15, 3) := by decide +kernel
theorem dX7_append_13 : decode cX7_append 13 = .ok (.aload_n 0, 1) := by decide +kernel
theorem dX7_append_14 : decode cX7_append 14 = .ok (.getfield 17, 3) := by decide +kernel
theorem dX7_append_17 : decode cX7_append 17 = .ok (.aload_n 0, 1) := by decide +kernel
theorem dX7_append_18 : decode cX7_append 18 = .ok (.getfield 11, 3) := by decide +kernel
theorem dX7_append_21 : decode cX7_append 21 = .ok (.arraylength, 1) := by decide +kernel
theorem dX7_append_22 : decode cX7_append 22 = .ok (.if_icmp .lt 5, 3) := by decide +kernel
theorem dX7_append_25 : decode cX7_append 25 = .ok (.iconst 0, 1) := by decide +kernel
theorem dX7_append_26 : decode cX7_append 26 = .ok (.ireturn, 1) := by decide +kernel
theorem dX7_append_27 : decode cX7_append 27 = .ok (.aload_n 0, 1) := by decide +kernel
theorem dX7_append_28 : decode cX7_append 28 = .ok (.getfield 11, 3) := by decide +kernel
theorem dX7_append_31 : decode cX7_append 31 = .ok (.aload_n 0, 1) := by decide +kernel
theorem dX7_append_32 : decode cX7_append 32 = .ok (.getfield 17, 3) := by decide +kernel
theorem dX7_append_35 : decode cX7_append 35 = .ok (.new 9, 3) := by decide +kernel
theorem dX7_append_38 : decode cX7_append 38 = .ok (.dup, 1) := by decide +kernel
theorem dX7_append_39 : decode cX7_append 39 = .ok (.iload_n 1, 1) := by decide +kernel
theorem dX7_append_40 : decode cX7_append 40 = .ok (.iload_n 2, 1) := by decide +kernel
theorem dX7_append_41 : decode cX7_append 41 = .ok (.iload_n 3, 1) := by decide +kernel
theorem dX7_append_42 : decode cX7_append 42 = .ok (.iload 4, 2) := by decide +kernel
theorem dX7_append_44 : decode cX7_append 44 = .ok (.invokespecial 21, 3) := by decide +kernel
theorem dX7_append_47 : decode cX7_append 47 = .ok (.aastore, 1) := by decide +kernel
theorem dX7_append_48 : decode cX7_append 48 = .ok (.aload_n 0, 1) := by decide +kernel
theorem dX7_append_49 : decode cX7_append 49 = .ok (.dup, 1) := by decide +kernel
theorem dX7_append_50 : decode cX7_append 50 = .ok (.getfield 17, 3) := by decide +kernel
theorem dX7_append_53 : decode cX7_append 53 = .ok (.iconst 1, 1) := by decide +kernel
theorem dX7_append_54 : decode cX7_append 54 = .ok (.iadd, 1) := by decide +kernel
theorem dX7_append_55 : decode cX7_append 55 = .ok (.putfield 17, 3) := by decide +kernel
theorem dX7_append_58 : decode cX7_append 58 = .ok (.iconst 1, 1) := by decide +kernel
theorem dX7_append_59 : decode cX7_append 59 = .ok (.ireturn, 1) := by decide +kernel
theorem dX7_become_0 : decode cX7_become 0 = .ok (.aload_n 0, 1) := by decide +kernel
theorem dX7_become_1 : decode cX7_become 1 = .ok (.aload_n 1, 1) := by decide +kernel
theorem dX7_become_2 : decode cX7_become 2 = .ok (.getfield 17, 3) := by decide +kernel
theorem dX7_become_5 : decode cX7_become 5 = .ok (.putfield 17, 3) := by decide +kernel
theorem dX7_become_8 : decode cX7_become 8 = .ok (.iconst 0, 1) := by decide +kernel
theorem dX7_become_9 : decode cX7_become 9 = .ok (.istore_n 2, 1) := by decide +kernel
theorem dX7_become_10 : decode cX7_become 10 = .ok (.iload_n 2, 1) := by decide +kernel
theorem dX7_become_11 : decode cX7_become 11 = .ok (.aload_n 0, 1) := by decide +kernel
theorem dX7_become_12 : decode cX7_become 12 = .ok (.getfield 11, 3) := by decide +kernel
theorem dX7_become_15 : decode cX7_become 15 = .ok (.arraylength, 1) := by decide +kernel
theorem dX7_become_16 : decode cX7_become 16 = .ok (.if_icmp .ge 20, 3) := by decide +kernel
theorem dX7_become_19 : decode cX7_become 19 = .ok (.aload_n 0, 1) := by decide +kernel
theorem dX7_become_20 : decode cX7_become 20 = .ok (.getfield 11, 3) := by decide +kernel
theorem dX7_become_23 : decode cX7_become 23 = .ok (.iload_n 2, 1) := by decide +kernel
theorem dX7_become_24 : decode cX7_become 24 = .ok (.aload_n 1, 1) := by decide +kernel
theorem dX7_become_25 : decode cX7_become 25 = .ok (.iload_n 2, 1) := by decide +kernel
theorem dX7_become_26 : decode cX7_become 26 = .ok (.invokevirtual 24, 3) := by decide +kernel
theorem dX7_become_29 : decode cX7_become 29 = .ok (.aastore, 1) := by decide +kernel
theorem dX7_become_30 : decode cX7_become 30 = .ok (.iinc 2 1, 3) := by decide +kernel
theorem dX7_become_33 : decode cX7_become 33 = .ok (.goto (-23), 3) := by decide +kernel
theorem dX7_become_36 : decode cX7_become 36 = .ok (.return_, 1) := by decide +kernel
theorem dX7_islandsAt_0 : decode cX7_islandsAt 0 = .ok (.iconst 0, 1) := by decide +kernel
theorem dX7_islandsAt_1 : decode cX7_islandsAt 1 = .ok (.istore_n 2, 1) := by decide +kernel
theorem dX7_islandsAt_2 : decode cX7_islandsAt 2 = .ok (.iconst 0, 1) := by decide +kernel
theorem dX7_islandsAt_3 : decode cX7_islandsAt 3 = .ok (.istore_n 3, 1) := by decide +kernel
theorem dX7_islandsAt_4 : decode cX7_islandsAt 4 = .ok (.iload_n 3, 1) := by decide +kernel
theorem dX7_islandsAt_5 : decode cX7_islandsAt 5 = .ok (.bipush 6, 2) := by decide +kernel
theorem dX7_islandsAt_7 : decode cX7_islandsAt 7 = .ok (.if_icmp .ge 36, 3) := by decide +kernel
theorem dX7_islandsAt_10 : decode cX7_islandsAt 10 = .ok (.aload_n 0, 1) := by decide +kernel
theorem dX7_islandsAt_11 : decode cX7_islandsAt 11 = .ok (.iload_n 3, 1) := by decide +kernel
theorem dX7_islandsAt_12 : decode cX7_islandsAt 12 = .ok (.invokevirtual 24, 3) := by decide +kernel
theorem dX7_islandsAt_15 : decode cX7_islandsAt 15 = .ok (.astore 4, 2) := by decide +kernel
theorem dX7_islandsAt_17 : decode cX7_islandsAt 17 = .ok (.aload 4, 2) := by decide +kernel
theorem dX7_islandsAt_19 : decode cX7_islandsAt 19 = .ok (.ifnull 18, 3) := by decide +kernel
theorem dX7_islandsAt_22 : decode cX7_islandsAt 22 = .ok (.aload 4, 2) := by decide +kernel
theorem dX7_islandsAt_24 : decode cX7_islandsAt 24 = .ok (.iload_n 1, 1) := by decide +kernel
theorem dX7_islandsAt_25 : decode cX7_islandsAt 25 = .ok (.invokevirtual 28, 3) := by decide +kernel
theorem dX7_islandsAt_28 : decode cX7_islandsAt 28 = .ok (.ifCond .eq 9, 3) := by decide +kernel
theorem dX7_islandsAt_31 : decode cX7_islandsAt 31 = .ok (.iload_n 2, 1) := by decide +kernel
theorem dX7_islandsAt_32 : decode cX7_islandsAt 32 = .ok (.iconst 1, 1) := by decide +kernel
theorem dX7_islandsAt_33 : decode cX7_islandsAt 33 = .ok (.iload_n 3, 1) := by decide +kernel
theorem dX7_islandsAt_34 : decode cX7_islandsAt 34 = .ok (.ishl, 1) := by decide +kernel
theorem dX7_islandsAt_35 : decode cX7_islandsAt 35 = .ok (.ior, 1) := by decide +kernel
theorem dX7_islandsAt_36 : decode cX7_islandsAt 36 = .ok (.istore_n 2, 1) := by decide +kernel
theorem dX7_islandsAt_37 : decode cX7_islandsAt 37 = .ok (.iinc 3 1, 3) := by decide +kernel
theorem dX7_islandsAt_40 : decode cX7_islandsAt 40 = .ok (.goto (-36), 3) := by decide +kernel
theorem dX7_islandsAt_43 : decode cX7_islandsAt 43 = .ok (.iload_n 2, 1) := by decide +kernel
theorem dX7_islandsAt_44 : decode cX7_islandsAt 44 = .ok (.ireturn, 1) := by decide +kernel
theorem dX7_fewestHours_0 : decode cX7_fewestHours 0 = .ok (.sipush 1023, 3) := by decide +kernel
theorem dX7_fewestHours_3 : decode cX7_fewestHours 3 = .ok (.istore_n 1, 1) := by decide +kernel
theorem dX7_fewestHours_4 : decode cX7_fewestHours 4 = .ok (.iconst 0, 1) := by decide +kernel
theorem dX7_fewestHours_5 : decode cX7_fewestHours 5 = .ok (.istore_n 2, 1) := by decide +kernel
theorem dX7_fewestHours_6 : decode cX7_fewestHours 6 = .ok (.iload_n 2, 1) := by decide +kernel
theorem dX7_fewestHours_7 : decode cX7_fewestHours 7 = .ok (.sipush 1024, 3) := by decide +kernel
theorem dX7_fewestHours_10 : decode cX7_fewestHours 10 = .ok (.if_icmp .ge 30, 3) := by decide +kernel
theorem dX7_fewestHours_13 : decode cX7_fewestHours 13 = .ok (.iload_n 2, 1) := by decide +kernel
theorem dX7_fewestHours_14 : decode cX7_fewestHours 14 = .ok (.invokestatic 32, 3) := by decide +kernel
theorem dX7_fewestHours_17 : decode cX7_fewestHours 17 = .ok (.iload_n 1, 1) := by decide +kernel
theorem dX7_fewestHours_18 : decode cX7_fewestHours 18 = .ok (.invokestatic 32, 3) := by decide +kernel
theorem dX7_fewestHours_21 : decode cX7_fewestHours 21 = .ok (.if_icmp .ge 13, 3) := by decide +kernel
theorem dX7_fewestHours_24 : decode cX7_fewestHours 24 = .ok (.aload_n 0, 1) := by decide +kernel
theorem dX7_fewestHours_25 : decode cX7_fewestHours 25 = .ok (.iload_n 2, 1) := by decide +kernel
theorem dX7_fewestHours_26 : decode cX7_fewestHours 26 = .ok (.invokevirtual 38, 3) := by decide +kernel
theorem dX7_fewestHours_29 : decode cX7_fewestHours 29 = .ok (.ifCond .eq 5, 3) := by decide +kernel
theorem dX7_fewestHours_32 : decode cX7_fewestHours 32 = .ok (.iload_n 2, 1) := by decide +kernel
theorem dX7_fewestHours_33 : decode cX7_fewestHours 33 = .ok (.istore_n 1, 1) := by decide +kernel
theorem dX7_fewestHours_34 : decode cX7_fewestHours 34 = .ok (.iinc 2 1, 3) := by decide +kernel
theorem dX7_fewestHours_37 : decode cX7_fewestHours 37 = .ok (.goto (-31), 3) := by decide +kernel
theorem dX7_fewestHours_40 : decode cX7_fewestHours 40 = .ok (.iload_n 1, 1) := by decide +kernel
theorem dX7_fewestHours_41 : decode cX7_fewestHours 41 = .ok (.ireturn, 1) := by decide +kernel
theorem dX7_showsAll_0 : decode cX7_showsAll 0 = .ok (.iconst 0, 1) := by decide +kernel
theorem dX7_showsAll_1 : decode cX7_showsAll 1 = .ok (.istore_n 2, 1) := by decide +kernel
theorem dX7_showsAll_2 : decode cX7_showsAll 2 = .ok (.iconst 0, 1) := by decide +kernel
theorem dX7_showsAll_3 : decode cX7_showsAll 3 = .ok (.istore_n 3, 1) := by decide +kernel
theorem dX7_showsAll_4 : decode cX7_showsAll 4 = .ok (.iload_n 3, 1) := by decide +kernel
theorem dX7_showsAll_5 : decode cX7_showsAll 5 = .ok (.bipush 9, 2) := by decide +kernel
theorem dX7_showsAll_7 : decode cX7_showsAll 7 = .ok (.if_icmp .gt 25, 3) := by decide +kernel
theorem dX7_showsAll_10 : decode cX7_showsAll 10 = .ok (.iload_n 1, 1) := by decide +kernel
theorem dX7_showsAll_11 : decode cX7_showsAll 11 = .ok (.iload_n 3, 1) := by decide +kernel
theorem dX7_showsAll_12 : decode cX7_showsAll 12 = .ok (.ishr, 1) := by decide +kernel
theorem dX7_showsAll_13 : decode cX7_showsAll 13 = .ok (.iconst 1, 1) := by decide +kernel
theorem dX7_showsAll_14 : decode cX7_showsAll 14 = .ok (.iand, 1) := by decide +kernel
theorem dX7_showsAll_15 : decode cX7_showsAll 15 = .ok (.ifCond .eq 11, 3) := by decide +kernel
theorem dX7_showsAll_18 : decode cX7_showsAll 18 = .ok (.iload_n 2, 1) := by decide +kernel
theorem dX7_showsAll_19 : decode cX7_showsAll 19 = .ok (.aload_n 0, 1) := by decide +kernel
theorem dX7_showsAll_20 : decode cX7_showsAll 20 = .ok (.iload_n 3, 1) := by decide +kernel
theorem dX7_showsAll_21 : decode cX7_showsAll 21 = .ok (.invokevirtual 41, 3) := by decide +kernel
theorem dX7_showsAll_24 : decode cX7_showsAll 24 = .ok (.ior, 1) := by decide +kernel
theorem dX7_showsAll_25 : decode cX7_showsAll 25 = .ok (.istore_n 2, 1) := by decide +kernel
theorem dX7_showsAll_26 : decode cX7_showsAll 26 = .ok (.iinc 3 1, 3) := by decide +kernel
theorem dX7_showsAll_29 : decode cX7_showsAll 29 = .ok (.goto (-25), 3) := by decide +kernel
theorem dX7_showsAll_32 : decode cX7_showsAll 32 = .ok (.iload_n 2, 1) := by decide +kernel
theorem dX7_showsAll_33 : decode cX7_showsAll 33 = .ok (.invokestatic 32, 3) := by decide +kernel
theorem dX7_showsAll_36 : decode cX7_showsAll 36 = .ok (.aload_n 0, 1) := by decide +kernel
theorem dX7_showsAll_37 : decode cX7_showsAll 37 = .ok (.getfield 17, 3) := by decide +kernel
theorem dX7_showsAll_40 : decode cX7_showsAll 40 = .ok (.if_icmp .ne 7, 3) := by decide +kernel
theorem dX7_showsAll_43 : decode cX7_showsAll 43 = .ok (.iconst 1, 1) := by decide +kernel
theorem dX7_showsAll_44 : decode cX7_showsAll 44 = .ok (.goto 4, 3) := by decide +kernel
theorem dX7_showsAll_47 : decode cX7_showsAll 47 = .ok (.iconst 0, 1) := by decide +kernel
theorem dX7_showsAll_48 : decode cX7_showsAll 48 = .ok (.ireturn, 1) := by decide +kernel
theorem dX7_yardsFromHome_0 : decode cX7_yardsFromHome 0 = .ok (.aload_n 0, 1) := by decide +kernel
theorem dX7_yardsFromHome_1 : decode cX7_yardsFromHome 1 = .ok (.iload_n 1, 1) := by decide +kernel
theorem dX7_yardsFromHome_2 : decode cX7_yardsFromHome 2 = .ok (.invokevirtual 24, 3) := by decide +kernel
theorem dX7_yardsFromHome_5 : decode cX7_yardsFromHome 5 = .ok (.astore_n 2, 1) := by decide +kernel
theorem dX7_yardsFromHome_6 : decode cX7_yardsFromHome 6 = .ok (.aload_n 2, 1) := by decide +kernel
theorem dX7_yardsFromHome_7 : decode cX7_yardsFromHome 7 = .ok (.ifnonnull 7, 3) := by decide +kernel
theorem dX7_yardsFromHome_10 : decode cX7_yardsFromHome 10 = .ok (.iconst 0, 1) := by decide +kernel
theorem dX7_yardsFromHome_11 : decode cX7_yardsFromHome 11 = .ok (.goto 12, 3) := by decide +kernel
theorem dX7_yardsFromHome_14 : decode cX7_yardsFromHome 14 = .ok (.aload_n 2, 1) := by decide +kernel
theorem dX7_yardsFromHome_15 : decode cX7_yardsFromHome 15 = .ok (.getfield 44, 3) := by decide +kernel
theorem dX7_yardsFromHome_18 : decode cX7_yardsFromHome 18 = .ok (.aload_n 2, 1) := by decide +kernel
theorem dX7_yardsFromHome_19 : decode cX7_yardsFromHome 19 = .ok (.getfield 47, 3) := by decide +kernel
theorem dX7_yardsFromHome_22 : decode cX7_yardsFromHome 22 = .ok (.iadd, 1) := by decide +kernel
theorem dX7_yardsFromHome_23 : decode cX7_yardsFromHome 23 = .ok (.ireturn, 1) := by decide +kernel
theorem dX7_yardsBetween_0 : decode cX7_yardsBetween 0 = .ok (.aload_n 0, 1) := by decide +kernel
theorem dX7_yardsBetween_1 : decode cX7_yardsBetween 1 = .ok (.iload_n 1, 1) := by decide +kernel
theorem dX7_yardsBetween_2 : decode cX7_yardsBetween 2 = .ok (.invokevirtual 24, 3) := by decide +kernel
theorem dX7_yardsBetween_5 : decode cX7_yardsBetween 5 = .ok (.astore_n 3, 1) := by decide +kernel
theorem dX7_yardsBetween_6 : decode cX7_yardsBetween 6 = .ok (.aload_n 0, 1) := by decide +kernel
theorem dX7_yardsBetween_7 : decode cX7_yardsBetween 7 = .ok (.iload_n 2, 1) := by decide +kernel
theorem dX7_yardsBetween_8 : decode cX7_yardsBetween 8 = .ok (.invokevirtual 24, 3) := by decide +kernel
theorem dX7_yardsBetween_11 : decode cX7_yardsBetween 11 = .ok (.astore 4, 2) := by decide +kernel
theorem dX7_yardsBetween_13 : decode cX7_yardsBetween 13 = .ok (.aload_n 3, 1) := by decide +kernel
theorem dX7_yardsBetween_14 : decode cX7_yardsBetween 14 = .ok (.ifnull 8, 3) := by decide +kernel
theorem dX7_yardsBetween_17 : decode cX7_yardsBetween 17 = .ok (.aload 4, 2) := by decide +kernel
theorem dX7_yardsBetween_19 : decode cX7_yardsBetween 19 = .ok (.ifnonnull 5, 3) := by decide +kernel
theorem dX7_yardsBetween_22 : decode cX7_yardsBetween 22 = .ok (.iconst 0, 1) := by decide +kernel
theorem dX7_yardsBetween_23 : decode cX7_yardsBetween 23 = .ok (.ireturn, 1) := by decide +kernel
theorem dX7_yardsBetween_24 : decode cX7_yardsBetween 24 = .ok (.aload_n 3, 1) := by decide +kernel
theorem dX7_yardsBetween_25 : decode cX7_yardsBetween 25 = .ok (.getfield 44, 3) := by decide +kernel
theorem dX7_yardsBetween_28 : decode cX7_yardsBetween 28 = .ok (.aload 4, 2) := by decide +kernel
theorem dX7_yardsBetween_30 : decode cX7_yardsBetween 30 = .ok (.getfield 44, 3) := by decide +kernel
theorem dX7_yardsBetween_33 : decode cX7_yardsBetween 33 = .ok (.isub, 1) := by decide +kernel
theorem dX7_yardsBetween_34 : decode cX7_yardsBetween 34 = .ok (.invokestatic 50, 3) := by decide +kernel
theorem dX7_yardsBetween_37 : decode cX7_yardsBetween 37 = .ok (.aload_n 3, 1) := by decide +kernel
theorem dX7_yardsBetween_38 : decode cX7_yardsBetween 38 = .ok (.getfield 47, 3) := by decide +kernel
theorem dX7_yardsBetween_41 : decode cX7_yardsBetween 41 = .ok (.aload 4, 2) := by decide +kernel
theorem dX7_yardsBetween_43 : decode cX7_yardsBetween 43 = .ok (.getfield 47, 3) := by decide +kernel
theorem dX7_yardsBetween_46 : decode cX7_yardsBetween 46 = .ok (.isub, 1) := by decide +kernel
theorem dX7_yardsBetween_47 : decode cX7_yardsBetween 47 = .ok (.invokestatic 50, 3) := by decide +kernel
theorem dX7_yardsBetween_50 : decode cX7_yardsBetween 50 = .ok (.iadd, 1) := by decide +kernel
theorem dX7_yardsBetween_51 : decode cX7_yardsBetween 51 = .ok (.ireturn, 1) := by decide +kernel
theorem dX8_init_0 : decode cX8_init 0 = .ok (.aload_n 0, 1) := by decide +kernel
theorem dX8_init_1 : decode cX8_init 1 = .ok (.iload_n 1, 1) := by decide +kernel
theorem dX8_init_2 : decode cX8_init 2 = .ok (.iload_n 2, 1) := by decide +kernel
theorem dX8_init_3 : decode cX8_init 3 = .ok (.iload_n 3, 1) := by decide +kernel
theorem dX8_init_4 : decode cX8_init 4 = .ok (.invokespecial 1, 3) := by decide +kernel
theorem dX8_init_7 : decode cX8_init 7 = .ok (.return_, 1) := by decide +kernel
theorem dX8_kind_0 : decode cX8_kind 0 = .ok (.iconst 1, 1) := by decide +kernel
theorem dX8_kind_1 : decode cX8_kind 1 = .ok (.ireturn, 1) := by decide +kernel
theorem dX8_isDry_0 : decode cX8_isDry 0 = .ok (.iload_n 1, 1) := by decide +kernel
theorem dX8_isDry_1 : decode cX8_isDry 1 = .ok (.aload_n 0, 1) := by decide +kernel
theorem dX8_isDry_2 : decode cX8_isDry 2 = .ok (.getfield 7, 3) := by decide +kernel
theorem dX8_isDry_5 : decode cX8_isDry 5 = .ok (.if_icmp .gt 7, 3) := by decide +kernel
theorem dX8_isDry_8 : decode cX8_isDry 8 = .ok (.iconst 1, 1) := by decide +kernel
theorem dX8_isDry_9 : decode cX8_isDry 9 = .ok (.goto 4, 3) := by decide +kernel
theorem dX8_isDry_12 : decode cX8_isDry 12 = .ok (.iconst 0, 1) := by decide +kernel
theorem dX8_isDry_13 : decode cX8_isDry 13 = .ok (.ireturn, 1) := by decide +kernel
theorem dX8_fee_0 : decode cX8_fee 0 = .ok (.aload_n 0, 1) := by decide +kernel
theorem dX8_fee_1 : decode cX8_fee 1 = .ok (.invokespecial 13, 3) := by decide +kernel
theorem dX8_fee_4 : decode cX8_fee 4 = .ok (.iconst 1, 1) := by decide +kernel
theorem dX8_fee_5 : decode cX8_fee 5 = .ok (.iadd, 1) := by decide +kernel
theorem dX8_fee_6 : decode cX8_fee 6 = .ok (.ireturn, 1) := by decide +kernel
theorem dX9_init_0 : decode cX9_init 0 = .ok (.aload_n 0, 1) := by decide +kernel
theorem dX9_init_1 : decode cX9_init 1 = .ok (.invokespecial 1, 3) := by decide +kernel
theorem dX9_init_4 : decode cX9_init 4 = .ok (.aload_n 0, 1) := by decide +kernel
theorem dX9_init_5 : decode cX9_init 5 = .ok (.iload_n 1, 1) := by decide +kernel
theorem dX9_init_6 : decode cX9_init 6 = .ok (.putfield 7, 3) := by decide +kernel
theorem dX9_init_9 : decode cX9_init 9 = .ok (.aload_n 0, 1) := by decide +kernel
theorem dX9_init_10 : decode cX9_init 10 = .ok (.iload_n 2, 1) := by decide +kernel
theorem dX9_init_11 : decode cX9_init 11 = .ok (.putfield 13, 3) := by decide +kernel
theorem dX9_init_14 : decode cX9_init 14 = .ok (.aload_n 0, 1) := by decide +kernel
theorem dX9_init_15 : decode cX9_init 15 = .ok (.iload_n 3, 1) := by decide +kernel
theorem dX9_init_16 : decode cX9_init 16 = .ok (.putfield 16, 3) := by decide +kernel
theorem dX9_init_19 : decode cX9_init 19 = .ok (.return_, 1) := by decide +kernel
theorem dX9_kind_0 : decode cX9_kind 0 = .ok (.iconst 0, 1) := by decide +kernel
theorem dX9_kind_1 : decode cX9_kind 1 = .ok (.ireturn, 1) := by decide +kernel
theorem dX9_isDry_0 : decode cX9_isDry 0 = .ok (.iconst 1, 1) := by decide +kernel
theorem dX9_isDry_1 : decode cX9_isDry 1 = .ok (.ireturn, 1) := by decide +kernel
theorem dX9_fee_0 : decode cX9_fee 0 = .ok (.iconst 1, 1) := by decide +kernel
theorem dX9_fee_1 : decode cX9_fee 1 = .ok (.ireturn, 1) := by decide +kernel
theorem dX9_places_0 : decode cX9_places 0 = .ok (.lconst 1, 1) := by decide +kernel
theorem dX9_places_1 : decode cX9_places 1 = .ok (.aload_n 0, 1) := by decide +kernel
theorem dX9_places_2 : decode cX9_places 2 = .ok (.getfield 16, 3) := by decide +kernel
theorem dX9_places_5 : decode cX9_places 5 = .ok (.lshl, 1) := by decide +kernel
theorem dX9_places_6 : decode cX9_places 6 = .ok (.lconst 1, 1) := by decide +kernel
theorem dX9_places_7 : decode cX9_places 7 = .ok (.lsub, 1) := by decide +kernel
theorem dX9_places_8 : decode cX9_places 8 = .ok (.aload_n 0, 1) := by decide +kernel
theorem dX9_places_9 : decode cX9_places 9 = .ok (.getfield 13, 3) := by decide +kernel
theorem dX9_places_12 : decode cX9_places 12 = .ok (.lshl, 1) := by decide +kernel
theorem dX9_places_13 : decode cX9_places 13 = .ok (.lreturn, 1) := by decide +kernel
theorem dX10_init_0 : decode cX10_init 0 = .ok (.aload_n 0, 1) := by decide +kernel
theorem dX10_init_1 : decode cX10_init 1 = .ok (.iload_n 1, 1) := by decide +kernel
theorem dX10_init_2 : decode cX10_init 2 = .ok (.iload_n 2, 1) := by decide +kernel
theorem dX10_init_3 : decode cX10_init 3 = .ok (.iload_n 3, 1) := by decide +kernel
theorem dX10_init_4 : decode cX10_init 4 = .ok (.invokespecial 1, 3) := by decide +kernel
theorem dX10_init_7 : decode cX10_init 7 = .ok (.return_, 1) := by decide +kernel
theorem dX10_kind_0 : decode cX10_kind 0 = .ok (.iconst 5, 1) := by decide +kernel
theorem dX10_kind_1 : decode cX10_kind 1 = .ok (.ireturn, 1) := by decide +kernel
theorem dX10_isDry_0 : decode cX10_isDry 0 = .ok (.aload_n 0, 1) := by decide +kernel
theorem dX10_isDry_1 : decode cX10_isDry 1 = .ok (.iload_n 1, 1) := by decide +kernel
theorem dX10_isDry_2 : decode cX10_isDry 2 = .ok (.invokespecial 7, 3) := by decide +kernel
theorem dX10_isDry_5 : decode cX10_isDry 5 = .ok (.ifCond .eq 15, 3) := by decide +kernel
theorem dX10_isDry_8 : decode cX10_isDry 8 = .ok (.iload_n 1, 1) := by decide +kernel
theorem dX10_isDry_9 : decode cX10_isDry 9 = .ok (.aload_n 0, 1) := by decide +kernel
theorem dX10_isDry_10 : decode cX10_isDry 10 = .ok (.getfield 11, 3) := by decide +kernel
theorem dX10_isDry_13 : decode cX10_isDry 13 = .ok (.if_icmp .eq 7, 3) := by decide +kernel
theorem dX10_isDry_16 : decode cX10_isDry 16 = .ok (.iconst 1, 1) := by decide +kernel
theorem dX10_isDry_17 : decode cX10_isDry 17 = .ok (.goto 4, 3) := by decide +kernel
theorem dX10_isDry_20 : decode cX10_isDry 20 = .ok (.iconst 0, 1) := by decide +kernel
theorem dX10_isDry_21 : decode cX10_isDry 21 = .ok (.ireturn, 1) := by decide +kernel
theorem dX10_fee_0 : decode cX10_fee 0 = .ok (.aload_n 0, 1) := by decide +kernel
theorem dX10_fee_1 : decode cX10_fee 1 = .ok (.invokespecial 17, 3) := by decide +kernel
theorem dX10_fee_4 : decode cX10_fee 4 = .ok (.iconst 1, 1) := by decide +kernel
theorem dX10_fee_5 : decode cX10_fee 5 = .ok (.isub, 1) := by decide +kernel
theorem dX10_fee_6 : decode cX10_fee 6 = .ok (.ireturn, 1) := by decide +kernel
theorem dX11_init_0 : decode cX11_init 0 = .ok (.aload_n 0, 1) := by decide +kernel
theorem dX11_init_1 : decode cX11_init 1 = .ok (.invokespecial 1, 3) := by decide +kernel
theorem dX11_init_4 : decode cX11_init 4 = .ok (.aload_n 0, 1) := by decide +kernel
theorem dX11_init_5 : decode cX11_init 5 = .ok (.new 7, 3) := by decide +kernel
theorem dX11_init_8 : decode cX11_init 8 = .ok (.dup, 1) := by decide +kernel
theorem dX11_init_9 : decode cX11_init 9 = .ok (.invokespecial 9, 3) := by decide +kernel
theorem dX11_init_12 : decode cX11_init 12 = .ok (.putfield 10, 3) := by decide +kernel
theorem dX11_init_15 : decode cX11_init 15 = .ok (.aload_n 0, 1) := by decide +kernel
theorem dX11_init_16 : decode cX11_init 16 = .ok (.new 7, 3) := by decide +kernel
theorem dX11_init_19 : decode cX11_init 19 = .ok (.dup, 1) := by decide +kernel
theorem dX11_init_20 : decode cX11_init 20 = .ok (.invokespecial 9, 3) := by decide +kernel
theorem dX11_init_23 : decode cX11_init 23 = .ok (.putfield 16, 3) := by decide +kernel
theorem dX11_init_26 : decode cX11_init 26 = .ok (.aload_n 0, 1) := by decide +kernel
theorem dX11_init_27 : decode cX11_init 27 = .ok (.new 7, 3) := by decide +kernel
theorem dX11_init_30 : decode cX11_init 30 = .ok (.dup, 1) := by decide +kernel
theorem dX11_init_31 : decode cX11_init 31 = .ok (.invokespecial 9, 3) := by decide +kernel
theorem dX11_init_34 : decode cX11_init 34 = .ok (.putfield 19, 3) := by decide +kernel
theorem dX11_init_37 : decode cX11_init 37 = .ok (.aload_n 0, 1) := by decide +kernel
theorem dX11_init_38 : decode cX11_init 38 = .ok (.new 22, 3) := by decide +kernel
theorem dX11_init_41 : decode cX11_init 41 = .ok (.dup, 1) := by decide +kernel
theorem dX11_init_42 : decode cX11_init 42 = .ok (.invokespecial 24, 3) := by decide +kernel
theorem dX11_init_45 : decode cX11_init 45 = .ok (.putfield 25, 3) := by decide +kernel
theorem dX11_init_48 : decode cX11_init 48 = .ok (.aload_n 0, 1) := by decide +kernel
theorem dX11_init_49 : decode cX11_init 49 = .ok (.new 29, 3) := by decide +kernel
theorem dX11_init_52 : decode cX11_init 52 = .ok (.dup, 1) := by decide +kernel
theorem dX11_init_53 : decode cX11_init 53 = .ok (.invokespecial 31, 3) := by decide +kernel
theorem dX11_init_56 : decode cX11_init 56 = .ok (.putfield 32, 3) := by decide +kernel
theorem dX11_init_59 : decode cX11_init 59 = .ok (.aload_n 0, 1) := by decide +kernel
theorem dX11_init_60 : decode cX11_init 60 = .ok (.bipush 12, 2) := by decide +kernel
theorem dX11_init_62 : decode cX11_init 62 = .ok (.newarray .int, 2) := by decide +kernel
theorem dX11_init_64 : decode cX11_init 64 = .ok (.putfield 36, 3) := by decide +kernel
theorem dX11_init_67 : decode cX11_init 67 = .ok (.aload_n 0, 1) := by decide +kernel
theorem dX11_init_68 : decode cX11_init 68 = .ok (.bipush 7, 2) := by decide +kernel
theorem dX11_init_70 : decode cX11_init 70 = .ok (.newarray .int, 2) := by decide +kernel
theorem dX11_init_72 : decode cX11_init 72 = .ok (.putfield 40, 3) := by decide +kernel
theorem dX11_init_75 : decode cX11_init 75 = .ok (.return_, 1) := by decide +kernel
theorem dX11_feed_0 : decode cX11_feed 0 = .ok (.iload_n 1, 1) := by decide +kernel
theorem dX11_feed_1 : decode cX11_feed 1 = .ok (.ifCond .ge 10, 3) := by decide +kernel
theorem dX11_feed_4 : decode cX11_feed 4 = .ok (.aload_n 0, 1) := by decide +kernel
theorem dX11_feed_5 : decode cX11_feed 5 = .ok (.bipush (-4), 2) := by decide +kernel
theorem dX11_feed_7 : decode cX11_feed 7 = .ok (.invokevirtual 43, 3) := by decide +kernel
theorem dX11_feed_10 : decode cX11_feed 10 = .ok (.ireturn, 1) := by decide +kernel
theorem dX11_feed_11 : decode cX11_feed 11 = .ok (.iload_n 1, 1) := by decide +kernel
theorem dX11_feed_12 : decode cX11_feed 12 = .ok (.sipush 255, 3) := by decide +kernel
theorem dX11_feed_15 : decode cX11_feed 15 = .ok (.if_icmp .gt 14, 3) := by decide +kernel
theorem dX11_feed_18 : decode cX11_feed 18 = .ok (.aload_n 0, 1) := by decide +kernel
theorem dX11_feed_19 : decode cX11_feed 19 = .ok (.getfield 32, 3) := by decide +kernel
theorem dX11_feed_22 : decode cX11_feed 22 = .ok (.iload_n 1, 1) := by decide +kernel
theorem dX11_feed_23 : decode cX11_feed 23 = .ok (.invokevirtual 47, 3) := by decide +kernel
theorem dX11_feed_26 : decode cX11_feed 26 = .ok (.ifCond .ne 10, 3) := by decide +kernel
theorem dX11_feed_29 : decode cX11_feed 29 = .ok (.aload_n 0, 1) := by decide +kernel
theorem dX11_feed_30 : decode cX11_feed 30 = .ok (.bipush (-6), 2) := by decide +kernel
theorem dX11_feed_32 : decode cX11_feed 32 = .ok (.invokevirtual 43, 3) := by decide +kernel
theorem dX11_feed_35 : decode cX11_feed 35 = .ok (.ireturn, 1) := by decide +kernel
theorem dX11_feed_36 : decode cX11_feed 36 = .ok (.aload_n 0, 1) := by decide +kernel
theorem dX11_feed_37 : decode cX11_feed 37 = .ok (.getfield 32, 3) := by decide +kernel
theorem dX11_feed_40 : decode cX11_feed 40 = .ok (.getfield 51, 3) := by decide +kernel
theorem dX11_feed_43 : decode cX11_feed 43 = .ok (.ireturn, 1) := by decide +kernel
theorem dX11_coast_0 : decode cX11_coast 0 = .ok (.aload_n 0, 1) := by decide +kernel
theorem dX11_coast_1 : decode cX11_coast 1 = .ok (.getfield 32, 3) := by decide +kernel
theorem dX11_coast_4 : decode cX11_coast 4 = .ok (.invokevirtual 55, 3) := by decide +kernel
theorem dX11_coast_7 : decode cX11_coast 7 = .ok (.istore_n 1, 1) := by decide +kernel
theorem dX11_coast_8 : decode cX11_coast 8 = .ok (.iload_n 1, 1) := by decide +kernel
theorem dX11_coast_9 : decode cX11_coast 9 = .ok (.ifCond .ge 10, 3) := by decide +kernel
theorem dX11_coast_12 : decode cX11_coast 12 = .ok (.aload_n 0, 1) := by decide +kernel
theorem dX11_coast_13 : decode cX11_coast 13 = .ok (.invokevirtual 59, 3) := by decide +kernel
theorem dX11_coast_16 : decode cX11_coast 16 = .ok (.goto 8, 3) := by decide +kernel
theorem dX11_coast_19 : decode cX11_coast 19 = .ok (.sipush (-1000), 3) := by decide +kernel
theorem dX11_coast_22 : decode cX11_coast 22 = .ok (.iload_n 1, 1) := by decide +kernel
theorem dX11_coast_23 : decode cX11_coast 23 = .ok (.isub, 1) := by decide +kernel
theorem dX11_coast_24 : decode cX11_coast 24 = .ok (.istore_n 2, 1) := by decide +kernel
theorem dX11_coast_25 : decode cX11_coast 25 = .ok (.aload_n 0, 1) := by decide +kernel
theorem dX11_coast_26 : decode cX11_coast 26 = .ok (.getfield 32, 3) := by decide +kernel
theorem dX11_coast_29 : decode cX11_coast 29 = .ok (.iconst 0, 1) := by decide +kernel
theorem dX11_coast_30 : decode cX11_coast 30 = .ok (.putfield 51, 3) := by decide +kernel
theorem dX11_coast_33 : decode cX11_coast 33 = .ok (.iload_n 2, 1) := by decide +kernel
theorem dX11_coast_34 : decode cX11_coast 34 = .ok (.ireturn, 1) := by decide +kernel
theorem dX11_stretch_0 : decode cX11_stretch 0 = .ok (.aload_n 0, 1) := by decide +kernel
theorem dX11_stretch_1 : decode cX11_stretch 1 = .ok (.getfield 10, 3) := by decide +kernel
theorem dX11_stretch_4 : decode cX11_stretch 4 = .ok (.iload_n 1, 1) := by decide +kernel
theorem dX11_stretch_5 : decode cX11_stretch 5 = .ok (.invokevirtual 62, 3) := by decide +kernel
theorem dX11_stretch_8 : decode cX11_stretch 8 = .ok (.astore_n 3, 1) := by decide +kernel
theorem dX11_stretch_9 : decode cX11_stretch 9 = .ok (.aload_n 3, 1) := by decide +kernel
theorem dX11_stretch_10 : decode cX11_stretch 10 = .ok (.ifnonnull 9, 3) := by decide +kernel
theorem dX11_stretch_13 : decode cX11_stretch 13 = .ok (.aload_n 0, 1) := by decide +kernel
theorem dX11_stretch_14 : decode cX11_stretch 14 = .ok (.iconst (-1), 1) := by decide +kernel
theorem dX11_stretch_15 : decode cX11_stretch 15 = .ok (.invokevirtual 43, 3) := by decide +kernel
theorem dX11_stretch_18 : decode cX11_stretch 18 = .ok (.ireturn, 1) := by decide +kernel
theorem dX11_stretch_19 : decode cX11_stretch 19 = .ok (.iload_n 2, 1) := by decide +kernel
theorem dX11_stretch_20 : decode cX11_stretch 20 = .ok (.tableswitch 85 0 5 #[40, 45, 50, 55, 60, 80], 40) := by decide +kernel
theorem dX11_stretch_60 : decode cX11_stretch 60 = .ok (.aload_n 3, 1) := by decide +kernel
theorem dX11_stretch_61 : decode cX11_stretch 61 = .ok (.invokevirtual 66, 3) := by decide +kernel
theorem dX11_stretch_64 : decode cX11_stretch 64 = .ok (.ireturn, 1) := by decide +kernel
theorem dX11_stretch_65 : decode cX11_stretch 65 = .ok (.aload_n 3, 1) := by decide +kernel
theorem dX11_stretch_66 : decode cX11_stretch 66 = .ok (.getfield 71, 3) := by decide +kernel
theorem dX11_stretch_69 : decode cX11_stretch 69 = .ok (.ireturn, 1) := by decide +kernel
theorem dX11_stretch_70 : decode cX11_stretch 70 = .ok (.aload_n 3, 1) := by decide +kernel
theorem dX11_stretch_71 : decode cX11_stretch 71 = .ok (.getfield 74, 3) := by decide +kernel
theorem dX11_stretch_74 : decode cX11_stretch 74 = .ok (.ireturn, 1) := by decide +kernel
theorem dX11_stretch_75 : decode cX11_stretch 75 = .ok (.aload_n 3, 1) := by decide +kernel
theorem dX11_stretch_76 : decode cX11_stretch 76 = .ok (.getfield 77, 3) := by decide +kernel
theorem dX11_stretch_79 : decode cX11_stretch 79 = .ok (.ireturn, 1) := by decide +kernel
theorem dX11_stretch_80 : decode cX11_stretch 80 = .ok (.aload_n 3, 1) := by decide +kernel
theorem dX11_stretch_81 : decode cX11_stretch 81 = .ok (.aload_n 0, 1) := by decide +kernel
theorem dX11_stretch_82 : decode cX11_stretch 82 = .ok (.getfield 10, 3) := by decide +kernel
theorem dX11_stretch_85 : decode cX11_stretch 85 = .ok (.getfield 80, 3) := by decide +kernel
theorem dX11_stretch_88 : decode cX11_stretch 88 = .ok (.invokevirtual 83, 3) := by decide +kernel
theorem dX11_stretch_91 : decode cX11_stretch 91 = .ok (.ifCond .eq 7, 3) := by decide +kernel
theorem dX11_stretch_94 : decode cX11_stretch 94 = .ok (.iconst 1, 1) := by decide +kernel
theorem dX11_stretch_95 : decode cX11_stretch 95 = .ok (.goto 4, 3) := by decide +kernel
theorem dX11_stretch_98 : decode cX11_stretch 98 = .ok (.iconst 0, 1) := by decide +kernel
theorem dX11_stretch_99 : decode cX11_stretch 99 = .ok (.ireturn, 1) := by decide +kernel
theorem dX11_stretch_100 : decode cX11_stretch 100 = .ok (.aload_n 3, 1) := by decide +kernel
theorem dX11_stretch_101 : decode cX11_stretch 101 = .ok (.invokevirtual 86, 3) := by decide +kernel
theorem dX11_stretch_104 : decode cX11_stretch 104 = .ok (.ireturn, 1) := by decide +kernel
theorem dX11_stretch_105 : decode cX11_stretch 105 = .ok (.aload_n 0, 1) := by decide +kernel
theorem dX11_stretch_106 : decode cX11_stretch 106 = .ok (.bipush (-2), 2) := by decide +kernel
theorem dX11_stretch_108 : decode cX11_stretch 108 = .ok (.invokevirtual 43, 3) := by decide +kernel
theorem dX11_stretch_111 : decode cX11_stretch 111 = .ok (.ireturn, 1) := by decide +kernel
theorem dX11_point_0 : decode cX11_point 0 = .ok (.aload_n 0, 1) := by decide +kernel
theorem dX11_point_1 : decode cX11_point 1 = .ok (.getfield 10, 3) := by decide +kernel
theorem dX11_point_4 : decode cX11_point 4 = .ok (.iload_n 1, 1) := by decide +kernel
theorem dX11_point_5 : decode cX11_point 5 = .ok (.invokevirtual 89, 3) := by decide +kernel
theorem dX11_point_8 : decode cX11_point 8 = .ok (.ifCond .ne 12, 3) := by decide +kernel
theorem dX11_point_11 : decode cX11_point 11 = .ok (.ldc 92, 2) := by decide +kernel
theorem dX11_point_13 : decode cX11_point 13 = .ok (.aload_n 0, 1) := by decide +kernel
theorem dX11_point_14 : decode cX11_point 14 = .ok (.iconst (-1), 1) := by decide +kernel
theorem dX11_point_15 : decode cX11_point 15 = .ok (.invokevirtual 43, 3) := by decide +kernel
theorem dX11_point_18 : decode cX11_point 18 = .ok (.isub, 1) := by decide +kernel
theorem dX11_point_19 : decode cX11_point 19 = .ok (.ireturn, 1) := by decide +kernel
theorem dX11_point_20 : decode cX11_point 20 = .ok (.iload_n 2, 1) := by decide +kernel
theorem dX11_point_21 : decode cX11_point 21 = .ok (.lookupswitch 45 #[(0, 27), (1, 36)], 27) := by decide +kernel
theorem dX11_point_48 : decode cX11_point 48 = .ok (.aload_n 0, 1) := by decide +kernel
theorem dX11_point_49 : decode cX11_point 49 = .ok (.getfield 10, 3) := by decide +kernel
theorem dX11_point_52 : decode cX11_point 52 = .ok (.iload_n 1, 1) := by decide +kernel
theorem dX11_point_53 : decode cX11_point 53 = .ok (.invokevirtual 93, 3) := by decide +kernel
theorem dX11_point_56 : decode cX11_point 56 = .ok (.ireturn, 1) := by decide +kernel
theorem dX11_point_57 : decode cX11_point 57 = .ok (.aload_n 0, 1) := by decide +kernel
theorem dX11_point_58 : decode cX11_point 58 = .ok (.getfield 10, 3) := by decide +kernel
theorem dX11_point_61 : decode cX11_point 61 = .ok (.iload_n 1, 1) := by decide +kernel
theorem dX11_point_62 : decode cX11_point 62 = .ok (.invokevirtual 96, 3) := by decide +kernel
theorem dX11_point_65 : decode cX11_point 65 = .ok (.ireturn, 1) := by decide +kernel
theorem dX11_point_66 : decode cX11_point 66 = .ok (.ldc 92, 2) := by decide +kernel
theorem dX11_point_68 : decode cX11_point 68 = .ok (.aload_n 0, 1) := by decide +kernel
theorem dX11_point_69 : decode cX11_point 69 = .ok (.bipush (-2), 2) := by decide +kernel
theorem dX11_point_71 : decode cX11_point 71 = .ok (.invokevirtual 43, 3) := by decide +kernel
theorem dX11_point_74 : decode cX11_point 74 = .ok (.isub, 1) := by decide +kernel
theorem dX11_point_75 : decode cX11_point 75 = .ok (.ireturn, 1) := by decide +kernel
theorem dX11_shore_0 : decode cX11_shore 0 = .ok (.aload_n 0, 1) := by decide +kernel
theorem dX11_shore_1 : decode cX11_shore 1 = .ok (.getfield 10, 3) := by decide +kernel
theorem dX11_shore_4 : decode cX11_shore 4 = .ok (.iload_n 1, 1) := by decide +kernel
theorem dX11_shore_5 : decode cX11_shore 5 = .ok (.invokevirtual 89, 3) := by decide +kernel
theorem dX11_shore_8 : decode cX11_shore 8 = .ok (.ifCond .ne 9, 3) := by decide +kernel
theorem dX11_shore_11 : decode cX11_shore 11 = .ok (.aload_n 0, 1) := by decide +kernel
theorem dX11_shore_12 : decode cX11_shore 12 = .ok (.iconst (-1), 1) := by decide +kernel
theorem dX11_shore_13 : decode cX11_shore 13 = .ok (.invokevirtual 43, 3) := by decide +kernel
theorem dX11_shore_16 : decode cX11_shore 16 = .ok (.ireturn, 1) := by decide +kernel
theorem dX11_shore_17 : decode cX11_shore 17 = .ok (.aload_n 0, 1) := by decide +kernel
theorem dX11_shore_18 : decode cX11_shore 18 = .ok (.getfield 10, 3) := by decide +kernel
theorem dX11_shore_21 : decode cX11_shore 21 = .ok (.invokevirtual 99, 3) := by decide +kernel
theorem dX11_shore_24 : decode cX11_shore 24 = .ok (.iload_n 1, 1) := by decide +kernel
theorem dX11_shore_25 : decode cX11_shore 25 = .ok (.invokestatic 103, 3) := by decide +kernel
theorem dX11_shore_28 : decode cX11_shore 28 = .ok (.ifCond .eq 7, 3) := by decide +kernel
theorem dX11_shore_31 : decode cX11_shore 31 = .ok (.iconst 1, 1) := by decide +kernel
theorem dX11_shore_32 : decode cX11_shore 32 = .ok (.goto 4, 3) := by decide +kernel
theorem dX11_shore_35 : decode cX11_shore 35 = .ok (.iconst 0, 1) := by decide +kernel
theorem dX11_shore_36 : decode cX11_shore 36 = .ok (.ireturn, 1) := by decide +kernel
theorem dX11_tide_0 : decode cX11_tide 0 = .ok (.iload_n 1, 1) := by decide +kernel
theorem dX11_tide_1 : decode cX11_tide 1 = .ok (.ifCond .ge 10, 3) := by decide +kernel
theorem dX11_tide_4 : decode cX11_tide 4 = .ok (.aload_n 0, 1) := by decide +kernel
theorem dX11_tide_5 : decode cX11_tide 5 = .ok (.bipush (-4), 2) := by decide +kernel
theorem dX11_tide_7 : decode cX11_tide 7 = .ok (.invokevirtual 43, 3) := by decide +kernel
theorem dX11_tide_10 : decode cX11_tide 10 = .ok (.ireturn, 1) := by decide +kernel
theorem dX11_tide_11 : decode cX11_tide 11 = .ok (.iload_n 1, 1) := by decide +kernel
theorem dX11_tide_12 : decode cX11_tide 12 = .ok (.bipush 9, 2) := by decide +kernel
theorem dX11_tide_14 : decode cX11_tide 14 = .ok (.if_icmp .le 10, 3) := by decide +kernel
theorem dX11_tide_17 : decode cX11_tide 17 = .ok (.aload_n 0, 1) := by decide +kernel
theorem dX11_tide_18 : decode cX11_tide 18 = .ok (.bipush (-6), 2) := by decide +kernel
theorem dX11_tide_20 : decode cX11_tide 20 = .ok (.invokevirtual 43, 3) := by decide +kernel
theorem dX11_tide_23 : decode cX11_tide 23 = .ok (.ireturn, 1) := by decide +kernel
theorem dX11_tide_24 : decode cX11_tide 24 = .ok (.aload_n 0, 1) := by decide +kernel
theorem dX11_tide_25 : decode cX11_tide 25 = .ok (.getfield 10, 3) := by decide +kernel
theorem dX11_tide_28 : decode cX11_tide 28 = .ok (.getfield 80, 3) := by decide +kernel
theorem dX11_tide_31 : decode cX11_tide 31 = .ok (.istore_n 2, 1) := by decide +kernel
theorem dX11_tide_32 : decode cX11_tide 32 = .ok (.aload_n 0, 1) := by decide +kernel
theorem dX11_tide_33 : decode cX11_tide 33 = .ok (.getfield 10, 3) := by decide +kernel
theorem dX11_tide_36 : decode cX11_tide 36 = .ok (.iload_n 1, 1) := by decide +kernel
theorem dX11_tide_37 : decode cX11_tide 37 = .ok (.putfield 80, 3) := by decide +kernel
theorem dX11_tide_40 : decode cX11_tide 40 = .ok (.iload_n 2, 1) := by decide +kernel
theorem dX11_tide_41 : decode cX11_tide 41 = .ok (.ireturn, 1) := by decide +kernel
theorem dX11_walk_0 : decode cX11_walk 0 = .ok (.iload_n 3, 1) := by decide +kernel
theorem dX11_walk_1 : decode cX11_walk 1 = .ok (.ifCond .lt 8, 3) := by decide +kernel
theorem dX11_walk_4 : decode cX11_walk 4 = .ok (.iload_n 3, 1) := by decide +kernel
theorem dX11_walk_5 : decode cX11_walk 5 = .ok (.iconst 4, 1) := by decide +kernel
theorem dX11_walk_6 : decode cX11_walk 6 = .ok (.if_icmp .le 10, 3) := by decide +kernel
theorem dX11_walk_9 : decode cX11_walk 9 = .ok (.aload_n 0, 1) := by decide +kernel
theorem dX11_walk_10 : decode cX11_walk 10 = .ok (.bipush (-2), 2) := by decide +kernel
theorem dX11_walk_12 : decode cX11_walk 12 = .ok (.invokevirtual 43, 3) := by decide +kernel
theorem dX11_walk_15 : decode cX11_walk 15 = .ok (.ireturn, 1) := by decide +kernel
theorem dX11_walk_16 : decode cX11_walk 16 = .ok (.iload_n 1, 1) := by decide +kernel
theorem dX11_walk_17 : decode cX11_walk 17 = .ok (.iload_n 2, 1) := by decide +kernel
theorem dX11_walk_18 : decode cX11_walk 18 = .ok (.invokestatic 107, 3) := by decide +kernel
theorem dX11_walk_21 : decode cX11_walk 21 = .ok (.istore 4, 2) := by decide +kernel
theorem dX11_walk_23 : decode cX11_walk 23 = .ok (.iload 4, 2) := by decide +kernel
theorem dX11_walk_25 : decode cX11_walk 25 = .ok (.ifCond .eq 10, 3) := by decide +kernel
theorem dX11_walk_28 : decode cX11_walk 28 = .ok (.aload_n 0, 1) := by decide +kernel
theorem dX11_walk_29 : decode cX11_walk 29 = .ok (.iload 4, 2) := by decide +kernel
theorem dX11_walk_31 : decode cX11_walk 31 = .ok (.invokevirtual 43, 3) := by decide +kernel
theorem dX11_walk_34 : decode cX11_walk 34 = .ok (.ireturn, 1) := by decide +kernel
theorem dX11_walk_35 : decode cX11_walk 35 = .ok (.aload_n 0, 1) := by decide +kernel
theorem dX11_walk_36 : decode cX11_walk 36 = .ok (.getfield 10, 3) := by decide +kernel
theorem dX11_walk_39 : decode cX11_walk 39 = .ok (.invokevirtual 99, 3) := by decide +kernel
theorem dX11_walk_42 : decode cX11_walk 42 = .ok (.lstore 5, 2) := by decide +kernel
theorem dX11_walk_44 : decode cX11_walk 44 = .ok (.aload_n 0, 1) := by decide +kernel
theorem dX11_walk_45 : decode cX11_walk 45 = .ok (.getfield 10, 3) := by decide +kernel
theorem dX11_walk_48 : decode cX11_walk 48 = .ok (.lload 5, 2) := by decide +kernel
theorem dX11_walk_50 : decode cX11_walk 50 = .ok (.iload_n 1, 1) := by decide +kernel
theorem dX11_walk_51 : decode cX11_walk 51 = .ok (.iload_n 2, 1) := by decide +kernel
theorem dX11_walk_52 : decode cX11_walk 52 = .ok (.invokevirtual 111, 3) := by decide +kernel
theorem dX11_walk_55 : decode cX11_walk 55 = .ok (.lstore 7, 2) := by decide +kernel
theorem dX11_walk_57 : decode cX11_walk 57 = .ok (.iload_n 3, 1) := by decide +kernel
theorem dX11_walk_58 : decode cX11_walk 58 = .ok (.tableswitch 58 0 3 #[30, 36, 44, 52], 30) := by decide +kernel
theorem dX11_walk_88 : decode cX11_walk 88 = .ok (.lload 7, 2) := by decide +kernel
theorem dX11_walk_90 : decode cX11_walk 90 = .ok (.invokestatic 115, 3) := by decide +kernel
theorem dX11_walk_93 : decode cX11_walk 93 = .ok (.ireturn, 1) := by decide +kernel
theorem dX11_walk_94 : decode cX11_walk 94 = .ok (.iload_n 1, 1) := by decide +kernel
theorem dX11_walk_95 : decode cX11_walk 95 = .ok (.lload 7, 2) := by decide +kernel
theorem dX11_walk_97 : decode cX11_walk 97 = .ok (.invokestatic 115, 3) := by decide +kernel
theorem dX11_walk_100 : decode cX11_walk 100 = .ok (.imul, 1) := by decide +kernel
theorem dX11_walk_101 : decode cX11_walk 101 = .ok (.ireturn, 1) := by decide +kernel
theorem dX11_walk_102 : decode cX11_walk 102 = .ok (.aload_n 0, 1) := by decide +kernel
theorem dX11_walk_103 : decode cX11_walk 103 = .ok (.lload 7, 2) := by decide +kernel
theorem dX11_walk_105 : decode cX11_walk 105 = .ok (.iload_n 1, 1) := by decide +kernel
theorem dX11_walk_106 : decode cX11_walk 106 = .ok (.invokevirtual 119, 3) := by decide +kernel
theorem dX11_walk_109 : decode cX11_walk 109 = .ok (.ireturn, 1) := by decide +kernel
theorem dX11_walk_110 : decode cX11_walk 110 = .ok (.lload 7, 2) := by decide +kernel
theorem dX11_walk_112 : decode cX11_walk 112 = .ok (.invokestatic 123, 3) := by decide +kernel
theorem dX11_walk_115 : decode cX11_walk 115 = .ok (.ireturn, 1) := by decide +kernel
theorem dX11_walk_116 : decode cX11_walk 116 = .ok (.lload 5, 2) := by decide +kernel
theorem dX11_walk_118 : decode cX11_walk 118 = .ok (.lload 7, 2) := by decide +kernel
theorem dX11_walk_120 : decode cX11_walk 120 = .ok (.invokestatic 126, 3) := by decide +kernel
theorem dX11_walk_123 : decode cX11_walk 123 = .ok (.ireturn, 1) := by decide +kernel
theorem dX11_place_0 : decode cX11_place 0 = .ok (.iload_n 3, 1) := by decide +kernel
theorem dX11_place_1 : decode cX11_place 1 = .ok (.ifCond .ge 10, 3) := by decide +kernel
theorem dX11_place_4 : decode cX11_place 4 = .ok (.aload_n 0, 1) := by decide +kernel
theorem dX11_place_5 : decode cX11_place 5 = .ok (.bipush (-4), 2) := by decide +kernel
theorem dX11_place_7 : decode cX11_place 7 = .ok (.invokevirtual 43, 3) := by decide +kernel
theorem dX11_place_10 : decode cX11_place 10 = .ok (.ireturn, 1) := by decide +kernel
theorem dX11_place_11 : decode cX11_place 11 = .ok (.iload_n 1, 1) := by decide +kernel
theorem dX11_place_12 : decode cX11_place 12 = .ok (.iload_n 2, 1) := by decide +kernel
theorem dX11_place_13 : decode cX11_place 13 = .ok (.invokestatic 107, 3) := by decide +kernel
theorem dX11_place_16 : decode cX11_place 16 = .ok (.istore 4, 2) := by decide +kernel
theorem dX11_place_18 : decode cX11_place 18 = .ok (.iload 4, 2) := by decide +kernel
theorem dX11_place_20 : decode cX11_place 20 = .ok (.ifCond .eq 10, 3) := by decide +kernel
theorem dX11_place_23 : decode cX11_place 23 = .ok (.aload_n 0, 1) := by decide +kernel
theorem dX11_place_24 : decode cX11_place 24 = .ok (.iload 4, 2) := by decide +kernel
theorem dX11_place_26 : decode cX11_place 26 = .ok (.invokevirtual 43, 3) := by decide +kernel
theorem dX11_place_29 : decode cX11_place 29 = .ok (.ireturn, 1) := by decide +kernel
theorem dX11_place_30 : decode cX11_place 30 = .ok (.aload_n 0, 1) := by decide +kernel
theorem dX11_place_31 : decode cX11_place 31 = .ok (.getfield 10, 3) := by decide +kernel
theorem dX11_place_34 : decode cX11_place 34 = .ok (.aload_n 0, 1) := by decide +kernel
theorem dX11_place_35 : decode cX11_place 35 = .ok (.getfield 10, 3) := by decide +kernel
theorem dX11_place_38 : decode cX11_place 38 = .ok (.invokevirtual 99, 3) := by decide +kernel
theorem dX11_place_41 : decode cX11_place 41 = .ok (.iload_n 1, 1) := by decide +kernel
theorem dX11_place_42 : decode cX11_place 42 = .ok (.iload_n 2, 1) := by decide +kernel
theorem dX11_place_43 : decode cX11_place 43 = .ok (.invokevirtual 111, 3) := by decide +kernel
theorem dX11_place_46 : decode cX11_place 46 = .ok (.iload_n 3, 1) := by decide +kernel
theorem dX11_place_47 : decode cX11_place 47 = .ok (.invokestatic 130, 3) := by decide +kernel
theorem dX11_place_50 : decode cX11_place 50 = .ok (.ireturn, 1) := by decide +kernel
theorem dX11_best_0 : decode cX11_best 0 = .ok (.iload_n 1, 1) := by decide +kernel
theorem dX11_best_1 : decode cX11_best 1 = .ok (.ifCond .lt 17, 3) := by decide +kernel
theorem dX11_best_4 : decode cX11_best 4 = .ok (.iload_n 1, 1) := by decide +kernel
theorem dX11_best_5 : decode cX11_best 5 = .ok (.iconst 2, 1) := by decide +kernel
theorem dX11_best_6 : decode cX11_best 6 = .ok (.if_icmp .gt 12, 3) := by decide +kernel
theorem dX11_best_9 : decode cX11_best 9 = .ok (.iload_n 2, 1) := by decide +kernel
theorem dX11_best_10 : decode cX11_best 10 = .ok (.ifCond .lt 8, 3) := by decide +kernel
theorem dX11_best_13 : decode cX11_best 13 = .ok (.iload_n 2, 1) := by decide +kernel
theorem dX11_best_14 : decode cX11_best 14 = .ok (.iconst 1, 1) := by decide +kernel
theorem dX11_best_15 : decode cX11_best 15 = .ok (.if_icmp .le 10, 3) := by decide +kernel
theorem dX11_best_18 : decode cX11_best 18 = .ok (.aload_n 0, 1) := by decide +kernel
theorem dX11_best_19 : decode cX11_best 19 = .ok (.bipush (-2), 2) := by decide +kernel
theorem dX11_best_21 : decode cX11_best 21 = .ok (.invokevirtual 43, 3) := by decide +kernel
theorem dX11_best_24 : decode cX11_best 24 = .ok (.ireturn, 1) := by decide +kernel
theorem dX11_best_25 : decode cX11_best 25 = .ok (.aload_n 0, 1) := by decide +kernel
theorem dX11_best_26 : decode cX11_best 26 = .ok (.getfield 10, 3) := by decide +kernel
theorem dX11_best_29 : decode cX11_best 29 = .ok (.invokevirtual 99, 3) := by decide +kernel
theorem dX11_best_32 : decode cX11_best 32 = .ok (.lstore_n 3, 1) := by decide +kernel
theorem dX11_best_33 : decode cX11_best 33 = .ok (.bipush (-9), 2) := by decide +kernel
theorem dX11_best_35 : decode cX11_best 35 = .ok (.istore 5, 2) := by decide +kernel
theorem dX11_best_37 : decode cX11_best 37 = .ok (.iconst 0, 1) := by decide +kernel
theorem dX11_best_38 : decode cX11_best 38 = .ok (.istore 6, 2) := by decide +kernel
theorem dX11_best_40 : decode cX11_best 40 = .ok (.iconst 1, 1) := by decide +kernel
theorem dX11_best_41 : decode cX11_best 41 = .ok (.istore 7, 2) := by decide +kernel
theorem dX11_best_43 : decode cX11_best 43 = .ok (.iload 7, 2) := by decide +kernel
theorem dX11_best_45 : decode cX11_best 45 = .ok (.bipush 9, 2) := by decide +kernel
theorem dX11_best_47 : decode cX11_best 47 = .ok (.if_icmp .gt 125, 3) := by decide +kernel
theorem dX11_best_50 : decode cX11_best 50 = .ok (.iconst 0, 1) := by decide +kernel
theorem dX11_best_51 : decode cX11_best 51 = .ok (.istore 8, 2) := by decide +kernel
theorem dX11_best_53 : decode cX11_best 53 = .ok (.iload 8, 2) := by decide +kernel
theorem dX11_best_55 : decode cX11_best 55 = .ok (.bipush 9, 2) := by decide +kernel
theorem dX11_best_57 : decode cX11_best 57 = .ok (.if_icmp .gt 109, 3) := by decide +kernel
theorem dX11_best_60 : decode cX11_best 60 = .ok (.aload_n 0, 1) := by decide +kernel
theorem dX11_best_61 : decode cX11_best 61 = .ok (.getfield 10, 3) := by decide +kernel
theorem dX11_best_64 : decode cX11_best 64 = .ok (.lload_n 3, 1) := by decide +kernel
theorem dX11_best_65 : decode cX11_best 65 = .ok (.iload 7, 2) := by decide +kernel
theorem dX11_best_67 : decode cX11_best 67 = .ok (.iload 8, 2) := by decide +kernel
theorem dX11_best_69 : decode cX11_best 69 = .ok (.invokevirtual 111, 3) := by decide +kernel
theorem dX11_best_72 : decode cX11_best 72 = .ok (.lstore 9, 2) := by decide +kernel
theorem dX11_best_74 : decode cX11_best 74 = .ok (.iload_n 1, 1) := by decide +kernel
theorem dX11_best_75 : decode cX11_best 75 = .ok (.iconst 2, 1) := by decide +kernel
theorem dX11_best_76 : decode cX11_best 76 = .ok (.if_icmp .ne 14, 3) := by decide +kernel
theorem dX11_best_79 : decode cX11_best 79 = .ok (.iload 7, 2) := by decide +kernel
theorem dX11_best_81 : decode cX11_best 81 = .ok (.lload 9, 2) := by decide +kernel
theorem dX11_best_83 : decode cX11_best 83 = .ok (.invokestatic 115, 3) := by decide +kernel
theorem dX11_best_86 : decode cX11_best 86 = .ok (.imul, 1) := by decide +kernel
theorem dX11_best_87 : decode cX11_best 87 = .ok (.goto 11, 3) := by decide +kernel
theorem dX11_best_90 : decode cX11_best 90 = .ok (.aload_n 0, 1) := by decide +kernel
theorem dX11_best_91 : decode cX11_best 91 = .ok (.lload 9, 2) := by decide +kernel
theorem dX11_best_93 : decode cX11_best 93 = .ok (.iload 7, 2) := by decide +kernel
theorem dX11_best_95 : decode cX11_best 95 = .ok (.invokevirtual 119, 3) := by decide +kernel
theorem dX11_best_98 : decode cX11_best 98 = .ok (.istore 11, 2) := by decide +kernel
theorem dX11_best_100 : decode cX11_best 100 = .ok (.iload_n 1, 1) := by decide +kernel
theorem dX11_best_101 : decode cX11_best 101 = .ok (.iconst 1, 1) := by decide +kernel
theorem dX11_best_102 : decode cX11_best 102 = .ok (.if_icmp .ne 18, 3) := by decide +kernel
theorem dX11_best_105 : decode cX11_best 105 = .ok (.iload 11, 2) := by decide +kernel
theorem dX11_best_107 : decode cX11_best 107 = .ok (.iload 6, 2) := by decide +kernel
theorem dX11_best_109 : decode cX11_best 109 = .ok (.if_icmp .ge 7, 3) := by decide +kernel
theorem dX11_best_112 : decode cX11_best 112 = .ok (.iconst 1, 1) := by decide +kernel
theorem dX11_best_113 : decode cX11_best 113 = .ok (.goto 19, 3) := by decide +kernel
theorem dX11_best_116 : decode cX11_best 116 = .ok (.iconst 0, 1) := by decide +kernel
theorem dX11_best_117 : decode cX11_best 117 = .ok (.goto 15, 3) := by decide +kernel
theorem dX11_best_120 : decode cX11_best 120 = .ok (.iload 11, 2) := by decide +kernel
theorem dX11_best_122 : decode cX11_best 122 = .ok (.iload 6, 2) := by decide +kernel
theorem dX11_best_124 : decode cX11_best 124 = .ok (.if_icmp .le 7, 3) := by decide +kernel
theorem dX11_best_127 : decode cX11_best 127 = .ok (.iconst 1, 1) := by decide +kernel
theorem dX11_best_128 : decode cX11_best 128 = .ok (.goto 4, 3) := by decide +kernel
theorem dX11_best_131 : decode cX11_best 131 = .ok (.iconst 0, 1) := by decide +kernel
theorem dX11_best_132 : decode cX11_best 132 = .ok (.istore 12, 2) := by decide +kernel
theorem dX11_best_134 : decode cX11_best 134 = .ok (.iload 5, 2) := by decide +kernel
theorem dX11_best_136 : decode cX11_best 136 = .ok (.bipush (-9), 2) := by decide +kernel
theorem dX11_best_138 : decode cX11_best 138 = .ok (.if_icmp .eq 8, 3) := by decide +kernel
theorem dX11_best_141 : decode cX11_best 141 = .ok (.iload 12, 2) := by decide +kernel
theorem dX11_best_143 : decode cX11_best 143 = .ok (.ifCond .eq 17, 3) := by decide +kernel
theorem dX11_best_146 : decode cX11_best 146 = .ok (.bipush 10, 2) := by decide +kernel
theorem dX11_best_148 : decode cX11_best 148 = .ok (.iload 7, 2) := by decide +kernel
theorem dX11_best_150 : decode cX11_best 150 = .ok (.imul, 1) := by decide +kernel
theorem dX11_best_151 : decode cX11_best 151 = .ok (.iload 8, 2) := by decide +kernel
theorem dX11_best_153 : decode cX11_best 153 = .ok (.iadd, 1) := by decide +kernel
theorem dX11_best_154 : decode cX11_best 154 = .ok (.istore 5, 2) := by decide +kernel
theorem dX11_best_156 : decode cX11_best 156 = .ok (.iload 11, 2) := by decide +kernel
theorem dX11_best_158 : decode cX11_best 158 = .ok (.istore 6, 2) := by decide +kernel
theorem dX11_best_160 : decode cX11_best 160 = .ok (.iinc 8 1, 3) := by decide +kernel
theorem dX11_best_163 : decode cX11_best 163 = .ok (.goto (-110), 3) := by decide +kernel
theorem dX11_best_166 : decode cX11_best 166 = .ok (.iinc 7 1, 3) := by decide +kernel
theorem dX11_best_169 : decode cX11_best 169 = .ok (.goto (-126), 3) := by decide +kernel
theorem dX11_best_172 : decode cX11_best 172 = .ok (.iload_n 2, 1) := by decide +kernel
theorem dX11_best_173 : decode cX11_best 173 = .ok (.ifCond .ne 8, 3) := by decide +kernel
theorem dX11_best_176 : decode cX11_best 176 = .ok (.iload 5, 2) := by decide +kernel
theorem dX11_best_178 : decode cX11_best 178 = .ok (.goto 5, 3) := by decide +kernel
theorem dX11_best_181 : decode cX11_best 181 = .ok (.iload 6, 2) := by decide +kernel
theorem dX11_best_183 : decode cX11_best 183 = .ok (.ireturn, 1) := by decide +kernel
theorem dX11_span_0 : decode cX11_span 0 = .ok (.iload_n 1, 1) := by decide +kernel
theorem dX11_span_1 : decode cX11_span 1 = .ok (.invokestatic 133, 3) := by decide +kernel
theorem dX11_span_4 : decode cX11_span 4 = .ok (.istore_n 2, 1) := by decide +kernel
theorem dX11_span_5 : decode cX11_span 5 = .ok (.iload_n 2, 1) := by decide +kernel
theorem dX11_span_6 : decode cX11_span 6 = .ok (.ifCond .eq 9, 3) := by decide +kernel
theorem dX11_span_9 : decode cX11_span 9 = .ok (.aload_n 0, 1) := by decide +kernel
theorem dX11_span_10 : decode cX11_span 10 = .ok (.iload_n 2, 1) := by decide +kernel
theorem dX11_span_11 : decode cX11_span 11 = .ok (.invokevirtual 43, 3) := by decide +kernel
theorem dX11_span_14 : decode cX11_span 14 = .ok (.ireturn, 1) := by decide +kernel
theorem dX11_span_15 : decode cX11_span 15 = .ok (.aload_n 0, 1) := by decide +kernel
theorem dX11_span_16 : decode cX11_span 16 = .ok (.getfield 10, 3) := by decide +kernel
theorem dX11_span_19 : decode cX11_span 19 = .ok (.invokevirtual 99, 3) := by decide +kernel
theorem dX11_span_22 : decode cX11_span 22 = .ok (.lstore_n 3, 1) := by decide +kernel
theorem dX11_span_23 : decode cX11_span 23 = .ok (.aload_n 0, 1) := by decide +kernel
theorem dX11_span_24 : decode cX11_span 24 = .ok (.getfield 10, 3) := by decide +kernel
theorem dX11_span_27 : decode cX11_span 27 = .ok (.lload_n 3, 1) := by decide +kernel
theorem dX11_span_28 : decode cX11_span 28 = .ok (.iload_n 1, 1) := by decide +kernel
theorem dX11_span_29 : decode cX11_span 29 = .ok (.iconst 0, 1) := by decide +kernel
theorem dX11_span_30 : decode cX11_span 30 = .ok (.invokevirtual 136, 3) := by decide +kernel
theorem dX11_span_33 : decode cX11_span 33 = .ok (.istore 5, 2) := by decide +kernel
theorem dX11_span_35 : decode cX11_span 35 = .ok (.iload 5, 2) := by decide +kernel
theorem dX11_span_37 : decode cX11_span 37 = .ok (.istore 6, 2) := by decide +kernel
theorem dX11_span_39 : decode cX11_span 39 = .ok (.iconst 1, 1) := by decide +kernel
theorem dX11_span_40 : decode cX11_span 40 = .ok (.istore 7, 2) := by decide +kernel
theorem dX11_span_42 : decode cX11_span 42 = .ok (.iload 7, 2) := by decide +kernel
theorem dX11_span_44 : decode cX11_span 44 = .ok (.bipush 9, 2) := by decide +kernel
theorem dX11_span_46 : decode cX11_span 46 = .ok (.if_icmp .gt 40, 3) := by decide +kernel
theorem dX11_span_49 : decode cX11_span 49 = .ok (.aload_n 0, 1) := by decide +kernel
theorem dX11_span_50 : decode cX11_span 50 = .ok (.getfield 10, 3) := by decide +kernel
theorem dX11_span_53 : decode cX11_span 53 = .ok (.lload_n 3, 1) := by decide +kernel
theorem dX11_span_54 : decode cX11_span 54 = .ok (.iload_n 1, 1) := by decide +kernel
theorem dX11_span_55 : decode cX11_span 55 = .ok (.iload 7, 2) := by decide +kernel
theorem dX11_span_57 : decode cX11_span 57 = .ok (.invokevirtual 136, 3) := by decide +kernel
theorem dX11_span_60 : decode cX11_span 60 = .ok (.istore 8, 2) := by decide +kernel
theorem dX11_span_62 : decode cX11_span 62 = .ok (.iload 5, 2) := by decide +kernel
theorem dX11_span_64 : decode cX11_span 64 = .ok (.iload 8, 2) := by decide +kernel
theorem dX11_span_66 : decode cX11_span 66 = .ok (.invokestatic 140, 3) := by decide +kernel
theorem dX11_span_69 : decode cX11_span 69 = .ok (.istore 5, 2) := by decide +kernel
theorem dX11_span_71 : decode cX11_span 71 = .ok (.iload 6, 2) := by decide +kernel
theorem dX11_span_73 : decode cX11_span 73 = .ok (.iload 8, 2) := by decide +kernel
theorem dX11_span_75 : decode cX11_span 75 = .ok (.invokestatic 145, 3) := by decide +kernel
theorem dX11_span_78 : decode cX11_span 78 = .ok (.istore 6, 2) := by decide +kernel
theorem dX11_span_80 : decode cX11_span 80 = .ok (.iinc 7 1, 3) := by decide +kernel
theorem dX11_span_83 : decode cX11_span 83 = .ok (.goto (-41), 3) := by decide +kernel
theorem dX11_span_86 : decode cX11_span 86 = .ok (.iload 5, 2) := by decide +kernel
theorem dX11_span_88 : decode cX11_span 88 = .ok (.iload 6, 2) := by decide +kernel
theorem dX11_span_90 : decode cX11_span 90 = .ok (.isub, 1) := by decide +kernel
theorem dX11_span_91 : decode cX11_span 91 = .ok (.ireturn, 1) := by decide +kernel
theorem dX11_finer_0 : decode cX11_finer 0 = .ok (.iconst 1, 1) := by decide +kernel
theorem dX11_finer_1 : decode cX11_finer 1 = .ok (.iload_n 1, 1) := by decide +kernel
theorem dX11_finer_2 : decode cX11_finer 2 = .ok (.invokestatic 107, 3) := by decide +kernel
theorem dX11_finer_5 : decode cX11_finer 5 = .ok (.istore_n 2, 1) := by decide +kernel
theorem dX11_finer_6 : decode cX11_finer 6 = .ok (.iload_n 2, 1) := by decide +kernel
theorem dX11_finer_7 : decode cX11_finer 7 = .ok (.ifCond .eq 9, 3) := by decide +kernel
theorem dX11_finer_10 : decode cX11_finer 10 = .ok (.aload_n 0, 1) := by decide +kernel
theorem dX11_finer_11 : decode cX11_finer 11 = .ok (.iload_n 2, 1) := by decide +kernel
theorem dX11_finer_12 : decode cX11_finer 12 = .ok (.invokevirtual 43, 3) := by decide +kernel
theorem dX11_finer_15 : decode cX11_finer 15 = .ok (.ireturn, 1) := by decide +kernel
theorem dX11_finer_16 : decode cX11_finer 16 = .ok (.aload_n 0, 1) := by decide +kernel
theorem dX11_finer_17 : decode cX11_finer 17 = .ok (.getfield 10, 3) := by decide +kernel
theorem dX11_finer_20 : decode cX11_finer 20 = .ok (.invokevirtual 99, 3) := by decide +kernel
theorem dX11_finer_23 : decode cX11_finer 23 = .ok (.lstore_n 3, 1) := by decide +kernel
theorem dX11_finer_24 : decode cX11_finer 24 = .ok (.iconst 0, 1) := by decide +kernel
theorem dX11_finer_25 : decode cX11_finer 25 = .ok (.istore 5, 2) := by decide +kernel
theorem dX11_finer_27 : decode cX11_finer 27 = .ok (.aload_n 0, 1) := by decide +kernel
theorem dX11_finer_28 : decode cX11_finer 28 = .ok (.getfield 10, 3) := by decide +kernel
theorem dX11_finer_31 : decode cX11_finer 31 = .ok (.lload_n 3, 1) := by decide +kernel
theorem dX11_finer_32 : decode cX11_finer 32 = .ok (.iconst 1, 1) := by decide +kernel
theorem dX11_finer_33 : decode cX11_finer 33 = .ok (.iload_n 1, 1) := by decide +kernel
theorem dX11_finer_34 : decode cX11_finer 34 = .ok (.invokevirtual 136, 3) := by decide +kernel
theorem dX11_finer_37 : decode cX11_finer 37 = .ok (.istore 6, 2) := by decide +kernel
theorem dX11_finer_39 : decode cX11_finer 39 = .ok (.iconst 2, 1) := by decide +kernel
theorem dX11_finer_40 : decode cX11_finer 40 = .ok (.istore 7, 2) := by decide +kernel
theorem dX11_finer_42 : decode cX11_finer 42 = .ok (.iload 7, 2) := by decide +kernel
theorem dX11_finer_44 : decode cX11_finer 44 = .ok (.bipush 9, 2) := by decide +kernel
theorem dX11_finer_46 : decode cX11_finer 46 = .ok (.if_icmp .gt 36, 3) := by decide +kernel
theorem dX11_finer_49 : decode cX11_finer 49 = .ok (.aload_n 0, 1) := by decide +kernel
theorem dX11_finer_50 : decode cX11_finer 50 = .ok (.getfield 10, 3) := by decide +kernel
theorem dX11_finer_53 : decode cX11_finer 53 = .ok (.lload_n 3, 1) := by decide +kernel
theorem dX11_finer_54 : decode cX11_finer 54 = .ok (.iload 7, 2) := by decide +kernel
theorem dX11_finer_56 : decode cX11_finer 56 = .ok (.iload_n 1, 1) := by decide +kernel
theorem dX11_finer_57 : decode cX11_finer 57 = .ok (.invokevirtual 136, 3) := by decide +kernel
theorem dX11_finer_60 : decode cX11_finer 60 = .ok (.istore 8, 2) := by decide +kernel
theorem dX11_finer_62 : decode cX11_finer 62 = .ok (.iload 8, 2) := by decide +kernel
theorem dX11_finer_64 : decode cX11_finer 64 = .ok (.iload 6, 2) := by decide +kernel
theorem dX11_finer_66 : decode cX11_finer 66 = .ok (.if_icmp .le 6, 3) := by decide +kernel
theorem dX11_finer_69 : decode cX11_finer 69 = .ok (.iinc 5 1, 3) := by decide +kernel
theorem dX11_finer_72 : decode cX11_finer 72 = .ok (.iload 8, 2) := by decide +kernel
theorem dX11_finer_74 : decode cX11_finer 74 = .ok (.istore 6, 2) := by decide +kernel
theorem dX11_finer_76 : decode cX11_finer 76 = .ok (.iinc 7 1, 3) := by decide +kernel
theorem dX11_finer_79 : decode cX11_finer 79 = .ok (.goto (-37), 3) := by decide +kernel
theorem dX11_finer_82 : decode cX11_finer 82 = .ok (.iload 5, 2) := by decide +kernel
theorem dX11_finer_84 : decode cX11_finer 84 = .ok (.ireturn, 1) := by decide +kernel
theorem dX11_two_0 : decode cX11_two 0 = .ok (.iload_n 3, 1) := by decide +kernel
theorem dX11_two_1 : decode cX11_two 1 = .ok (.ifCond .lt 8, 3) := by decide +kernel
theorem dX11_two_4 : decode cX11_two 4 = .ok (.iload_n 3, 1) := by decide +kernel
theorem dX11_two_5 : decode cX11_two 5 = .ok (.iconst 1, 1) := by decide +kernel
theorem dX11_two_6 : decode cX11_two 6 = .ok (.if_icmp .le 10, 3) := by decide +kernel
theorem dX11_two_9 : decode cX11_two 9 = .ok (.aload_n 0, 1) := by decide +kernel
theorem dX11_two_10 : decode cX11_two 10 = .ok (.bipush (-2), 2) := by decide +kernel
theorem dX11_two_12 : decode cX11_two 12 = .ok (.invokevirtual 43, 3) := by decide +kernel
theorem dX11_two_15 : decode cX11_two 15 = .ok (.ireturn, 1) := by decide +kernel
theorem dX11_two_16 : decode cX11_two 16 = .ok (.iload_n 1, 1) := by decide +kernel
theorem dX11_two_17 : decode cX11_two 17 = .ok (.iconst 1, 1) := by decide +kernel
theorem dX11_two_18 : decode cX11_two 18 = .ok (.if_icmp .lt 8, 3) := by decide +kernel
theorem dX11_two_21 : decode cX11_two 21 = .ok (.iload_n 2, 1) := by decide +kernel
theorem dX11_two_22 : decode cX11_two 22 = .ok (.iconst 1, 1) := by decide +kernel
theorem dX11_two_23 : decode cX11_two 23 = .ok (.if_icmp .ge 10, 3) := by decide +kernel
theorem dX11_two_26 : decode cX11_two 26 = .ok (.aload_n 0, 1) := by decide +kernel
theorem dX11_two_27 : decode cX11_two 27 = .ok (.bipush (-4), 2) := by decide +kernel
theorem dX11_two_29 : decode cX11_two 29 = .ok (.invokevirtual 43, 3) := by decide +kernel
theorem dX11_two_32 : decode cX11_two 32 = .ok (.ireturn, 1) := by decide +kernel
theorem dX11_two_33 : decode cX11_two 33 = .ok (.iload_n 1, 1) := by decide +kernel
theorem dX11_two_34 : decode cX11_two 34 = .ok (.bipush 9, 2) := by decide +kernel
theorem dX11_two_36 : decode cX11_two 36 = .ok (.if_icmp .gt 9, 3) := by decide +kernel
theorem dX11_two_39 : decode cX11_two 39 = .ok (.iload_n 2, 1) := by decide +kernel
theorem dX11_two_40 : decode cX11_two 40 = .ok (.bipush 9, 2) := by decide +kernel
theorem dX11_two_42 : decode cX11_two 42 = .ok (.if_icmp .le 10, 3) := by decide +kernel
theorem dX11_two_45 : decode cX11_two 45 = .ok (.aload_n 0, 1) := by decide +kernel
theorem dX11_two_46 : decode cX11_two 46 = .ok (.bipush (-6), 2) := by decide +kernel
theorem dX11_two_48 : decode cX11_two 48 = .ok (.invokevirtual 43, 3) := by decide +kernel
theorem dX11_two_51 : decode cX11_two 51 = .ok (.ireturn, 1) := by decide +kernel
theorem dX11_two_52 : decode cX11_two 52 = .ok (.aload_n 0, 1) := by decide +kernel
theorem dX11_two_53 : decode cX11_two 53 = .ok (.getfield 10, 3) := by decide +kernel
theorem dX11_two_56 : decode cX11_two 56 = .ok (.iload_n 1, 1) := by decide +kernel
theorem dX11_two_57 : decode cX11_two 57 = .ok (.iload_n 2, 1) := by decide +kernel
theorem dX11_two_58 : decode cX11_two 58 = .ok (.iload_n 3, 1) := by decide +kernel
theorem dX11_two_59 : decode cX11_two 59 = .ok (.ifCond .ne 7, 3) := by decide +kernel
theorem dX11_two_62 : decode cX11_two 62 = .ok (.iconst 1, 1) := by decide +kernel
theorem dX11_two_63 : decode cX11_two 63 = .ok (.goto 4, 3) := by decide +kernel
theorem dX11_two_66 : decode cX11_two 66 = .ok (.iconst 0, 1) := by decide +kernel
theorem dX11_two_67 : decode cX11_two 67 = .ok (.invokevirtual 148, 3) := by decide +kernel
theorem dX11_two_70 : decode cX11_two 70 = .ok (.ireturn, 1) := by decide +kernel
theorem dX11_map_0 : decode cX11_map 0 = .ok (.iload_n 2, 1) := by decide +kernel
theorem dX11_map_1 : decode cX11_map 1 = .ok (.ifCond .lt 8, 3) := by decide +kernel
theorem dX11_map_4 : decode cX11_map 4 = .ok (.iload_n 2, 1) := by decide +kernel
theorem dX11_map_5 : decode cX11_map 5 = .ok (.iconst 1, 1) := by decide +kernel
theorem dX11_map_6 : decode cX11_map 6 = .ok (.if_icmp .le 10, 3) := by decide +kernel
theorem dX11_map_9 : decode cX11_map 9 = .ok (.aload_n 0, 1) := by decide +kernel
theorem dX11_map_10 : decode cX11_map 10 = .ok (.bipush (-2), 2) := by decide +kernel
theorem dX11_map_12 : decode cX11_map 12 = .ok (.invokevirtual 43, 3) := by decide +kernel
theorem dX11_map_15 : decode cX11_map 15 = .ok (.ireturn, 1) := by decide +kernel
theorem dX11_map_16 : decode cX11_map 16 = .ok (.iload_n 1, 1) := by decide +kernel
theorem dX11_map_17 : decode cX11_map 17 = .ok (.ifCond .ge 10, 3) := by decide +kernel
theorem dX11_map_20 : decode cX11_map 20 = .ok (.aload_n 0, 1) := by decide +kernel
theorem dX11_map_21 : decode cX11_map 21 = .ok (.bipush (-4), 2) := by decide +kernel
theorem dX11_map_23 : decode cX11_map 23 = .ok (.invokevirtual 43, 3) := by decide +kernel
theorem dX11_map_26 : decode cX11_map 26 = .ok (.ireturn, 1) := by decide +kernel
theorem dX11_map_27 : decode cX11_map 27 = .ok (.bipush (-9), 2) := by decide +kernel
theorem dX11_map_29 : decode cX11_map 29 = .ok (.istore_n 3, 1) := by decide +kernel
theorem dX11_map_30 : decode cX11_map 30 = .ok (.iconst 0, 1) := by decide +kernel
theorem dX11_map_31 : decode cX11_map 31 = .ok (.istore 4, 2) := by decide +kernel
theorem dX11_map_33 : decode cX11_map 33 = .ok (.iconst 1, 1) := by decide +kernel
theorem dX11_map_34 : decode cX11_map 34 = .ok (.istore 5, 2) := by decide +kernel
theorem dX11_map_36 : decode cX11_map 36 = .ok (.iload 5, 2) := by decide +kernel
theorem dX11_map_38 : decode cX11_map 38 = .ok (.bipush 9, 2) := by decide +kernel
theorem dX11_map_40 : decode cX11_map 40 = .ok (.if_icmp .gt 93, 3) := by decide +kernel
theorem dX11_map_43 : decode cX11_map 43 = .ok (.iconst 0, 1) := by decide +kernel
theorem dX11_map_44 : decode cX11_map 44 = .ok (.istore 6, 2) := by decide +kernel
theorem dX11_map_46 : decode cX11_map 46 = .ok (.iload 6, 2) := by decide +kernel
theorem dX11_map_48 : decode cX11_map 48 = .ok (.bipush 9, 2) := by decide +kernel
theorem dX11_map_50 : decode cX11_map 50 = .ok (.if_icmp .gt 77, 3) := by decide +kernel
theorem dX11_map_53 : decode cX11_map 53 = .ok (.iconst 0, 1) := by decide +kernel
theorem dX11_map_54 : decode cX11_map 54 = .ok (.istore 7, 2) := by decide +kernel
theorem dX11_map_56 : decode cX11_map 56 = .ok (.iload 7, 2) := by decide +kernel
theorem dX11_map_58 : decode cX11_map 58 = .ok (.bipush 9, 2) := by decide +kernel
theorem dX11_map_60 : decode cX11_map 60 = .ok (.if_icmp .gt 61, 3) := by decide +kernel
theorem dX11_map_63 : decode cX11_map 63 = .ok (.aload_n 0, 1) := by decide +kernel
theorem dX11_map_64 : decode cX11_map 64 = .ok (.getfield 10, 3) := by decide +kernel
theorem dX11_map_67 : decode cX11_map 67 = .ok (.aload_n 0, 1) := by decide +kernel
theorem dX11_map_68 : decode cX11_map 68 = .ok (.getfield 10, 3) := by decide +kernel
theorem dX11_map_71 : decode cX11_map 71 = .ok (.iload 7, 2) := by decide +kernel
theorem dX11_map_73 : decode cX11_map 73 = .ok (.invokevirtual 152, 3) := by decide +kernel
theorem dX11_map_76 : decode cX11_map 76 = .ok (.iload 5, 2) := by decide +kernel
theorem dX11_map_78 : decode cX11_map 78 = .ok (.iload 6, 2) := by decide +kernel
theorem dX11_map_80 : decode cX11_map 80 = .ok (.invokevirtual 136, 3) := by decide +kernel
theorem dX11_map_83 : decode cX11_map 83 = .ok (.iload_n 1, 1) := by decide +kernel
theorem dX11_map_84 : decode cX11_map 84 = .ok (.if_icmp .ne 31, 3) := by decide +kernel
theorem dX11_map_87 : decode cX11_map 87 = .ok (.iinc 4 1, 3) := by decide +kernel
theorem dX11_map_90 : decode cX11_map 90 = .ok (.iload_n 3, 1) := by decide +kernel
theorem dX11_map_91 : decode cX11_map 91 = .ok (.bipush (-9), 2) := by decide +kernel
theorem dX11_map_93 : decode cX11_map 93 = .ok (.if_icmp .ne 20, 3) := by decide +kernel
theorem dX11_map_96 : decode cX11_map 96 = .ok (.bipush 100, 2) := by decide +kernel
theorem dX11_map_98 : decode cX11_map 98 = .ok (.iload 5, 2) := by decide +kernel
theorem dX11_map_100 : decode cX11_map 100 = .ok (.imul, 1) := by decide +kernel
theorem dX11_map_101 : decode cX11_map 101 = .ok (.bipush 10, 2) := by decide +kernel
theorem dX11_map_103 : decode cX11_map 103 = .ok (.iload 6, 2) := by decide +kernel
theorem dX11_map_105 : decode cX11_map 105 = .ok (.imul, 1) := by decide +kernel
theorem dX11_map_106 : decode cX11_map 106 = .ok (.iadd, 1) := by decide +kernel
theorem dX11_map_107 : decode cX11_map 107 = .ok (.iload 7, 2) := by decide +kernel
theorem dX11_map_109 : decode cX11_map 109 = .ok (.iadd, 1) := by decide +kernel
theorem dX11_map_110 : decode cX11_map 110 = .ok (.goto 4, 3) := by decide +kernel
theorem dX11_map_113 : decode cX11_map 113 = .ok (.iload_n 3, 1) := by decide +kernel
theorem dX11_map_114 : decode cX11_map 114 = .ok (.istore_n 3, 1) := by decide +kernel
theorem dX11_map_115 : decode cX11_map 115 = .ok (.iinc 7 1, 3) := by decide +kernel
theorem dX11_map_118 : decode cX11_map 118 = .ok (.goto (-62), 3) := by decide +kernel
theorem dX11_map_121 : decode cX11_map 121 = .ok (.iinc 6 1, 3) := by decide +kernel
theorem dX11_map_124 : decode cX11_map 124 = .ok (.goto (-78), 3) := by decide +kernel
theorem dX11_map_127 : decode cX11_map 127 = .ok (.iinc 5 1, 3) := by decide +kernel
theorem dX11_map_130 : decode cX11_map 130 = .ok (.goto (-94), 3) := by decide +kernel
theorem dX11_map_133 : decode cX11_map 133 = .ok (.iload_n 2, 1) := by decide +kernel
theorem dX11_map_134 : decode cX11_map 134 = .ok (.ifCond .ne 8, 3) := by decide +kernel
theorem dX11_map_137 : decode cX11_map 137 = .ok (.iload 4, 2) := by decide +kernel
theorem dX11_map_139 : decode cX11_map 139 = .ok (.goto 4, 3) := by decide +kernel
theorem dX11_map_142 : decode cX11_map 142 = .ok (.iload_n 3, 1) := by decide +kernel
theorem dX11_map_143 : decode cX11_map 143 = .ok (.ireturn, 1) := by decide +kernel
theorem dX11_rock_0 : decode cX11_rock 0 = .ok (.aload_n 0, 1) := by decide +kernel
theorem dX11_rock_1 : decode cX11_rock 1 = .ok (.getfield 10, 3) := by decide +kernel
theorem dX11_rock_4 : decode cX11_rock 4 = .ok (.getfield 156, 3) := by decide +kernel
theorem dX11_rock_7 : decode cX11_rock 7 = .ok (.iload_n 1, 1) := by decide +kernel
theorem dX11_rock_8 : decode cX11_rock 8 = .ok (.invokevirtual 160, 3) := by decide +kernel
theorem dX11_rock_11 : decode cX11_rock 11 = .ok (.astore_n 3, 1) := by decide +kernel
theorem dX11_rock_12 : decode cX11_rock 12 = .ok (.aload_n 3, 1) := by decide +kernel
theorem dX11_rock_13 : decode cX11_rock 13 = .ok (.ifnonnull 9, 3) := by decide +kernel
theorem dX11_rock_16 : decode cX11_rock 16 = .ok (.aload_n 0, 1) := by decide +kernel
theorem dX11_rock_17 : decode cX11_rock 17 = .ok (.iconst (-1), 1) := by decide +kernel
theorem dX11_rock_18 : decode cX11_rock 18 = .ok (.invokevirtual 43, 3) := by decide +kernel
theorem dX11_rock_21 : decode cX11_rock 21 = .ok (.ireturn, 1) := by decide +kernel
theorem dX11_rock_22 : decode cX11_rock 22 = .ok (.iload_n 2, 1) := by decide +kernel
theorem dX11_rock_23 : decode cX11_rock 23 = .ok (.tableswitch 73 0 4 #[33, 38, 43, 48, 53], 33) := by decide +kernel
theorem dX11_rock_56 : decode cX11_rock 56 = .ok (.aload_n 3, 1) := by decide +kernel
theorem dX11_rock_57 : decode cX11_rock 57 = .ok (.getfield 166, 3) := by decide +kernel
theorem dX11_rock_60 : decode cX11_rock 60 = .ok (.ireturn, 1) := by decide +kernel
theorem dX11_rock_61 : decode cX11_rock 61 = .ok (.aload_n 3, 1) := by decide +kernel
theorem dX11_rock_62 : decode cX11_rock 62 = .ok (.getfield 171, 3) := by decide +kernel
theorem dX11_rock_65 : decode cX11_rock 65 = .ok (.ireturn, 1) := by decide +kernel
theorem dX11_rock_66 : decode cX11_rock 66 = .ok (.aload_n 3, 1) := by decide +kernel
theorem dX11_rock_67 : decode cX11_rock 67 = .ok (.getfield 174, 3) := by decide +kernel
theorem dX11_rock_70 : decode cX11_rock 70 = .ok (.ireturn, 1) := by decide +kernel
theorem dX11_rock_71 : decode cX11_rock 71 = .ok (.aload_n 3, 1) := by decide +kernel
theorem dX11_rock_72 : decode cX11_rock 72 = .ok (.getfield 177, 3) := by decide +kernel
theorem dX11_rock_75 : decode cX11_rock 75 = .ok (.ireturn, 1) := by decide +kernel
theorem dX11_rock_76 : decode cX11_rock 76 = .ok (.aload_n 3, 1) := by decide +kernel
theorem dX11_rock_77 : decode cX11_rock 77 = .ok (.aload_n 0, 1) := by decide +kernel
theorem dX11_rock_78 : decode cX11_rock 78 = .ok (.getfield 10, 3) := by decide +kernel
theorem dX11_rock_81 : decode cX11_rock 81 = .ok (.getfield 80, 3) := by decide +kernel
theorem dX11_rock_84 : decode cX11_rock 84 = .ok (.invokevirtual 180, 3) := by decide +kernel
theorem dX11_rock_87 : decode cX11_rock 87 = .ok (.ifCond .eq 7, 3) := by decide +kernel
theorem dX11_rock_90 : decode cX11_rock 90 = .ok (.iconst 1, 1) := by decide +kernel
theorem dX11_rock_91 : decode cX11_rock 91 = .ok (.goto 4, 3) := by decide +kernel
theorem dX11_rock_94 : decode cX11_rock 94 = .ok (.iconst 0, 1) := by decide +kernel
theorem dX11_rock_95 : decode cX11_rock 95 = .ok (.ireturn, 1) := by decide +kernel
theorem dX11_rock_96 : decode cX11_rock 96 = .ok (.aload_n 0, 1) := by decide +kernel
theorem dX11_rock_97 : decode cX11_rock 97 = .ok (.bipush (-2), 2) := by decide +kernel
theorem dX11_rock_99 : decode cX11_rock 99 = .ok (.invokevirtual 43, 3) := by decide +kernel
theorem dX11_rock_102 : decode cX11_rock 102 = .ok (.ireturn, 1) := by decide +kernel
theorem dX11_islands_0 : decode cX11_islands 0 = .ok (.aload_n 0, 1) := by decide +kernel
theorem dX11_islands_1 : decode cX11_islands 1 = .ok (.getfield 10, 3) := by decide +kernel
theorem dX11_islands_4 : decode cX11_islands 4 = .ok (.getfield 156, 3) := by decide +kernel
theorem dX11_islands_7 : decode cX11_islands 7 = .ok (.aload_n 0, 1) := by decide +kernel
theorem dX11_islands_8 : decode cX11_islands 8 = .ok (.getfield 10, 3) := by decide +kernel
theorem dX11_islands_11 : decode cX11_islands 11 = .ok (.getfield 80, 3) := by decide +kernel
theorem dX11_islands_14 : decode cX11_islands 14 = .ok (.invokevirtual 183, 3) := by decide +kernel
theorem dX11_islands_17 : decode cX11_islands 17 = .ok (.ireturn, 1) := by decide +kernel
theorem dX11_hours_0 : decode cX11_hours 0 = .ok (.iload_n 1, 1) := by decide +kernel
theorem dX11_hours_1 : decode cX11_hours 1 = .ok (.ifCond .lt 8, 3) := by decide +kernel
theorem dX11_hours_4 : decode cX11_hours 4 = .ok (.iload_n 1, 1) := by decide +kernel
theorem dX11_hours_5 : decode cX11_hours 5 = .ok (.iconst 1, 1) := by decide +kernel
theorem dX11_hours_6 : decode cX11_hours 6 = .ok (.if_icmp .le 10, 3) := by decide +kernel
theorem dX11_hours_9 : decode cX11_hours 9 = .ok (.aload_n 0, 1) := by decide +kernel
theorem dX11_hours_10 : decode cX11_hours 10 = .ok (.bipush (-2), 2) := by decide +kernel
theorem dX11_hours_12 : decode cX11_hours 12 = .ok (.invokevirtual 43, 3) := by decide +kernel
theorem dX11_hours_15 : decode cX11_hours 15 = .ok (.ireturn, 1) := by decide +kernel
theorem dX11_hours_16 : decode cX11_hours 16 = .ok (.aload_n 0, 1) := by decide +kernel
theorem dX11_hours_17 : decode cX11_hours 17 = .ok (.getfield 10, 3) := by decide +kernel
theorem dX11_hours_20 : decode cX11_hours 20 = .ok (.getfield 156, 3) := by decide +kernel
theorem dX11_hours_23 : decode cX11_hours 23 = .ok (.invokevirtual 186, 3) := by decide +kernel
theorem dX11_hours_26 : decode cX11_hours 26 = .ok (.istore_n 2, 1) := by decide +kernel
theorem dX11_hours_27 : decode cX11_hours 27 = .ok (.iload_n 1, 1) := by decide +kernel
theorem dX11_hours_28 : decode cX11_hours 28 = .ok (.ifCond .ne 10, 3) := by decide +kernel
theorem dX11_hours_31 : decode cX11_hours 31 = .ok (.iload_n 2, 1) := by decide +kernel
theorem dX11_hours_32 : decode cX11_hours 32 = .ok (.invokestatic 189, 3) := by decide +kernel
theorem dX11_hours_35 : decode cX11_hours 35 = .ok (.goto 4, 3) := by decide +kernel
theorem dX11_hours_38 : decode cX11_hours 38 = .ok (.iload_n 2, 1) := by decide +kernel
theorem dX11_hours_39 : decode cX11_hours 39 = .ok (.ireturn, 1) := by decide +kernel
theorem dX11_boat_0 : decode cX11_boat 0 = .ok (.aload_n 0, 1) := by decide +kernel
theorem dX11_boat_1 : decode cX11_boat 1 = .ok (.getfield 25, 3) := by decide +kernel
theorem dX11_boat_4 : decode cX11_boat 4 = .ok (.aload_n 0, 1) := by decide +kernel
theorem dX11_boat_5 : decode cX11_boat 5 = .ok (.getfield 10, 3) := by decide +kernel
theorem dX11_boat_8 : decode cX11_boat 8 = .ok (.getfield 156, 3) := by decide +kernel
theorem dX11_boat_11 : decode cX11_boat 11 = .ok (.aload_n 0, 1) := by decide +kernel
theorem dX11_boat_12 : decode cX11_boat 12 = .ok (.getfield 10, 3) := by decide +kernel
theorem dX11_boat_15 : decode cX11_boat 15 = .ok (.getfield 156, 3) := by decide +kernel
theorem dX11_boat_18 : decode cX11_boat 18 = .ok (.aload_n 0, 1) := by decide +kernel
theorem dX11_boat_19 : decode cX11_boat 19 = .ok (.getfield 10, 3) := by decide +kernel
theorem dX11_boat_22 : decode cX11_boat 22 = .ok (.getfield 80, 3) := by decide +kernel
theorem dX11_boat_25 : decode cX11_boat 25 = .ok (.invokevirtual 183, 3) := by decide +kernel
theorem dX11_boat_28 : decode cX11_boat 28 = .ok (.invokevirtual 194, 3) := by decide +kernel
theorem dX11_boat_31 : decode cX11_boat 31 = .ok (.ireturn, 1) := by decide +kernel
theorem dX11_cut_0 : decode cX11_cut 0 = .ok (.aload_n 0, 1) := by decide +kernel
theorem dX11_cut_1 : decode cX11_cut 1 = .ok (.getfield 10, 3) := by decide +kernel
theorem dX11_cut_4 : decode cX11_cut 4 = .ok (.iload_n 1, 1) := by decide +kernel
theorem dX11_cut_5 : decode cX11_cut 5 = .ok (.invokevirtual 62, 3) := by decide +kernel
theorem dX11_cut_8 : decode cX11_cut 8 = .ok (.astore_n 3, 1) := by decide +kernel
theorem dX11_cut_9 : decode cX11_cut 9 = .ok (.aload_n 3, 1) := by decide +kernel
theorem dX11_cut_10 : decode cX11_cut 10 = .ok (.ifnonnull 9, 3) := by decide +kernel
theorem dX11_cut_13 : decode cX11_cut 13 = .ok (.aload_n 0, 1) := by decide +kernel
theorem dX11_cut_14 : decode cX11_cut 14 = .ok (.iconst (-1), 1) := by decide +kernel
theorem dX11_cut_15 : decode cX11_cut 15 = .ok (.invokevirtual 43, 3) := by decide +kernel
theorem dX11_cut_18 : decode cX11_cut 18 = .ok (.ireturn, 1) := by decide +kernel
theorem dX11_cut_19 : decode cX11_cut 19 = .ok (.iload_n 2, 1) := by decide +kernel
theorem dX11_cut_20 : decode cX11_cut 20 = .ok (.invokestatic 133, 3) := by decide +kernel
theorem dX11_cut_23 : decode cX11_cut 23 = .ok (.istore 4, 2) := by decide +kernel
theorem dX11_cut_25 : decode cX11_cut 25 = .ok (.iload 4, 2) := by decide +kernel
theorem dX11_cut_27 : decode cX11_cut 27 = .ok (.ifCond .eq 10, 3) := by decide +kernel
theorem dX11_cut_30 : decode cX11_cut 30 = .ok (.aload_n 0, 1) := by decide +kernel
theorem dX11_cut_31 : decode cX11_cut 31 = .ok (.iload 4, 2) := by decide +kernel
theorem dX11_cut_33 : decode cX11_cut 33 = .ok (.invokevirtual 43, 3) := by decide +kernel
theorem dX11_cut_36 : decode cX11_cut 36 = .ok (.ireturn, 1) := by decide +kernel
theorem dX11_cut_37 : decode cX11_cut 37 = .ok (.aload_n 0, 1) := by decide +kernel
theorem dX11_cut_38 : decode cX11_cut 38 = .ok (.getfield 10, 3) := by decide +kernel
theorem dX11_cut_41 : decode cX11_cut 41 = .ok (.aload_n 3, 1) := by decide +kernel
theorem dX11_cut_42 : decode cX11_cut 42 = .ok (.iload_n 2, 1) := by decide +kernel
theorem dX11_cut_43 : decode cX11_cut 43 = .ok (.invokevirtual 198, 3) := by decide +kernel
theorem dX11_cut_46 : decode cX11_cut 46 = .ok (.ireturn, 1) := by decide +kernel
theorem dX11_worstCut_0 : decode cX11_worstCut 0 = .ok (.iload_n 1, 1) := by decide +kernel
theorem dX11_worstCut_1 : decode cX11_worstCut 1 = .ok (.invokestatic 133, 3) := by decide +kernel
theorem dX11_worstCut_4 : decode cX11_worstCut 4 = .ok (.istore_n 2, 1) := by decide +kernel
theorem dX11_worstCut_5 : decode cX11_worstCut 5 = .ok (.iload_n 2, 1) := by decide +kernel
theorem dX11_worstCut_6 : decode cX11_worstCut 6 = .ok (.ifCond .eq 9, 3) := by decide +kernel
theorem dX11_worstCut_9 : decode cX11_worstCut 9 = .ok (.aload_n 0, 1) := by decide +kernel
theorem dX11_worstCut_10 : decode cX11_worstCut 10 = .ok (.iload_n 2, 1) := by decide +kernel
theorem dX11_worstCut_11 : decode cX11_worstCut 11 = .ok (.invokevirtual 43, 3) := by decide +kernel
theorem dX11_worstCut_14 : decode cX11_worstCut 14 = .ok (.ireturn, 1) := by decide +kernel
theorem dX11_worstCut_15 : decode cX11_worstCut 15 = .ok (.bipush (-9), 2) := by decide +kernel
theorem dX11_worstCut_17 : decode cX11_worstCut 17 = .ok (.istore_n 3, 1) := by decide +kernel
theorem dX11_worstCut_18 : decode cX11_worstCut 18 = .ok (.iconst 0, 1) := by decide +kernel
theorem dX11_worstCut_19 : decode cX11_worstCut 19 = .ok (.istore 4, 2) := by decide +kernel
theorem dX11_worstCut_21 : decode cX11_worstCut 21 = .ok (.iconst 0, 1) := by decide +kernel
theorem dX11_worstCut_22 : decode cX11_worstCut 22 = .ok (.istore 5, 2) := by decide +kernel
theorem dX11_worstCut_24 : decode cX11_worstCut 24 = .ok (.iload 5, 2) := by decide +kernel
theorem dX11_worstCut_26 : decode cX11_worstCut 26 = .ok (.bipush 8, 2) := by decide +kernel
theorem dX11_worstCut_28 : decode cX11_worstCut 28 = .ok (.if_icmp .ge 57, 3) := by decide +kernel
theorem dX11_worstCut_31 : decode cX11_worstCut 31 = .ok (.aload_n 0, 1) := by decide +kernel
theorem dX11_worstCut_32 : decode cX11_worstCut 32 = .ok (.getfield 10, 3) := by decide +kernel
theorem dX11_worstCut_35 : decode cX11_worstCut 35 = .ok (.iload 5, 2) := by decide +kernel
theorem dX11_worstCut_37 : decode cX11_worstCut 37 = .ok (.invokevirtual 62, 3) := by decide +kernel
theorem dX11_worstCut_40 : decode cX11_worstCut 40 = .ok (.astore 6, 2) := by decide +kernel
theorem dX11_worstCut_42 : decode cX11_worstCut 42 = .ok (.aload 6, 2) := by decide +kernel
theorem dX11_worstCut_44 : decode cX11_worstCut 44 = .ok (.ifnull 35, 3) := by decide +kernel
theorem dX11_worstCut_47 : decode cX11_worstCut 47 = .ok (.aload_n 0, 1) := by decide +kernel
theorem dX11_worstCut_48 : decode cX11_worstCut 48 = .ok (.getfield 10, 3) := by decide +kernel
theorem dX11_worstCut_51 : decode cX11_worstCut 51 = .ok (.aload 6, 2) := by decide +kernel
theorem dX11_worstCut_53 : decode cX11_worstCut 53 = .ok (.iload_n 1, 1) := by decide +kernel
theorem dX11_worstCut_54 : decode cX11_worstCut 54 = .ok (.invokevirtual 198, 3) := by decide +kernel
theorem dX11_worstCut_57 : decode cX11_worstCut 57 = .ok (.istore 7, 2) := by decide +kernel
theorem dX11_worstCut_59 : decode cX11_worstCut 59 = .ok (.iload_n 3, 1) := by decide +kernel
theorem dX11_worstCut_60 : decode cX11_worstCut 60 = .ok (.bipush (-9), 2) := by decide +kernel
theorem dX11_worstCut_62 : decode cX11_worstCut 62 = .ok (.if_icmp .eq 10, 3) := by decide +kernel
theorem dX11_worstCut_65 : decode cX11_worstCut 65 = .ok (.iload 7, 2) := by decide +kernel
theorem dX11_worstCut_67 : decode cX11_worstCut 67 = .ok (.iload 4, 2) := by decide +kernel
theorem dX11_worstCut_69 : decode cX11_worstCut 69 = .ok (.if_icmp .ge 10, 3) := by decide +kernel
theorem dX11_worstCut_72 : decode cX11_worstCut 72 = .ok (.iload 5, 2) := by decide +kernel
theorem dX11_worstCut_74 : decode cX11_worstCut 74 = .ok (.istore_n 3, 1) := by decide +kernel
theorem dX11_worstCut_75 : decode cX11_worstCut 75 = .ok (.iload 7, 2) := by decide +kernel
theorem dX11_worstCut_77 : decode cX11_worstCut 77 = .ok (.istore 4, 2) := by decide +kernel
theorem dX11_worstCut_79 : decode cX11_worstCut 79 = .ok (.iinc 5 1, 3) := by decide +kernel
theorem dX11_worstCut_82 : decode cX11_worstCut 82 = .ok (.goto (-58), 3) := by decide +kernel
theorem dX11_worstCut_85 : decode cX11_worstCut 85 = .ok (.iload_n 3, 1) := by decide +kernel
theorem dX11_worstCut_86 : decode cX11_worstCut 86 = .ok (.ireturn, 1) := by decide +kernel
theorem dX11_copy_0 : decode cX11_copy 0 = .ok (.iload_n 1, 1) := by decide +kernel
theorem dX11_copy_1 : decode cX11_copy 1 = .ok (.iconst 1, 1) := by decide +kernel
theorem dX11_copy_2 : decode cX11_copy 2 = .ok (.if_icmp .lt 8, 3) := by decide +kernel
theorem dX11_copy_5 : decode cX11_copy 5 = .ok (.iload_n 2, 1) := by decide +kernel
theorem dX11_copy_6 : decode cX11_copy 6 = .ok (.iconst 1, 1) := by decide +kernel
theorem dX11_copy_7 : decode cX11_copy 7 = .ok (.if_icmp .ge 10, 3) := by decide +kernel
theorem dX11_copy_10 : decode cX11_copy 10 = .ok (.aload_n 0, 1) := by decide +kernel
theorem dX11_copy_11 : decode cX11_copy 11 = .ok (.bipush (-4), 2) := by decide +kernel
theorem dX11_copy_13 : decode cX11_copy 13 = .ok (.invokevirtual 43, 3) := by decide +kernel
theorem dX11_copy_16 : decode cX11_copy 16 = .ok (.ireturn, 1) := by decide +kernel
theorem dX11_copy_17 : decode cX11_copy 17 = .ok (.iload_n 1, 1) := by decide +kernel
theorem dX11_copy_18 : decode cX11_copy 18 = .ok (.bipush 9, 2) := by decide +kernel
theorem dX11_copy_20 : decode cX11_copy 20 = .ok (.if_icmp .gt 9, 3) := by decide +kernel
theorem dX11_copy_23 : decode cX11_copy 23 = .ok (.iload_n 2, 1) := by decide +kernel
theorem dX11_copy_24 : decode cX11_copy 24 = .ok (.bipush 9, 2) := by decide +kernel
theorem dX11_copy_26 : decode cX11_copy 26 = .ok (.if_icmp .le 10, 3) := by decide +kernel
theorem dX11_copy_29 : decode cX11_copy 29 = .ok (.aload_n 0, 1) := by decide +kernel
theorem dX11_copy_30 : decode cX11_copy 30 = .ok (.bipush (-6), 2) := by decide +kernel
theorem dX11_copy_32 : decode cX11_copy 32 = .ok (.invokevirtual 43, 3) := by decide +kernel
theorem dX11_copy_35 : decode cX11_copy 35 = .ok (.ireturn, 1) := by decide +kernel
theorem dX11_copy_36 : decode cX11_copy 36 = .ok (.aload_n 0, 1) := by decide +kernel
theorem dX11_copy_37 : decode cX11_copy 37 = .ok (.getfield 10, 3) := by decide +kernel
theorem dX11_copy_40 : decode cX11_copy 40 = .ok (.aload_n 0, 1) := by decide +kernel
theorem dX11_copy_41 : decode cX11_copy 41 = .ok (.getfield 10, 3) := by decide +kernel
theorem dX11_copy_44 : decode cX11_copy 44 = .ok (.invokevirtual 99, 3) := by decide +kernel
theorem dX11_copy_47 : decode cX11_copy 47 = .ok (.iload_n 1, 1) := by decide +kernel
theorem dX11_copy_48 : decode cX11_copy 48 = .ok (.invokestatic 202, 3) := by decide +kernel
theorem dX11_copy_51 : decode cX11_copy 51 = .ok (.iload_n 2, 1) := by decide +kernel
theorem dX11_copy_52 : decode cX11_copy 52 = .ok (.iconst 0, 1) := by decide +kernel
theorem dX11_copy_53 : decode cX11_copy 53 = .ok (.invokevirtual 136, 3) := by decide +kernel
theorem dX11_copy_56 : decode cX11_copy 56 = .ok (.ireturn, 1) := by decide +kernel
theorem dX11_sure_0 : decode cX11_sure 0 = .ok (.iload_n 1, 1) := by decide +kernel
theorem dX11_sure_1 : decode cX11_sure 1 = .ok (.invokestatic 133, 3) := by decide +kernel
theorem dX11_sure_4 : decode cX11_sure 4 = .ok (.istore_n 2, 1) := by decide +kernel
theorem dX11_sure_5 : decode cX11_sure 5 = .ok (.iload_n 2, 1) := by decide +kernel
theorem dX11_sure_6 : decode cX11_sure 6 = .ok (.ifCond .eq 9, 3) := by decide +kernel
theorem dX11_sure_9 : decode cX11_sure 9 = .ok (.aload_n 0, 1) := by decide +kernel
theorem dX11_sure_10 : decode cX11_sure 10 = .ok (.iload_n 2, 1) := by decide +kernel
theorem dX11_sure_11 : decode cX11_sure 11 = .ok (.invokevirtual 43, 3) := by decide +kernel
theorem dX11_sure_14 : decode cX11_sure 14 = .ok (.ireturn, 1) := by decide +kernel
theorem dX11_sure_15 : decode cX11_sure 15 = .ok (.aload_n 0, 1) := by decide +kernel
theorem dX11_sure_16 : decode cX11_sure 16 = .ok (.getfield 10, 3) := by decide +kernel
theorem dX11_sure_19 : decode cX11_sure 19 = .ok (.invokevirtual 99, 3) := by decide +kernel
theorem dX11_sure_22 : decode cX11_sure 22 = .ok (.lstore_n 3, 1) := by decide +kernel
theorem dX11_sure_23 : decode cX11_sure 23 = .ok (.lload_n 3, 1) := by decide +kernel
theorem dX11_sure_24 : decode cX11_sure 24 = .ok (.lstore 5, 2) := by decide +kernel
theorem dX11_sure_26 : decode cX11_sure 26 = .ok (.iconst 1, 1) := by decide +kernel
theorem dX11_sure_27 : decode cX11_sure 27 = .ok (.istore 7, 2) := by decide +kernel
theorem dX11_sure_29 : decode cX11_sure 29 = .ok (.iload 7, 2) := by decide +kernel
theorem dX11_sure_31 : decode cX11_sure 31 = .ok (.iload_n 1, 1) := by decide +kernel
theorem dX11_sure_32 : decode cX11_sure 32 = .ok (.if_icmp .gt 25, 3) := by decide +kernel
theorem dX11_sure_35 : decode cX11_sure 35 = .ok (.lload 5, 2) := by decide +kernel
theorem dX11_sure_37 : decode cX11_sure 37 = .ok (.aload_n 0, 1) := by decide +kernel
theorem dX11_sure_38 : decode cX11_sure 38 = .ok (.getfield 10, 3) := by decide +kernel
theorem dX11_sure_41 : decode cX11_sure 41 = .ok (.lload_n 3, 1) := by decide +kernel
theorem dX11_sure_42 : decode cX11_sure 42 = .ok (.iload 7, 2) := by decide +kernel
theorem dX11_sure_44 : decode cX11_sure 44 = .ok (.iconst 0, 1) := by decide +kernel
theorem dX11_sure_45 : decode cX11_sure 45 = .ok (.invokevirtual 111, 3) := by decide +kernel
theorem dX11_sure_48 : decode cX11_sure 48 = .ok (.land, 1) := by decide +kernel
theorem dX11_sure_49 : decode cX11_sure 49 = .ok (.lstore 5, 2) := by decide +kernel
theorem dX11_sure_51 : decode cX11_sure 51 = .ok (.iinc 7 1, 3) := by decide +kernel
theorem dX11_sure_54 : decode cX11_sure 54 = .ok (.goto (-25), 3) := by decide +kernel
theorem dX11_sure_57 : decode cX11_sure 57 = .ok (.lload 5, 2) := by decide +kernel
theorem dX11_sure_59 : decode cX11_sure 59 = .ok (.invokestatic 206, 3) := by decide +kernel
theorem dX11_sure_62 : decode cX11_sure 62 = .ok (.ireturn, 1) := by decide +kernel
theorem dX11_row_0 : decode cX11_row 0 = .ok (.iload_n 1, 1) := by decide +kernel
theorem dX11_row_1 : decode cX11_row 1 = .ok (.ifCond .ge 10, 3) := by decide +kernel
theorem dX11_row_4 : decode cX11_row 4 = .ok (.aload_n 0, 1) := by decide +kernel
theorem dX11_row_5 : decode cX11_row 5 = .ok (.bipush (-4), 2) := by decide +kernel
theorem dX11_row_7 : decode cX11_row 7 = .ok (.invokevirtual 43, 3) := by decide +kernel
theorem dX11_row_10 : decode cX11_row 10 = .ok (.ireturn, 1) := by decide +kernel
theorem dX11_row_11 : decode cX11_row 11 = .ok (.iload_n 1, 1) := by decide +kernel
theorem dX11_row_12 : decode cX11_row 12 = .ok (.bipush 48, 2) := by decide +kernel
theorem dX11_row_14 : decode cX11_row 14 = .ok (.if_icmp .gt 22, 3) := by decide +kernel
theorem dX11_row_17 : decode cX11_row 17 = .ok (.aload_n 0, 1) := by decide +kernel
theorem dX11_row_18 : decode cX11_row 18 = .ok (.getfield 210, 3) := by decide +kernel
theorem dX11_row_21 : decode cX11_row 21 = .ok (.ifCond .lt 15, 3) := by decide +kernel
theorem dX11_row_24 : decode cX11_row 24 = .ok (.aload_n 0, 1) := by decide +kernel
theorem dX11_row_25 : decode cX11_row 25 = .ok (.getfield 210, 3) := by decide +kernel
theorem dX11_row_28 : decode cX11_row 28 = .ok (.aload_n 0, 1) := by decide +kernel
theorem dX11_row_29 : decode cX11_row 29 = .ok (.getfield 36, 3) := by decide +kernel
theorem dX11_row_32 : decode cX11_row 32 = .ok (.arraylength, 1) := by decide +kernel
theorem dX11_row_33 : decode cX11_row 33 = .ok (.if_icmp .lt 10, 3) := by decide +kernel
theorem dX11_row_36 : decode cX11_row 36 = .ok (.aload_n 0, 1) := by decide +kernel
theorem dX11_row_37 : decode cX11_row 37 = .ok (.bipush (-6), 2) := by decide +kernel
theorem dX11_row_39 : decode cX11_row 39 = .ok (.invokevirtual 43, 3) := by decide +kernel
theorem dX11_row_42 : decode cX11_row 42 = .ok (.ireturn, 1) := by decide +kernel
theorem dX11_row_43 : decode cX11_row 43 = .ok (.aload_n 0, 1) := by decide +kernel
theorem dX11_row_44 : decode cX11_row 44 = .ok (.getfield 36, 3) := by decide +kernel
theorem dX11_row_47 : decode cX11_row 47 = .ok (.aload_n 0, 1) := by decide +kernel
theorem dX11_row_48 : decode cX11_row 48 = .ok (.getfield 210, 3) := by decide +kernel
theorem dX11_row_51 : decode cX11_row 51 = .ok (.iload_n 1, 1) := by decide +kernel
theorem dX11_row_52 : decode cX11_row 52 = .ok (.iastore, 1) := by decide +kernel
theorem dX11_row_53 : decode cX11_row 53 = .ok (.aload_n 0, 1) := by decide +kernel
theorem dX11_row_54 : decode cX11_row 54 = .ok (.dup, 1) := by decide +kernel
theorem dX11_row_55 : decode cX11_row 55 = .ok (.getfield 210, 3) := by decide +kernel
theorem dX11_row_58 : decode cX11_row 58 = .ok (.iconst 1, 1) := by decide +kernel
theorem dX11_row_59 : decode cX11_row 59 = .ok (.iadd, 1) := by decide +kernel
theorem dX11_row_60 : decode cX11_row 60 = .ok (.putfield 210, 3) := by decide +kernel
theorem dX11_row_63 : decode cX11_row 63 = .ok (.aload_n 0, 1) := by decide +kernel
theorem dX11_row_64 : decode cX11_row 64 = .ok (.getfield 210, 3) := by decide +kernel
theorem dX11_row_67 : decode cX11_row 67 = .ok (.ireturn, 1) := by decide +kernel
theorem dX11_judge_0 : decode cX11_judge 0 = .ok (.iload_n 1, 1) := by decide +kernel
theorem dX11_judge_1 : decode cX11_judge 1 = .ok (.iload_n 2, 1) := by decide +kernel
theorem dX11_judge_2 : decode cX11_judge 2 = .ok (.invokestatic 107, 3) := by decide +kernel
theorem dX11_judge_5 : decode cX11_judge 5 = .ok (.istore_n 3, 1) := by decide +kernel
theorem dX11_judge_6 : decode cX11_judge 6 = .ok (.iload_n 3, 1) := by decide +kernel
theorem dX11_judge_7 : decode cX11_judge 7 = .ok (.ifCond .eq 9, 3) := by decide +kernel
theorem dX11_judge_10 : decode cX11_judge 10 = .ok (.aload_n 0, 1) := by decide +kernel
theorem dX11_judge_11 : decode cX11_judge 11 = .ok (.iload_n 3, 1) := by decide +kernel
theorem dX11_judge_12 : decode cX11_judge 12 = .ok (.invokevirtual 43, 3) := by decide +kernel
theorem dX11_judge_15 : decode cX11_judge 15 = .ok (.ireturn, 1) := by decide +kernel
theorem dX11_judge_16 : decode cX11_judge 16 = .ok (.aload_n 0, 1) := by decide +kernel
theorem dX11_judge_17 : decode cX11_judge 17 = .ok (.getfield 10, 3) := by decide +kernel
theorem dX11_judge_20 : decode cX11_judge 20 = .ok (.aload_n 0, 1) := by decide +kernel
theorem dX11_judge_21 : decode cX11_judge 21 = .ok (.getfield 10, 3) := by decide +kernel
theorem dX11_judge_24 : decode cX11_judge 24 = .ok (.invokevirtual 99, 3) := by decide +kernel
theorem dX11_judge_27 : decode cX11_judge 27 = .ok (.iload_n 1, 1) := by decide +kernel
theorem dX11_judge_28 : decode cX11_judge 28 = .ok (.iload_n 2, 1) := by decide +kernel
theorem dX11_judge_29 : decode cX11_judge 29 = .ok (.invokevirtual 111, 3) := by decide +kernel
theorem dX11_judge_32 : decode cX11_judge 32 = .ok (.lstore 4, 2) := by decide +kernel
theorem dX11_judge_34 : decode cX11_judge 34 = .ok (.bipush (-9), 2) := by decide +kernel
theorem dX11_judge_36 : decode cX11_judge 36 = .ok (.istore 6, 2) := by decide +kernel
theorem dX11_judge_38 : decode cX11_judge 38 = .ok (.iconst 0, 1) := by decide +kernel
theorem dX11_judge_39 : decode cX11_judge 39 = .ok (.istore 7, 2) := by decide +kernel
theorem dX11_judge_41 : decode cX11_judge 41 = .ok (.iload 7, 2) := by decide +kernel
theorem dX11_judge_43 : decode cX11_judge 43 = .ok (.aload_n 0, 1) := by decide +kernel
theorem dX11_judge_44 : decode cX11_judge 44 = .ok (.getfield 210, 3) := by decide +kernel
theorem dX11_judge_47 : decode cX11_judge 47 = .ok (.if_icmp .ge 47, 3) := by decide +kernel
theorem dX11_judge_50 : decode cX11_judge 50 = .ok (.iload 7, 2) := by decide +kernel
theorem dX11_judge_52 : decode cX11_judge 52 = .ok (.aload_n 0, 1) := by decide +kernel
theorem dX11_judge_53 : decode cX11_judge 53 = .ok (.getfield 36, 3) := by decide +kernel
theorem dX11_judge_56 : decode cX11_judge 56 = .ok (.arraylength, 1) := by decide +kernel
theorem dX11_judge_57 : decode cX11_judge 57 = .ok (.if_icmp .ge 37, 3) := by decide +kernel
theorem dX11_judge_60 : decode cX11_judge 60 = .ok (.iload 6, 2) := by decide +kernel
theorem dX11_judge_62 : decode cX11_judge 62 = .ok (.bipush (-9), 2) := by decide +kernel
theorem dX11_judge_64 : decode cX11_judge 64 = .ok (.if_icmp .ne 30, 3) := by decide +kernel
theorem dX11_judge_67 : decode cX11_judge 67 = .ok (.aload_n 0, 1) := by decide +kernel
theorem dX11_judge_68 : decode cX11_judge 68 = .ok (.getfield 36, 3) := by decide +kernel
theorem dX11_judge_71 : decode cX11_judge 71 = .ok (.iload 7, 2) := by decide +kernel
theorem dX11_judge_73 : decode cX11_judge 73 = .ok (.iaload, 1) := by decide +kernel
theorem dX11_judge_74 : decode cX11_judge 74 = .ok (.lload 4, 2) := by decide +kernel
theorem dX11_judge_76 : decode cX11_judge 76 = .ok (.iload 7, 2) := by decide +kernel
theorem dX11_judge_78 : decode cX11_judge 78 = .ok (.invokestatic 130, 3) := by decide +kernel
theorem dX11_judge_81 : decode cX11_judge 81 = .ok (.if_icmp .eq 7, 3) := by decide +kernel
theorem dX11_judge_84 : decode cX11_judge 84 = .ok (.iload 7, 2) := by decide +kernel
theorem dX11_judge_86 : decode cX11_judge 86 = .ok (.istore 6, 2) := by decide +kernel
theorem dX11_judge_88 : decode cX11_judge 88 = .ok (.iinc 7 1, 3) := by decide +kernel
theorem dX11_judge_91 : decode cX11_judge 91 = .ok (.goto (-50), 3) := by decide +kernel
theorem dX11_judge_94 : decode cX11_judge 94 = .ok (.aload_n 0, 1) := by decide +kernel
theorem dX11_judge_95 : decode cX11_judge 95 = .ok (.iconst 0, 1) := by decide +kernel
theorem dX11_judge_96 : decode cX11_judge 96 = .ok (.putfield 210, 3) := by decide +kernel
theorem dX11_judge_99 : decode cX11_judge 99 = .ok (.iload 6, 2) := by decide +kernel
theorem dX11_judge_101 : decode cX11_judge 101 = .ok (.ireturn, 1) := by decide +kernel
theorem dX11_seeds_0 : decode cX11_seeds 0 = .ok (.iload_n 1, 1) := by decide +kernel
theorem dX11_seeds_1 : decode cX11_seeds 1 = .ok (.iconst 1, 1) := by decide +kernel
theorem dX11_seeds_2 : decode cX11_seeds 2 = .ok (.if_icmp .ge 10, 3) := by decide +kernel
theorem dX11_seeds_5 : decode cX11_seeds 5 = .ok (.aload_n 0, 1) := by decide +kernel
theorem dX11_seeds_6 : decode cX11_seeds 6 = .ok (.bipush (-4), 2) := by decide +kernel
theorem dX11_seeds_8 : decode cX11_seeds 8 = .ok (.invokevirtual 43, 3) := by decide +kernel
theorem dX11_seeds_11 : decode cX11_seeds 11 = .ok (.ireturn, 1) := by decide +kernel
theorem dX11_seeds_12 : decode cX11_seeds 12 = .ok (.iload_n 1, 1) := by decide +kernel
theorem dX11_seeds_13 : decode cX11_seeds 13 = .ok (.bipush 60, 2) := by decide +kernel
theorem dX11_seeds_15 : decode cX11_seeds 15 = .ok (.if_icmp .le 10, 3) := by decide +kernel
theorem dX11_seeds_18 : decode cX11_seeds 18 = .ok (.aload_n 0, 1) := by decide +kernel
theorem dX11_seeds_19 : decode cX11_seeds 19 = .ok (.bipush (-6), 2) := by decide +kernel
theorem dX11_seeds_21 : decode cX11_seeds 21 = .ok (.invokevirtual 43, 3) := by decide +kernel
theorem dX11_seeds_24 : decode cX11_seeds 24 = .ok (.ireturn, 1) := by decide +kernel
theorem dX11_seeds_25 : decode cX11_seeds 25 = .ok (.iconst 0, 1) := by decide +kernel
theorem dX11_seeds_26 : decode cX11_seeds 26 = .ok (.istore_n 3, 1) := by decide +kernel
theorem dX11_seeds_27 : decode cX11_seeds 27 = .ok (.iload_n 2, 1) := by decide +kernel
theorem dX11_seeds_28 : decode cX11_seeds 28 = .ok (.istore 4, 2) := by decide +kernel
theorem dX11_seeds_30 : decode cX11_seeds 30 = .ok (.iconst 0, 1) := by decide +kernel
theorem dX11_seeds_31 : decode cX11_seeds 31 = .ok (.istore 5, 2) := by decide +kernel
theorem dX11_seeds_33 : decode cX11_seeds 33 = .ok (.iload 5, 2) := by decide +kernel
theorem dX11_seeds_35 : decode cX11_seeds 35 = .ok (.iload_n 1, 1) := by decide +kernel
theorem dX11_seeds_36 : decode cX11_seeds 36 = .ok (.if_icmp .ge 82, 3) := by decide +kernel
theorem dX11_seeds_39 : decode cX11_seeds 39 = .ok (.iload 4, 2) := by decide +kernel
theorem dX11_seeds_41 : decode cX11_seeds 41 = .ok (.invokestatic 213, 3) := by decide +kernel
theorem dX11_seeds_44 : decode cX11_seeds 44 = .ok (.istore 4, 2) := by decide +kernel
theorem dX11_seeds_46 : decode cX11_seeds 46 = .ok (.iconst 1, 1) := by decide +kernel
theorem dX11_seeds_47 : decode cX11_seeds 47 = .ok (.bipush 9, 2) := by decide +kernel
theorem dX11_seeds_49 : decode cX11_seeds 49 = .ok (.iload 4, 2) := by decide +kernel
theorem dX11_seeds_51 : decode cX11_seeds 51 = .ok (.invokestatic 216, 3) := by decide +kernel
theorem dX11_seeds_54 : decode cX11_seeds 54 = .ok (.iadd, 1) := by decide +kernel
theorem dX11_seeds_55 : decode cX11_seeds 55 = .ok (.istore 6, 2) := by decide +kernel
theorem dX11_seeds_57 : decode cX11_seeds 57 = .ok (.iload 4, 2) := by decide +kernel
theorem dX11_seeds_59 : decode cX11_seeds 59 = .ok (.invokestatic 213, 3) := by decide +kernel
theorem dX11_seeds_62 : decode cX11_seeds 62 = .ok (.istore 4, 2) := by decide +kernel
theorem dX11_seeds_64 : decode cX11_seeds 64 = .ok (.bipush 10, 2) := by decide +kernel
theorem dX11_seeds_66 : decode cX11_seeds 66 = .ok (.iload 4, 2) := by decide +kernel
theorem dX11_seeds_68 : decode cX11_seeds 68 = .ok (.invokestatic 216, 3) := by decide +kernel
theorem dX11_seeds_71 : decode cX11_seeds 71 = .ok (.istore 7, 2) := by decide +kernel
theorem dX11_seeds_73 : decode cX11_seeds 73 = .ok (.iload 4, 2) := by decide +kernel
theorem dX11_seeds_75 : decode cX11_seeds 75 = .ok (.invokestatic 213, 3) := by decide +kernel
theorem dX11_seeds_78 : decode cX11_seeds 78 = .ok (.istore 4, 2) := by decide +kernel
theorem dX11_seeds_80 : decode cX11_seeds 80 = .ok (.bipush 10, 2) := by decide +kernel
theorem dX11_seeds_82 : decode cX11_seeds 82 = .ok (.iload 4, 2) := by decide +kernel
theorem dX11_seeds_84 : decode cX11_seeds 84 = .ok (.invokestatic 216, 3) := by decide +kernel
theorem dX11_seeds_87 : decode cX11_seeds 87 = .ok (.istore 8, 2) := by decide +kernel
theorem dX11_seeds_89 : decode cX11_seeds 89 = .ok (.iload_n 3, 1) := by decide +kernel
theorem dX11_seeds_90 : decode cX11_seeds 90 = .ok (.aload_n 0, 1) := by decide +kernel
theorem dX11_seeds_91 : decode cX11_seeds 91 = .ok (.getfield 10, 3) := by decide +kernel
theorem dX11_seeds_94 : decode cX11_seeds 94 = .ok (.aload_n 0, 1) := by decide +kernel
theorem dX11_seeds_95 : decode cX11_seeds 95 = .ok (.getfield 10, 3) := by decide +kernel
theorem dX11_seeds_98 : decode cX11_seeds 98 = .ok (.iload 8, 2) := by decide +kernel
theorem dX11_seeds_100 : decode cX11_seeds 100 = .ok (.invokevirtual 152, 3) := by decide +kernel
theorem dX11_seeds_103 : decode cX11_seeds 103 = .ok (.iload 6, 2) := by decide +kernel
theorem dX11_seeds_105 : decode cX11_seeds 105 = .ok (.iload 7, 2) := by decide +kernel
theorem dX11_seeds_107 : decode cX11_seeds 107 = .ok (.invokevirtual 136, 3) := by decide +kernel
theorem dX11_seeds_110 : decode cX11_seeds 110 = .ok (.iadd, 1) := by decide +kernel
theorem dX11_seeds_111 : decode cX11_seeds 111 = .ok (.istore_n 3, 1) := by decide +kernel
theorem dX11_seeds_112 : decode cX11_seeds 112 = .ok (.iinc 5 1, 3) := by decide +kernel
theorem dX11_seeds_115 : decode cX11_seeds 115 = .ok (.goto (-82), 3) := by decide +kernel
theorem dX11_seeds_118 : decode cX11_seeds 118 = .ok (.iload_n 3, 1) := by decide +kernel
theorem dX11_seeds_119 : decode cX11_seeds 119 = .ok (.ireturn, 1) := by decide +kernel
theorem dX11_image_0 : decode cX11_image 0 = .ok (.aload_n 0, 1) := by decide +kernel
theorem dX11_image_1 : decode cX11_image 1 = .ok (.getfield 19, 3) := by decide +kernel
theorem dX11_image_4 : decode cX11_image 4 = .ok (.aload_n 0, 1) := by decide +kernel
theorem dX11_image_5 : decode cX11_image 5 = .ok (.getfield 10, 3) := by decide +kernel
theorem dX11_image_8 : decode cX11_image 8 = .ok (.invokevirtual 219, 3) := by decide +kernel
theorem dX11_image_11 : decode cX11_image 11 = .ok (.aload_n 0, 1) := by decide +kernel
theorem dX11_image_12 : decode cX11_image 12 = .ok (.iconst 1, 1) := by decide +kernel
theorem dX11_image_13 : decode cX11_image 13 = .ok (.putfield 223, 3) := by decide +kernel
theorem dX11_image_16 : decode cX11_image 16 = .ok (.aload_n 0, 1) := by decide +kernel
theorem dX11_image_17 : decode cX11_image 17 = .ok (.getfield 10, 3) := by decide +kernel
theorem dX11_image_20 : decode cX11_image 20 = .ok (.getfield 227, 3) := by decide +kernel
theorem dX11_image_23 : decode cX11_image 23 = .ok (.ireturn, 1) := by decide +kernel
theorem dX11_restore_0 : decode cX11_restore 0 = .ok (.aload_n 0, 1) := by decide +kernel
theorem dX11_restore_1 : decode cX11_restore 1 = .ok (.getfield 223, 3) := by decide +kernel
theorem dX11_restore_4 : decode cX11_restore 4 = .ok (.ifCond .ne 10, 3) := by decide +kernel
theorem dX11_restore_7 : decode cX11_restore 7 = .ok (.aload_n 0, 1) := by decide +kernel
theorem dX11_restore_8 : decode cX11_restore 8 = .ok (.bipush (-3), 2) := by decide +kernel
theorem dX11_restore_10 : decode cX11_restore 10 = .ok (.invokevirtual 43, 3) := by decide +kernel
theorem dX11_restore_13 : decode cX11_restore 13 = .ok (.ireturn, 1) := by decide +kernel
theorem dX11_restore_14 : decode cX11_restore 14 = .ok (.aload_n 0, 1) := by decide +kernel
theorem dX11_restore_15 : decode cX11_restore 15 = .ok (.getfield 10, 3) := by decide +kernel
theorem dX11_restore_18 : decode cX11_restore 18 = .ok (.aload_n 0, 1) := by decide +kernel
theorem dX11_restore_19 : decode cX11_restore 19 = .ok (.getfield 19, 3) := by decide +kernel
theorem dX11_restore_22 : decode cX11_restore 22 = .ok (.invokevirtual 219, 3) := by decide +kernel
theorem dX11_restore_25 : decode cX11_restore 25 = .ok (.aload_n 0, 1) := by decide +kernel
theorem dX11_restore_26 : decode cX11_restore 26 = .ok (.getfield 10, 3) := by decide +kernel
theorem dX11_restore_29 : decode cX11_restore 29 = .ok (.getfield 227, 3) := by decide +kernel
theorem dX11_restore_32 : decode cX11_restore 32 = .ok (.ireturn, 1) := by decide +kernel
theorem dX11_count_0 : decode cX11_count 0 = .ok (.iload_n 1, 1) := by decide +kernel
theorem dX11_count_1 : decode cX11_count 1 = .ok (.tableswitch 114 0 7 #[47, 55, 63, 71, 82, 93, 101, 106], 47) := by decide +kernel
theorem dX11_count_48 : decode cX11_count 48 = .ok (.aload_n 0, 1) := by decide +kernel
theorem dX11_count_49 : decode cX11_count 49 = .ok (.getfield 10, 3) := by decide +kernel
theorem dX11_count_52 : decode cX11_count 52 = .ok (.getfield 230, 3) := by decide +kernel
theorem dX11_count_55 : decode cX11_count 55 = .ok (.ireturn, 1) := by decide +kernel
theorem dX11_count_56 : decode cX11_count 56 = .ok (.aload_n 0, 1) := by decide +kernel
theorem dX11_count_57 : decode cX11_count 57 = .ok (.getfield 10, 3) := by decide +kernel
theorem dX11_count_60 : decode cX11_count 60 = .ok (.getfield 227, 3) := by decide +kernel
theorem dX11_count_63 : decode cX11_count 63 = .ok (.ireturn, 1) := by decide +kernel
theorem dX11_count_64 : decode cX11_count 64 = .ok (.aload_n 0, 1) := by decide +kernel
theorem dX11_count_65 : decode cX11_count 65 = .ok (.getfield 10, 3) := by decide +kernel
theorem dX11_count_68 : decode cX11_count 68 = .ok (.getfield 80, 3) := by decide +kernel
theorem dX11_count_71 : decode cX11_count 71 = .ok (.ireturn, 1) := by decide +kernel
theorem dX11_count_72 : decode cX11_count 72 = .ok (.aload_n 0, 1) := by decide +kernel
theorem dX11_count_73 : decode cX11_count 73 = .ok (.getfield 10, 3) := by decide +kernel
theorem dX11_count_76 : decode cX11_count 76 = .ok (.invokevirtual 99, 3) := by decide +kernel
theorem dX11_count_79 : decode cX11_count 79 = .ok (.invokestatic 206, 3) := by decide +kernel
theorem dX11_count_82 : decode cX11_count 82 = .ok (.ireturn, 1) := by decide +kernel
theorem dX11_count_83 : decode cX11_count 83 = .ok (.aload_n 0, 1) := by decide +kernel
theorem dX11_count_84 : decode cX11_count 84 = .ok (.getfield 10, 3) := by decide +kernel
theorem dX11_count_87 : decode cX11_count 87 = .ok (.getfield 156, 3) := by decide +kernel
theorem dX11_count_90 : decode cX11_count 90 = .ok (.getfield 233, 3) := by decide +kernel
theorem dX11_count_93 : decode cX11_count 93 = .ok (.ireturn, 1) := by decide +kernel
theorem dX11_count_94 : decode cX11_count 94 = .ok (.aload_n 0, 1) := by decide +kernel
theorem dX11_count_95 : decode cX11_count 95 = .ok (.getfield 32, 3) := by decide +kernel
theorem dX11_count_98 : decode cX11_count 98 = .ok (.getfield 51, 3) := by decide +kernel
theorem dX11_count_101 : decode cX11_count 101 = .ok (.ireturn, 1) := by decide +kernel
theorem dX11_count_102 : decode cX11_count 102 = .ok (.aload_n 0, 1) := by decide +kernel
theorem dX11_count_103 : decode cX11_count 103 = .ok (.getfield 210, 3) := by decide +kernel
theorem dX11_count_106 : decode cX11_count 106 = .ok (.ireturn, 1) := by decide +kernel
theorem dX11_count_107 : decode cX11_count 107 = .ok (.aload_n 0, 1) := by decide +kernel
theorem dX11_count_108 : decode cX11_count 108 = .ok (.getfield 10, 3) := by decide +kernel
theorem dX11_count_111 : decode cX11_count 111 = .ok (.invokevirtual 234, 3) := by decide +kernel
theorem dX11_count_114 : decode cX11_count 114 = .ok (.ireturn, 1) := by decide +kernel
theorem dX11_count_115 : decode cX11_count 115 = .ok (.aload_n 0, 1) := by decide +kernel
theorem dX11_count_116 : decode cX11_count 116 = .ok (.iload_n 1, 1) := by decide +kernel
theorem dX11_count_117 : decode cX11_count 117 = .ok (.bipush 10, 2) := by decide +kernel
theorem dX11_count_119 : decode cX11_count 119 = .ok (.isub, 1) := by decide +kernel
theorem dX11_count_120 : decode cX11_count 120 = .ok (.invokevirtual 237, 3) := by decide +kernel
theorem dX11_count_123 : decode cX11_count 123 = .ok (.ireturn, 1) := by decide +kernel
theorem dX11_refuse_0 : decode cX11_refuse 0 = .ok (.iload_n 1, 1) := by decide +kernel
theorem dX11_refuse_1 : decode cX11_refuse 1 = .ok (.ineg, 1) := by decide +kernel
theorem dX11_refuse_2 : decode cX11_refuse 2 = .ok (.istore_n 2, 1) := by decide +kernel
theorem dX11_refuse_3 : decode cX11_refuse 3 = .ok (.iload_n 2, 1) := by decide +kernel
theorem dX11_refuse_4 : decode cX11_refuse 4 = .ok (.ifCond .lt 22, 3) := by decide +kernel
theorem dX11_refuse_7 : decode cX11_refuse 7 = .ok (.iload_n 2, 1) := by decide +kernel
theorem dX11_refuse_8 : decode cX11_refuse 8 = .ok (.aload_n 0, 1) := by decide +kernel
theorem dX11_refuse_9 : decode cX11_refuse 9 = .ok (.getfield 40, 3) := by decide +kernel
theorem dX11_refuse_12 : decode cX11_refuse 12 = .ok (.arraylength, 1) := by decide +kernel
theorem dX11_refuse_13 : decode cX11_refuse 13 = .ok (.if_icmp .ge 13, 3) := by decide +kernel
theorem dX11_refuse_16 : decode cX11_refuse 16 = .ok (.aload_n 0, 1) := by decide +kernel
theorem dX11_refuse_17 : decode cX11_refuse 17 = .ok (.getfield 40, 3) := by decide +kernel
theorem dX11_refuse_20 : decode cX11_refuse 20 = .ok (.iload_n 2, 1) := by decide +kernel
theorem dX11_refuse_21 : decode cX11_refuse 21 = .ok (.dup2, 1) := by decide +kernel
theorem dX11_refuse_22 : decode cX11_refuse 22 = .ok (.iaload, 1) := by decide +kernel
theorem dX11_refuse_23 : decode cX11_refuse 23 = .ok (.iconst 1, 1) := by decide +kernel
theorem dX11_refuse_24 : decode cX11_refuse 24 = .ok (.iadd, 1) := by decide +kernel
theorem dX11_refuse_25 : decode cX11_refuse 25 = .ok (.iastore, 1) := by decide +kernel
theorem dX11_refuse_26 : decode cX11_refuse 26 = .ok (.iload_n 1, 1) := by decide +kernel
theorem dX11_refuse_27 : decode cX11_refuse 27 = .ok (.ireturn, 1) := by decide +kernel
theorem dX11_refusalsOf_0 : decode cX11_refusalsOf 0 = .ok (.iload_n 1, 1) := by decide +kernel
theorem dX11_refusalsOf_1 : decode cX11_refusalsOf 1 = .ok (.iconst 1, 1) := by decide +kernel
theorem dX11_refusalsOf_2 : decode cX11_refusalsOf 2 = .ok (.if_icmp .lt 12, 3) := by decide +kernel
theorem dX11_refusalsOf_5 : decode cX11_refusalsOf 5 = .ok (.iload_n 1, 1) := by decide +kernel
theorem dX11_refusalsOf_6 : decode cX11_refusalsOf 6 = .ok (.aload_n 0, 1) := by decide +kernel
theorem dX11_refusalsOf_7 : decode cX11_refusalsOf 7 = .ok (.getfield 40, 3) := by decide +kernel
theorem dX11_refusalsOf_10 : decode cX11_refusalsOf 10 = .ok (.arraylength, 1) := by decide +kernel
theorem dX11_refusalsOf_11 : decode cX11_refusalsOf 11 = .ok (.if_icmp .lt 6, 3) := by decide +kernel
theorem dX11_refusalsOf_14 : decode cX11_refusalsOf 14 = .ok (.bipush (-9), 2) := by decide +kernel
theorem dX11_refusalsOf_16 : decode cX11_refusalsOf 16 = .ok (.ireturn, 1) := by decide +kernel
theorem dX11_refusalsOf_17 : decode cX11_refusalsOf 17 = .ok (.aload_n 0, 1) := by decide +kernel
theorem dX11_refusalsOf_18 : decode cX11_refusalsOf 18 = .ok (.getfield 40, 3) := by decide +kernel
theorem dX11_refusalsOf_21 : decode cX11_refusalsOf 21 = .ok (.iload_n 1, 1) := by decide +kernel
theorem dX11_refusalsOf_22 : decode cX11_refusalsOf 22 = .ok (.iaload, 1) := by decide +kernel
theorem dX11_refusalsOf_23 : decode cX11_refusalsOf 23 = .ok (.ireturn, 1) := by decide +kernel
theorem dX11_rodRefusal_0 : decode cX11_rodRefusal 0 = .ok (.iload_n 0, 1) := by decide +kernel
theorem dX11_rodRefusal_1 : decode cX11_rodRefusal 1 = .ok (.iconst 0, 1) := by decide +kernel
theorem dX11_rodRefusal_2 : decode cX11_rodRefusal 2 = .ok (.invokestatic 107, 3) := by decide +kernel
theorem dX11_rodRefusal_5 : decode cX11_rodRefusal 5 = .ok (.ireturn, 1) := by decide +kernel
theorem dX11_walkRefusal_0 : decode cX11_walkRefusal 0 = .ok (.iload_n 0, 1) := by decide +kernel
theorem dX11_walkRefusal_1 : decode cX11_walkRefusal 1 = .ok (.iconst 1, 1) := by decide +kernel
theorem dX11_walkRefusal_2 : decode cX11_walkRefusal 2 = .ok (.if_icmp .lt 7, 3) := by decide +kernel
theorem dX11_walkRefusal_5 : decode cX11_walkRefusal 5 = .ok (.iload_n 1, 1) := by decide +kernel
theorem dX11_walkRefusal_6 : decode cX11_walkRefusal 6 = .ok (.ifCond .ge 6, 3) := by decide +kernel
theorem dX11_walkRefusal_9 : decode cX11_walkRefusal 9 = .ok (.bipush (-4), 2) := by decide +kernel
theorem dX11_walkRefusal_11 : decode cX11_walkRefusal 11 = .ok (.ireturn, 1) := by decide +kernel
theorem dX11_walkRefusal_12 : decode cX11_walkRefusal 12 = .ok (.iload_n 0, 1) := by decide +kernel
theorem dX11_walkRefusal_13 : decode cX11_walkRefusal 13 = .ok (.bipush 9, 2) := by decide +kernel
theorem dX11_walkRefusal_15 : decode cX11_walkRefusal 15 = .ok (.if_icmp .gt 9, 3) := by decide +kernel
theorem dX11_walkRefusal_18 : decode cX11_walkRefusal 18 = .ok (.iload_n 1, 1) := by decide +kernel
theorem dX11_walkRefusal_19 : decode cX11_walkRefusal 19 = .ok (.bipush 9, 2) := by decide +kernel
theorem dX11_walkRefusal_21 : decode cX11_walkRefusal 21 = .ok (.if_icmp .le 8, 3) := by decide +kernel
theorem dX11_walkRefusal_24 : decode cX11_walkRefusal 24 = .ok (.bipush (-6), 2) := by decide +kernel
theorem dX11_walkRefusal_26 : decode cX11_walkRefusal 26 = .ok (.goto 4, 3) := by decide +kernel
theorem dX11_walkRefusal_29 : decode cX11_walkRefusal 29 = .ok (.iconst 0, 1) := by decide +kernel
theorem dX11_walkRefusal_30 : decode cX11_walkRefusal 30 = .ok (.ireturn, 1) := by decide +kernel
theorem dX11_readStatements_0 : decode cX11_readStatements 0 = .ok (.aload_n 0, 1) := by decide +kernel
theorem dX11_readStatements_1 : decode cX11_readStatements 1 = .ok (.getfield 16, 3) := by decide +kernel
theorem dX11_readStatements_4 : decode cX11_readStatements 4 = .ok (.aload_n 0, 1) := by decide +kernel
theorem dX11_readStatements_5 : decode cX11_readStatements 5 = .ok (.getfield 10, 3) := by decide +kernel
theorem dX11_readStatements_8 : decode cX11_readStatements 8 = .ok (.invokevirtual 219, 3) := by decide +kernel
theorem dX11_readStatements_11 : decode cX11_readStatements 11 = .ok (.iconst 0, 1) := by decide +kernel
theorem dX11_readStatements_12 : decode cX11_readStatements 12 = .ok (.istore_n 1, 1) := by decide +kernel
theorem dX11_readStatements_13 : decode cX11_readStatements 13 = .ok (.iconst 0, 1) := by decide +kernel
theorem dX11_readStatements_14 : decode cX11_readStatements 14 = .ok (.istore_n 2, 1) := by decide +kernel
theorem dX11_readStatements_15 : decode cX11_readStatements 15 = .ok (.iconst 0, 1) := by decide +kernel
theorem dX11_readStatements_16 : decode cX11_readStatements 16 = .ok (.istore_n 3, 1) := by decide +kernel
theorem dX11_readStatements_17 : decode cX11_readStatements 17 = .ok (.iload_n 3, 1) := by decide +kernel
theorem dX11_readStatements_18 : decode cX11_readStatements 18 = .ok (.bipush 80, 2) := by decide +kernel
theorem dX11_readStatements_20 : decode cX11_readStatements 20 = .ok (.if_icmp .ge 53, 3) := by decide +kernel
theorem dX11_readStatements_23 : decode cX11_readStatements 23 = .ok (.iload_n 2, 1) := by decide +kernel
theorem dX11_readStatements_24 : decode cX11_readStatements 24 = .ok (.aload_n 0, 1) := by decide +kernel
theorem dX11_readStatements_25 : decode cX11_readStatements 25 = .ok (.getfield 32, 3) := by decide +kernel
theorem dX11_readStatements_28 : decode cX11_readStatements 28 = .ok (.getfield 51, 3) := by decide +kernel
theorem dX11_readStatements_31 : decode cX11_readStatements 31 = .ok (.if_icmp .ge 42, 3) := by decide +kernel
theorem dX11_readStatements_34 : decode cX11_readStatements 34 = .ok (.aload_n 0, 1) := by decide +kernel
theorem dX11_readStatements_35 : decode cX11_readStatements 35 = .ok (.getfield 32, 3) := by decide +kernel
theorem dX11_readStatements_38 : decode cX11_readStatements 38 = .ok (.aload_n 0, 1) := by decide +kernel
theorem dX11_readStatements_39 : decode cX11_readStatements 39 = .ok (.getfield 16, 3) := by decide +kernel
theorem dX11_readStatements_42 : decode cX11_readStatements 42 = .ok (.iload_n 2, 1) := by decide +kernel
theorem dX11_readStatements_43 : decode cX11_readStatements 43 = .ok (.invokevirtual 240, 3) := by decide +kernel
theorem dX11_readStatements_46 : decode cX11_readStatements 46 = .ok (.ifCond .ne 9, 3) := by decide +kernel
theorem dX11_readStatements_49 : decode cX11_readStatements 49 = .ok (.sipush (-2000), 3) := by decide +kernel
theorem dX11_readStatements_52 : decode cX11_readStatements 52 = .ok (.iload_n 2, 1) := by decide +kernel
theorem dX11_readStatements_53 : decode cX11_readStatements 53 = .ok (.isub, 1) := by decide +kernel
theorem dX11_readStatements_54 : decode cX11_readStatements 54 = .ok (.ireturn, 1) := by decide +kernel
theorem dX11_readStatements_55 : decode cX11_readStatements 55 = .ok (.aload_n 0, 1) := by decide +kernel
theorem dX11_readStatements_56 : decode cX11_readStatements 56 = .ok (.getfield 32, 3) := by decide +kernel
theorem dX11_readStatements_59 : decode cX11_readStatements 59 = .ok (.iload_n 2, 1) := by decide +kernel
theorem dX11_readStatements_60 : decode cX11_readStatements 60 = .ok (.invokevirtual 244, 3) := by decide +kernel
theorem dX11_readStatements_63 : decode cX11_readStatements 63 = .ok (.istore_n 2, 1) := by decide +kernel
theorem dX11_readStatements_64 : decode cX11_readStatements 64 = .ok (.iinc 1 1, 3) := by decide +kernel
theorem dX11_readStatements_67 : decode cX11_readStatements 67 = .ok (.iinc 3 1, 3) := by decide +kernel
theorem dX11_readStatements_70 : decode cX11_readStatements 70 = .ok (.goto (-53), 3) := by decide +kernel
theorem dX11_readStatements_73 : decode cX11_readStatements 73 = .ok (.aload_n 0, 1) := by decide +kernel
theorem dX11_readStatements_74 : decode cX11_readStatements 74 = .ok (.getfield 10, 3) := by decide +kernel
theorem dX11_readStatements_77 : decode cX11_readStatements 77 = .ok (.aload_n 0, 1) := by decide +kernel
theorem dX11_readStatements_78 : decode cX11_readStatements 78 = .ok (.getfield 16, 3) := by decide +kernel
theorem dX11_readStatements_81 : decode cX11_readStatements 81 = .ok (.invokevirtual 219, 3) := by decide +kernel
theorem dX11_readStatements_84 : decode cX11_readStatements 84 = .ok (.iload_n 1, 1) := by decide +kernel
theorem dX11_readStatements_85 : decode cX11_readStatements 85 = .ok (.ireturn, 1) := by decide +kernel
theorem dX11_holds_0 : decode cX11_holds 0 = .ok (.iload_n 2, 1) := by decide +kernel
theorem dX11_holds_1 : decode cX11_holds 1 = .ok (.ifCond .lt 23, 3) := by decide +kernel
theorem dX11_holds_4 : decode cX11_holds 4 = .ok (.iload_n 2, 1) := by decide +kernel
theorem dX11_holds_5 : decode cX11_holds 5 = .ok (.bipush 48, 2) := by decide +kernel
theorem dX11_holds_7 : decode cX11_holds 7 = .ok (.if_icmp .gt 17, 3) := by decide +kernel
theorem dX11_holds_10 : decode cX11_holds 10 = .ok (.lload_n 0, 1) := by decide +kernel
theorem dX11_holds_11 : decode cX11_holds 11 = .ok (.iload_n 2, 1) := by decide +kernel
theorem dX11_holds_12 : decode cX11_holds 12 = .ok (.lshr, 1) := by decide +kernel
theorem dX11_holds_13 : decode cX11_holds 13 = .ok (.lconst 1, 1) := by decide +kernel
theorem dX11_holds_14 : decode cX11_holds 14 = .ok (.land, 1) := by decide +kernel
theorem dX11_holds_15 : decode cX11_holds 15 = .ok (.lconst 0, 1) := by decide +kernel
theorem dX11_holds_16 : decode cX11_holds 16 = .ok (.lcmp, 1) := by decide +kernel
theorem dX11_holds_17 : decode cX11_holds 17 = .ok (.ifCond .eq 7, 3) := by decide +kernel
theorem dX11_holds_20 : decode cX11_holds 20 = .ok (.iconst 1, 1) := by decide +kernel
theorem dX11_holds_21 : decode cX11_holds 21 = .ok (.goto 4, 3) := by decide +kernel
theorem dX11_holds_24 : decode cX11_holds 24 = .ok (.iconst 0, 1) := by decide +kernel
theorem dX11_holds_25 : decode cX11_holds 25 = .ok (.ireturn, 1) := by decide +kernel
theorem dX11_memberOf_0 : decode cX11_memberOf 0 = .ok (.iload_n 2, 1) := by decide +kernel
theorem dX11_memberOf_1 : decode cX11_memberOf 1 = .ok (.istore_n 3, 1) := by decide +kernel
theorem dX11_memberOf_2 : decode cX11_memberOf 2 = .ok (.iconst 0, 1) := by decide +kernel
theorem dX11_memberOf_3 : decode cX11_memberOf 3 = .ok (.istore 4, 2) := by decide +kernel
theorem dX11_memberOf_5 : decode cX11_memberOf 5 = .ok (.iload 4, 2) := by decide +kernel
theorem dX11_memberOf_7 : decode cX11_memberOf 7 = .ok (.bipush 48, 2) := by decide +kernel
theorem dX11_memberOf_9 : decode cX11_memberOf 9 = .ok (.if_icmp .gt 28, 3) := by decide +kernel
theorem dX11_memberOf_12 : decode cX11_memberOf 12 = .ok (.lload_n 0, 1) := by decide +kernel
theorem dX11_memberOf_13 : decode cX11_memberOf 13 = .ok (.iload 4, 2) := by decide +kernel
theorem dX11_memberOf_15 : decode cX11_memberOf 15 = .ok (.invokestatic 103, 3) := by decide +kernel
theorem dX11_memberOf_18 : decode cX11_memberOf 18 = .ok (.ifCond .eq 13, 3) := by decide +kernel
theorem dX11_memberOf_21 : decode cX11_memberOf 21 = .ok (.iload_n 3, 1) := by decide +kernel
theorem dX11_memberOf_22 : decode cX11_memberOf 22 = .ok (.ifCond .ne 6, 3) := by decide +kernel
theorem dX11_memberOf_25 : decode cX11_memberOf 25 = .ok (.iload 4, 2) := by decide +kernel
theorem dX11_memberOf_27 : decode cX11_memberOf 27 = .ok (.ireturn, 1) := by decide +kernel
theorem dX11_memberOf_28 : decode cX11_memberOf 28 = .ok (.iinc 3 (-1), 3) := by decide +kernel
theorem dX11_memberOf_31 : decode cX11_memberOf 31 = .ok (.iinc 4 1, 3) := by decide +kernel
theorem dX11_memberOf_34 : decode cX11_memberOf 34 = .ok (.goto (-29), 3) := by decide +kernel
theorem dX11_memberOf_37 : decode cX11_memberOf 37 = .ok (.bipush (-9), 2) := by decide +kernel
theorem dX11_memberOf_39 : decode cX11_memberOf 39 = .ok (.ireturn, 1) := by decide +kernel
theorem dX11_lastOf_0 : decode cX11_lastOf 0 = .ok (.bipush 48, 2) := by decide +kernel
theorem dX11_lastOf_2 : decode cX11_lastOf 2 = .ok (.istore_n 2, 1) := by decide +kernel
theorem dX11_lastOf_3 : decode cX11_lastOf 3 = .ok (.iload_n 2, 1) := by decide +kernel
theorem dX11_lastOf_4 : decode cX11_lastOf 4 = .ok (.ifCond .lt 19, 3) := by decide +kernel
theorem dX11_lastOf_7 : decode cX11_lastOf 7 = .ok (.lload_n 0, 1) := by decide +kernel
theorem dX11_lastOf_8 : decode cX11_lastOf 8 = .ok (.iload_n 2, 1) := by decide +kernel
theorem dX11_lastOf_9 : decode cX11_lastOf 9 = .ok (.invokestatic 103, 3) := by decide +kernel
theorem dX11_lastOf_12 : decode cX11_lastOf 12 = .ok (.ifCond .eq 5, 3) := by decide +kernel
theorem dX11_lastOf_15 : decode cX11_lastOf 15 = .ok (.iload_n 2, 1) := by decide +kernel
theorem dX11_lastOf_16 : decode cX11_lastOf 16 = .ok (.ireturn, 1) := by decide +kernel
theorem dX11_lastOf_17 : decode cX11_lastOf 17 = .ok (.iinc 2 (-1), 3) := by decide +kernel
theorem dX11_lastOf_20 : decode cX11_lastOf 20 = .ok (.goto (-17), 3) := by decide +kernel
theorem dX11_lastOf_23 : decode cX11_lastOf 23 = .ok (.bipush (-9), 2) := by decide +kernel
theorem dX11_lastOf_25 : decode cX11_lastOf 25 = .ok (.ireturn, 1) := by decide +kernel
theorem dX11_eachOf_0 : decode cX11_eachOf 0 = .ok (.lconst 0, 1) := by decide +kernel
theorem dX11_eachOf_1 : decode cX11_eachOf 1 = .ok (.lstore_n 3, 1) := by decide +kernel
theorem dX11_eachOf_2 : decode cX11_eachOf 2 = .ok (.iconst 0, 1) := by decide +kernel
theorem dX11_eachOf_3 : decode cX11_eachOf 3 = .ok (.istore 5, 2) := by decide +kernel
theorem dX11_eachOf_5 : decode cX11_eachOf 5 = .ok (.iconst 0, 1) := by decide +kernel
theorem dX11_eachOf_6 : decode cX11_eachOf 6 = .ok (.istore 6, 2) := by decide +kernel
theorem dX11_eachOf_8 : decode cX11_eachOf 8 = .ok (.iload 6, 2) := by decide +kernel
theorem dX11_eachOf_10 : decode cX11_eachOf 10 = .ok (.bipush 48, 2) := by decide +kernel
theorem dX11_eachOf_12 : decode cX11_eachOf 12 = .ok (.if_icmp .gt 36, 3) := by decide +kernel
theorem dX11_eachOf_15 : decode cX11_eachOf 15 = .ok (.lload_n 0, 1) := by decide +kernel
theorem dX11_eachOf_16 : decode cX11_eachOf 16 = .ok (.iload 6, 2) := by decide +kernel
theorem dX11_eachOf_18 : decode cX11_eachOf 18 = .ok (.invokestatic 103, 3) := by decide +kernel
theorem dX11_eachOf_21 : decode cX11_eachOf 21 = .ok (.ifCond .eq 21, 3) := by decide +kernel
theorem dX11_eachOf_24 : decode cX11_eachOf 24 = .ok (.iload 5, 2) := by decide +kernel
theorem dX11_eachOf_26 : decode cX11_eachOf 26 = .ok (.ifCond .ne 13, 3) := by decide +kernel
theorem dX11_eachOf_29 : decode cX11_eachOf 29 = .ok (.lload_n 3, 1) := by decide +kernel
theorem dX11_eachOf_30 : decode cX11_eachOf 30 = .ok (.lconst 1, 1) := by decide +kernel
theorem dX11_eachOf_31 : decode cX11_eachOf 31 = .ok (.iload 6, 2) := by decide +kernel
theorem dX11_eachOf_33 : decode cX11_eachOf 33 = .ok (.lshl, 1) := by decide +kernel
theorem dX11_eachOf_34 : decode cX11_eachOf 34 = .ok (.lor, 1) := by decide +kernel
theorem dX11_eachOf_35 : decode cX11_eachOf 35 = .ok (.lstore_n 3, 1) := by decide +kernel
theorem dX11_eachOf_36 : decode cX11_eachOf 36 = .ok (.iload_n 2, 1) := by decide +kernel
theorem dX11_eachOf_37 : decode cX11_eachOf 37 = .ok (.istore 5, 2) := by decide +kernel
theorem dX11_eachOf_39 : decode cX11_eachOf 39 = .ok (.iinc 5 (-1), 3) := by decide +kernel
theorem dX11_eachOf_42 : decode cX11_eachOf 42 = .ok (.iinc 6 1, 3) := by decide +kernel
theorem dX11_eachOf_45 : decode cX11_eachOf 45 = .ok (.goto (-37), 3) := by decide +kernel
theorem dX11_eachOf_48 : decode cX11_eachOf 48 = .ok (.lload_n 3, 1) := by decide +kernel
theorem dX11_eachOf_49 : decode cX11_eachOf 49 = .ok (.lreturn, 1) := by decide +kernel
theorem dX11_stepsOf_0 : decode cX11_stepsOf 0 = .ok (.iconst 0, 1) := by decide +kernel
theorem dX11_stepsOf_1 : decode cX11_stepsOf 1 = .ok (.lload_n 0, 1) := by decide +kernel
theorem dX11_stepsOf_2 : decode cX11_stepsOf 2 = .ok (.invokestatic 206, 3) := by decide +kernel
theorem dX11_stepsOf_5 : decode cX11_stepsOf 5 = .ok (.iconst 1, 1) := by decide +kernel
theorem dX11_stepsOf_6 : decode cX11_stepsOf 6 = .ok (.isub, 1) := by decide +kernel
theorem dX11_stepsOf_7 : decode cX11_stepsOf 7 = .ok (.invokestatic 140, 3) := by decide +kernel
theorem dX11_stepsOf_10 : decode cX11_stepsOf 10 = .ok (.ireturn, 1) := by decide +kernel
theorem dX11_payOf_0 : decode cX11_payOf 0 = .ok (.lload_n 1, 1) := by decide +kernel
theorem dX11_payOf_1 : decode cX11_payOf 1 = .ok (.lload_n 1, 1) := by decide +kernel
theorem dX11_payOf_2 : decode cX11_payOf 2 = .ok (.lconst 1, 1) := by decide +kernel
theorem dX11_payOf_3 : decode cX11_payOf 3 = .ok (.lsub, 1) := by decide +kernel
theorem dX11_payOf_4 : decode cX11_payOf 4 = .ok (.land, 1) := by decide +kernel
theorem dX11_payOf_5 : decode cX11_payOf 5 = .ok (.lstore 4, 2) := by decide +kernel
theorem dX11_payOf_7 : decode cX11_payOf 7 = .ok (.iload_n 3, 1) := by decide +kernel
theorem dX11_payOf_8 : decode cX11_payOf 8 = .ok (.lload_n 1, 1) := by decide +kernel
theorem dX11_payOf_9 : decode cX11_payOf 9 = .ok (.invokestatic 115, 3) := by decide +kernel
theorem dX11_payOf_12 : decode cX11_payOf 12 = .ok (.imul, 1) := by decide +kernel
theorem dX11_payOf_13 : decode cX11_payOf 13 = .ok (.aload_n 0, 1) := by decide +kernel
theorem dX11_payOf_14 : decode cX11_payOf 14 = .ok (.getfield 10, 3) := by decide +kernel
theorem dX11_payOf_17 : decode cX11_payOf 17 = .ok (.lload 4, 2) := by decide +kernel
theorem dX11_payOf_19 : decode cX11_payOf 19 = .ok (.invokevirtual 247, 3) := by decide +kernel
theorem dX11_payOf_22 : decode cX11_payOf 22 = .ok (.iadd, 1) := by decide +kernel
theorem dX11_payOf_23 : decode cX11_payOf 23 = .ok (.ireturn, 1) := by decide +kernel
theorem dX11_overOf_0 : decode cX11_overOf 0 = .ok (.lload_n 2, 1) := by decide +kernel
theorem dX11_overOf_1 : decode cX11_overOf 1 = .ok (.invokestatic 123, 3) := by decide +kernel
theorem dX11_overOf_4 : decode cX11_overOf 4 = .ok (.istore 4, 2) := by decide +kernel
theorem dX11_overOf_6 : decode cX11_overOf 6 = .ok (.iload 4, 2) := by decide +kernel
theorem dX11_overOf_8 : decode cX11_overOf 8 = .ok (.ifCond .ge 7, 3) := by decide +kernel
theorem dX11_overOf_11 : decode cX11_overOf 11 = .ok (.iconst 0, 1) := by decide +kernel
theorem dX11_overOf_12 : decode cX11_overOf 12 = .ok (.goto 12, 3) := by decide +kernel
theorem dX11_overOf_15 : decode cX11_overOf 15 = .ok (.lload_n 0, 1) := by decide +kernel
theorem dX11_overOf_16 : decode cX11_overOf 16 = .ok (.iload 4, 2) := by decide +kernel
theorem dX11_overOf_18 : decode cX11_overOf 18 = .ok (.iconst 1, 1) := by decide +kernel
theorem dX11_overOf_19 : decode cX11_overOf 19 = .ok (.iadd, 1) := by decide +kernel
theorem dX11_overOf_20 : decode cX11_overOf 20 = .ok (.lshr, 1) := by decide +kernel
theorem dX11_overOf_21 : decode cX11_overOf 21 = .ok (.invokestatic 206, 3) := by decide +kernel
theorem dX11_overOf_24 : decode cX11_overOf 24 = .ok (.ireturn, 1) := by decide +kernel
theorem dX11_nextState_0 : decode cX11_nextState 0 = .ok (.iload_n 0, 1) := by decide +kernel
theorem dX11_nextState_1 : decode cX11_nextState 1 = .ok (.ldc 250, 2) := by decide +kernel
theorem dX11_nextState_3 : decode cX11_nextState 3 = .ok (.imul, 1) := by decide +kernel
theorem dX11_nextState_4 : decode cX11_nextState 4 = .ok (.sipush 12345, 3) := by decide +kernel
theorem dX11_nextState_7 : decode cX11_nextState 7 = .ok (.iadd, 1) := by decide +kernel
theorem dX11_nextState_8 : decode cX11_nextState 8 = .ok (.ireturn, 1) := by decide +kernel
theorem dX11_drawBelow_0 : decode cX11_drawBelow 0 = .ok (.iload_n 0, 1) := by decide +kernel
theorem dX11_drawBelow_1 : decode cX11_drawBelow 1 = .ok (.iconst 1, 1) := by decide +kernel
theorem dX11_drawBelow_2 : decode cX11_drawBelow 2 = .ok (.if_icmp .ge 7, 3) := by decide +kernel
theorem dX11_drawBelow_5 : decode cX11_drawBelow 5 = .ok (.iconst 0, 1) := by decide +kernel
theorem dX11_drawBelow_6 : decode cX11_drawBelow 6 = .ok (.goto 12, 3) := by decide +kernel
theorem dX11_drawBelow_9 : decode cX11_drawBelow 9 = .ok (.iload_n 1, 1) := by decide +kernel
theorem dX11_drawBelow_10 : decode cX11_drawBelow 10 = .ok (.ldc 251, 2) := by decide +kernel
theorem dX11_drawBelow_12 : decode cX11_drawBelow 12 = .ok (.iand, 1) := by decide +kernel
theorem dX11_drawBelow_13 : decode cX11_drawBelow 13 = .ok (.bipush 16, 2) := by decide +kernel
theorem dX11_drawBelow_15 : decode cX11_drawBelow 15 = .ok (.ishr, 1) := by decide +kernel
theorem dX11_drawBelow_16 : decode cX11_drawBelow 16 = .ok (.iload_n 0, 1) := by decide +kernel
theorem dX11_drawBelow_17 : decode cX11_drawBelow 17 = .ok (.irem, 1) := by decide +kernel
theorem dX11_drawBelow_18 : decode cX11_drawBelow 18 = .ok (.ireturn, 1) := by decide +kernel
theorem dJ6_bitCount_0f7a4_0 : decode cJ6_bitCount_0f7a4 0 = .ok (.iload_n 0, 1) := by decide +kernel
theorem dJ6_bitCount_0f7a4_1 : decode cJ6_bitCount_0f7a4 1 = .ok (.iload_n 0, 1) := by decide +kernel
theorem dJ6_bitCount_0f7a4_2 : decode cJ6_bitCount_0f7a4 2 = .ok (.iconst 1, 1) := by decide +kernel
theorem dJ6_bitCount_0f7a4_3 : decode cJ6_bitCount_0f7a4 3 = .ok (.iushr, 1) := by decide +kernel
theorem dJ6_bitCount_0f7a4_4 : decode cJ6_bitCount_0f7a4 4 = .ok (.ldc_w 265, 3) := by decide +kernel
theorem dJ6_bitCount_0f7a4_7 : decode cJ6_bitCount_0f7a4 7 = .ok (.iand, 1) := by decide +kernel
theorem dJ6_bitCount_0f7a4_8 : decode cJ6_bitCount_0f7a4 8 = .ok (.isub, 1) := by decide +kernel
theorem dJ6_bitCount_0f7a4_9 : decode cJ6_bitCount_0f7a4 9 = .ok (.istore_n 0, 1) := by decide +kernel
theorem dJ6_bitCount_0f7a4_10 : decode cJ6_bitCount_0f7a4 10 = .ok (.iload_n 0, 1) := by decide +kernel
theorem dJ6_bitCount_0f7a4_11 : decode cJ6_bitCount_0f7a4 11 = .ok (.ldc_w 266, 3) := by decide +kernel
theorem dJ6_bitCount_0f7a4_14 : decode cJ6_bitCount_0f7a4 14 = .ok (.iand, 1) := by decide +kernel
theorem dJ6_bitCount_0f7a4_15 : decode cJ6_bitCount_0f7a4 15 = .ok (.iload_n 0, 1) := by decide +kernel
theorem dJ6_bitCount_0f7a4_16 : decode cJ6_bitCount_0f7a4 16 = .ok (.iconst 2, 1) := by decide +kernel
theorem dJ6_bitCount_0f7a4_17 : decode cJ6_bitCount_0f7a4 17 = .ok (.iushr, 1) := by decide +kernel
theorem dJ6_bitCount_0f7a4_18 : decode cJ6_bitCount_0f7a4 18 = .ok (.ldc_w 266, 3) := by decide +kernel
theorem dJ6_bitCount_0f7a4_21 : decode cJ6_bitCount_0f7a4 21 = .ok (.iand, 1) := by decide +kernel
theorem dJ6_bitCount_0f7a4_22 : decode cJ6_bitCount_0f7a4 22 = .ok (.iadd, 1) := by decide +kernel
theorem dJ6_bitCount_0f7a4_23 : decode cJ6_bitCount_0f7a4 23 = .ok (.istore_n 0, 1) := by decide +kernel
theorem dJ6_bitCount_0f7a4_24 : decode cJ6_bitCount_0f7a4 24 = .ok (.iload_n 0, 1) := by decide +kernel
theorem dJ6_bitCount_0f7a4_25 : decode cJ6_bitCount_0f7a4 25 = .ok (.iload_n 0, 1) := by decide +kernel
theorem dJ6_bitCount_0f7a4_26 : decode cJ6_bitCount_0f7a4 26 = .ok (.iconst 4, 1) := by decide +kernel
theorem dJ6_bitCount_0f7a4_27 : decode cJ6_bitCount_0f7a4 27 = .ok (.iushr, 1) := by decide +kernel
theorem dJ6_bitCount_0f7a4_28 : decode cJ6_bitCount_0f7a4 28 = .ok (.iadd, 1) := by decide +kernel
theorem dJ6_bitCount_0f7a4_29 : decode cJ6_bitCount_0f7a4 29 = .ok (.ldc_w 267, 3) := by decide +kernel
theorem dJ6_bitCount_0f7a4_32 : decode cJ6_bitCount_0f7a4 32 = .ok (.iand, 1) := by decide +kernel
theorem dJ6_bitCount_0f7a4_33 : decode cJ6_bitCount_0f7a4 33 = .ok (.istore_n 0, 1) := by decide +kernel
theorem dJ6_bitCount_0f7a4_34 : decode cJ6_bitCount_0f7a4 34 = .ok (.iload_n 0, 1) := by decide +kernel
theorem dJ6_bitCount_0f7a4_35 : decode cJ6_bitCount_0f7a4 35 = .ok (.iload_n 0, 1) := by decide +kernel
theorem dJ6_bitCount_0f7a4_36 : decode cJ6_bitCount_0f7a4 36 = .ok (.bipush 8, 2) := by decide +kernel
theorem dJ6_bitCount_0f7a4_38 : decode cJ6_bitCount_0f7a4 38 = .ok (.iushr, 1) := by decide +kernel
theorem dJ6_bitCount_0f7a4_39 : decode cJ6_bitCount_0f7a4 39 = .ok (.iadd, 1) := by decide +kernel
theorem dJ6_bitCount_0f7a4_40 : decode cJ6_bitCount_0f7a4 40 = .ok (.istore_n 0, 1) := by decide +kernel
theorem dJ6_bitCount_0f7a4_41 : decode cJ6_bitCount_0f7a4 41 = .ok (.iload_n 0, 1) := by decide +kernel
theorem dJ6_bitCount_0f7a4_42 : decode cJ6_bitCount_0f7a4 42 = .ok (.iload_n 0, 1) := by decide +kernel
theorem dJ6_bitCount_0f7a4_43 : decode cJ6_bitCount_0f7a4 43 = .ok (.bipush 16, 2) := by decide +kernel
theorem dJ6_bitCount_0f7a4_45 : decode cJ6_bitCount_0f7a4 45 = .ok (.iushr, 1) := by decide +kernel
theorem dJ6_bitCount_0f7a4_46 : decode cJ6_bitCount_0f7a4 46 = .ok (.iadd, 1) := by decide +kernel
theorem dJ6_bitCount_0f7a4_47 : decode cJ6_bitCount_0f7a4 47 = .ok (.istore_n 0, 1) := by decide +kernel
theorem dJ6_bitCount_0f7a4_48 : decode cJ6_bitCount_0f7a4 48 = .ok (.iload_n 0, 1) := by decide +kernel
theorem dJ6_bitCount_0f7a4_49 : decode cJ6_bitCount_0f7a4 49 = .ok (.bipush 63, 2) := by decide +kernel
theorem dJ6_bitCount_0f7a4_51 : decode cJ6_bitCount_0f7a4 51 = .ok (.iand, 1) := by decide +kernel
theorem dJ6_bitCount_0f7a4_52 : decode cJ6_bitCount_0f7a4 52 = .ok (.ireturn, 1) := by decide +kernel
theorem dJ13_bitCount_95d88_0 : decode cJ13_bitCount_95d88 0 = .ok (.lload_n 0, 1) := by decide +kernel
theorem dJ13_bitCount_95d88_1 : decode cJ13_bitCount_95d88 1 = .ok (.lload_n 0, 1) := by decide +kernel
theorem dJ13_bitCount_95d88_2 : decode cJ13_bitCount_95d88 2 = .ok (.iconst 1, 1) := by decide +kernel
theorem dJ13_bitCount_95d88_3 : decode cJ13_bitCount_95d88 3 = .ok (.lushr, 1) := by decide +kernel
theorem dJ13_bitCount_95d88_4 : decode cJ13_bitCount_95d88 4 = .ok (.ldc2_w 314, 3) := by decide +kernel
theorem dJ13_bitCount_95d88_7 : decode cJ13_bitCount_95d88 7 = .ok (.land, 1) := by decide +kernel
theorem dJ13_bitCount_95d88_8 : decode cJ13_bitCount_95d88 8 = .ok (.lsub, 1) := by decide +kernel
theorem dJ13_bitCount_95d88_9 : decode cJ13_bitCount_95d88 9 = .ok (.lstore_n 0, 1) := by decide +kernel
theorem dJ13_bitCount_95d88_10 : decode cJ13_bitCount_95d88 10 = .ok (.lload_n 0, 1) := by decide +kernel
theorem dJ13_bitCount_95d88_11 : decode cJ13_bitCount_95d88 11 = .ok (.ldc2_w 316, 3) := by decide +kernel
theorem dJ13_bitCount_95d88_14 : decode cJ13_bitCount_95d88 14 = .ok (.land, 1) := by decide +kernel
theorem dJ13_bitCount_95d88_15 : decode cJ13_bitCount_95d88 15 = .ok (.lload_n 0, 1) := by decide +kernel
theorem dJ13_bitCount_95d88_16 : decode cJ13_bitCount_95d88 16 = .ok (.iconst 2, 1) := by decide +kernel
theorem dJ13_bitCount_95d88_17 : decode cJ13_bitCount_95d88 17 = .ok (.lushr, 1) := by decide +kernel
theorem dJ13_bitCount_95d88_18 : decode cJ13_bitCount_95d88 18 = .ok (.ldc2_w 316, 3) := by decide +kernel
theorem dJ13_bitCount_95d88_21 : decode cJ13_bitCount_95d88 21 = .ok (.land, 1) := by decide +kernel
theorem dJ13_bitCount_95d88_22 : decode cJ13_bitCount_95d88 22 = .ok (.ladd, 1) := by decide +kernel
theorem dJ13_bitCount_95d88_23 : decode cJ13_bitCount_95d88 23 = .ok (.lstore_n 0, 1) := by decide +kernel
theorem dJ13_bitCount_95d88_24 : decode cJ13_bitCount_95d88 24 = .ok (.lload_n 0, 1) := by decide +kernel
theorem dJ13_bitCount_95d88_25 : decode cJ13_bitCount_95d88 25 = .ok (.lload_n 0, 1) := by decide +kernel
theorem dJ13_bitCount_95d88_26 : decode cJ13_bitCount_95d88 26 = .ok (.iconst 4, 1) := by decide +kernel
theorem dJ13_bitCount_95d88_27 : decode cJ13_bitCount_95d88 27 = .ok (.lushr, 1) := by decide +kernel
theorem dJ13_bitCount_95d88_28 : decode cJ13_bitCount_95d88 28 = .ok (.ladd, 1) := by decide +kernel
theorem dJ13_bitCount_95d88_29 : decode cJ13_bitCount_95d88 29 = .ok (.ldc2_w 318, 3) := by decide +kernel
theorem dJ13_bitCount_95d88_32 : decode cJ13_bitCount_95d88 32 = .ok (.land, 1) := by decide +kernel
theorem dJ13_bitCount_95d88_33 : decode cJ13_bitCount_95d88 33 = .ok (.lstore_n 0, 1) := by decide +kernel
theorem dJ13_bitCount_95d88_34 : decode cJ13_bitCount_95d88 34 = .ok (.lload_n 0, 1) := by decide +kernel
theorem dJ13_bitCount_95d88_35 : decode cJ13_bitCount_95d88 35 = .ok (.lload_n 0, 1) := by decide +kernel
theorem dJ13_bitCount_95d88_36 : decode cJ13_bitCount_95d88 36 = .ok (.bipush 8, 2) := by decide +kernel
theorem dJ13_bitCount_95d88_38 : decode cJ13_bitCount_95d88 38 = .ok (.lushr, 1) := by decide +kernel
theorem dJ13_bitCount_95d88_39 : decode cJ13_bitCount_95d88 39 = .ok (.ladd, 1) := by decide +kernel
theorem dJ13_bitCount_95d88_40 : decode cJ13_bitCount_95d88 40 = .ok (.lstore_n 0, 1) := by decide +kernel
theorem dJ13_bitCount_95d88_41 : decode cJ13_bitCount_95d88 41 = .ok (.lload_n 0, 1) := by decide +kernel
theorem dJ13_bitCount_95d88_42 : decode cJ13_bitCount_95d88 42 = .ok (.lload_n 0, 1) := by decide +kernel
theorem dJ13_bitCount_95d88_43 : decode cJ13_bitCount_95d88 43 = .ok (.bipush 16, 2) := by decide +kernel
theorem dJ13_bitCount_95d88_45 : decode cJ13_bitCount_95d88 45 = .ok (.lushr, 1) := by decide +kernel
theorem dJ13_bitCount_95d88_46 : decode cJ13_bitCount_95d88 46 = .ok (.ladd, 1) := by decide +kernel
theorem dJ13_bitCount_95d88_47 : decode cJ13_bitCount_95d88 47 = .ok (.lstore_n 0, 1) := by decide +kernel
theorem dJ13_bitCount_95d88_48 : decode cJ13_bitCount_95d88 48 = .ok (.lload_n 0, 1) := by decide +kernel
theorem dJ13_bitCount_95d88_49 : decode cJ13_bitCount_95d88 49 = .ok (.lload_n 0, 1) := by decide +kernel
theorem dJ13_bitCount_95d88_50 : decode cJ13_bitCount_95d88 50 = .ok (.bipush 32, 2) := by decide +kernel
theorem dJ13_bitCount_95d88_52 : decode cJ13_bitCount_95d88 52 = .ok (.lushr, 1) := by decide +kernel
theorem dJ13_bitCount_95d88_53 : decode cJ13_bitCount_95d88 53 = .ok (.ladd, 1) := by decide +kernel
theorem dJ13_bitCount_95d88_54 : decode cJ13_bitCount_95d88 54 = .ok (.lstore_n 0, 1) := by decide +kernel
theorem dJ13_bitCount_95d88_55 : decode cJ13_bitCount_95d88 55 = .ok (.lload_n 0, 1) := by decide +kernel
theorem dJ13_bitCount_95d88_56 : decode cJ13_bitCount_95d88 56 = .ok (.l2i, 1) := by decide +kernel
theorem dJ13_bitCount_95d88_57 : decode cJ13_bitCount_95d88 57 = .ok (.bipush 127, 2) := by decide +kernel
theorem dJ13_bitCount_95d88_59 : decode cJ13_bitCount_95d88 59 = .ok (.iand, 1) := by decide +kernel
theorem dJ13_bitCount_95d88_60 : decode cJ13_bitCount_95d88 60 = .ok (.ireturn, 1) := by decide +kernel
theorem dJ9_abs_0f7a4_0 : decode cJ9_abs_0f7a4 0 = .ok (.iload_n 0, 1) := by decide +kernel
theorem dJ9_abs_0f7a4_1 : decode cJ9_abs_0f7a4 1 = .ok (.ifCond .ge 8, 3) := by decide +kernel
theorem dJ9_abs_0f7a4_4 : decode cJ9_abs_0f7a4 4 = .ok (.iload_n 0, 1) := by decide +kernel
theorem dJ9_abs_0f7a4_5 : decode cJ9_abs_0f7a4 5 = .ok (.ineg, 1) := by decide +kernel
theorem dJ9_abs_0f7a4_6 : decode cJ9_abs_0f7a4 6 = .ok (.goto 4, 3) := by decide +kernel
theorem dJ9_abs_0f7a4_9 : decode cJ9_abs_0f7a4 9 = .ok (.iload_n 0, 1) := by decide +kernel
theorem dJ9_abs_0f7a4_10 : decode cJ9_abs_0f7a4 10 = .ok (.ireturn, 1) := by decide +kernel
theorem dJ9_max_7cf53_0 : decode cJ9_max_7cf53 0 = .ok (.iload_n 0, 1) := by decide +kernel
theorem dJ9_max_7cf53_1 : decode cJ9_max_7cf53 1 = .ok (.iload_n 1, 1) := by decide +kernel
theorem dJ9_max_7cf53_2 : decode cJ9_max_7cf53 2 = .ok (.if_icmp .lt 7, 3) := by decide +kernel
theorem dJ9_max_7cf53_5 : decode cJ9_max_7cf53 5 = .ok (.iload_n 0, 1) := by decide +kernel
theorem dJ9_max_7cf53_6 : decode cJ9_max_7cf53 6 = .ok (.goto 4, 3) := by decide +kernel
theorem dJ9_max_7cf53_9 : decode cJ9_max_7cf53 9 = .ok (.iload_n 1, 1) := by decide +kernel
theorem dJ9_max_7cf53_10 : decode cJ9_max_7cf53 10 = .ok (.ireturn, 1) := by decide +kernel
theorem dJ9_min_7cf53_0 : decode cJ9_min_7cf53 0 = .ok (.iload_n 0, 1) := by decide +kernel
theorem dJ9_min_7cf53_1 : decode cJ9_min_7cf53 1 = .ok (.iload_n 1, 1) := by decide +kernel
theorem dJ9_min_7cf53_2 : decode cJ9_min_7cf53 2 = .ok (.if_icmp .gt 7, 3) := by decide +kernel
theorem dJ9_min_7cf53_5 : decode cJ9_min_7cf53 5 = .ok (.iload_n 0, 1) := by decide +kernel
theorem dJ9_min_7cf53_6 : decode cJ9_min_7cf53 6 = .ok (.goto 4, 3) := by decide +kernel
theorem dJ9_min_7cf53_9 : decode cJ9_min_7cf53 9 = .ok (.iload_n 1, 1) := by decide +kernel
theorem dJ9_min_7cf53_10 : decode cJ9_min_7cf53 10 = .ok (.ireturn, 1) := by decide +kernel
