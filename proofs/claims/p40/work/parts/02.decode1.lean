theorem dX0_init_0 : decode cX0_init 0 = .ok (.aload_n 0, 1) := by decide +kernel
theorem dX0_init_1 : decode cX0_init 1 = .ok (.invokespecial 3, 3) := by decide +kernel
theorem dX0_init_4 : decode cX0_init 4 = .ok (.aload_n 0, 1) := by decide +kernel
theorem dX0_init_5 : decode cX0_init 5 = .ok (.bipush 50, 2) := by decide +kernel
theorem dX0_init_7 : decode cX0_init 7 = .ok (.newarray .int, 2) := by decide +kernel
theorem dX0_init_9 : decode cX0_init 9 = .ok (.putfield 11, 3) := by decide +kernel
theorem dX0_init_12 : decode cX0_init 12 = .ok (.aload_n 0, 1) := by decide +kernel
theorem dX0_init_13 : decode cX0_init 13 = .ok (.sipush 1200, 3) := by decide +kernel
theorem dX0_init_16 : decode cX0_init 16 = .ok (.newarray .int, 2) := by decide +kernel
theorem dX0_init_18 : decode cX0_init 18 = .ok (.putfield 15, 3) := by decide +kernel
theorem dX0_init_21 : decode cX0_init 21 = .ok (.aload_n 0, 1) := by decide +kernel
theorem dX0_init_22 : decode cX0_init 22 = .ok (.sipush 1200, 3) := by decide +kernel
theorem dX0_init_25 : decode cX0_init 25 = .ok (.newarray .int, 2) := by decide +kernel
theorem dX0_init_27 : decode cX0_init 27 = .ok (.putfield 18, 3) := by decide +kernel
theorem dX0_init_30 : decode cX0_init 30 = .ok (.return_, 1) := by decide +kernel
theorem dX0_copyFrom_0 : decode cX0_copyFrom 0 = .ok (.aload_n 1, 1) := by decide +kernel
theorem dX0_copyFrom_1 : decode cX0_copyFrom 1 = .ok (.getfield 11, 3) := by decide +kernel
theorem dX0_copyFrom_4 : decode cX0_copyFrom 4 = .ok (.aload_n 0, 1) := by decide +kernel
theorem dX0_copyFrom_5 : decode cX0_copyFrom 5 = .ok (.getfield 11, 3) := by decide +kernel
theorem dX0_copyFrom_8 : decode cX0_copyFrom 8 = .ok (.invokestatic 21, 3) := by decide +kernel
theorem dX0_copyFrom_11 : decode cX0_copyFrom 11 = .ok (.aload_n 1, 1) := by decide +kernel
theorem dX0_copyFrom_12 : decode cX0_copyFrom 12 = .ok (.getfield 15, 3) := by decide +kernel
theorem dX0_copyFrom_15 : decode cX0_copyFrom 15 = .ok (.aload_n 0, 1) := by decide +kernel
theorem dX0_copyFrom_16 : decode cX0_copyFrom 16 = .ok (.getfield 15, 3) := by decide +kernel
theorem dX0_copyFrom_19 : decode cX0_copyFrom 19 = .ok (.invokestatic 21, 3) := by decide +kernel
theorem dX0_copyFrom_22 : decode cX0_copyFrom 22 = .ok (.aload_n 1, 1) := by decide +kernel
theorem dX0_copyFrom_23 : decode cX0_copyFrom 23 = .ok (.getfield 18, 3) := by decide +kernel
theorem dX0_copyFrom_26 : decode cX0_copyFrom 26 = .ok (.aload_n 0, 1) := by decide +kernel
theorem dX0_copyFrom_27 : decode cX0_copyFrom 27 = .ok (.getfield 18, 3) := by decide +kernel
theorem dX0_copyFrom_30 : decode cX0_copyFrom 30 = .ok (.invokestatic 21, 3) := by decide +kernel
theorem dX0_copyFrom_33 : decode cX0_copyFrom 33 = .ok (.aload_n 0, 1) := by decide +kernel
theorem dX0_copyFrom_34 : decode cX0_copyFrom 34 = .ok (.aload_n 1, 1) := by decide +kernel
theorem dX0_copyFrom_35 : decode cX0_copyFrom 35 = .ok (.getfield 25, 3) := by decide +kernel
theorem dX0_copyFrom_38 : decode cX0_copyFrom 38 = .ok (.putfield 25, 3) := by decide +kernel
theorem dX0_copyFrom_41 : decode cX0_copyFrom 41 = .ok (.return_, 1) := by decide +kernel
theorem dX0_has_0 : decode cX0_has 0 = .ok (.iload_n 1, 1) := by decide +kernel
theorem dX0_has_1 : decode cX0_has 1 = .ok (.ifCond .lt 24, 3) := by decide +kernel
theorem dX0_has_4 : decode cX0_has 4 = .ok (.iload_n 1, 1) := by decide +kernel
theorem dX0_has_5 : decode cX0_has 5 = .ok (.bipush 10, 2) := by decide +kernel
theorem dX0_has_7 : decode cX0_has 7 = .ok (.if_icmp .ge 18, 3) := by decide +kernel
theorem dX0_has_10 : decode cX0_has 10 = .ok (.aload_n 0, 1) := by decide +kernel
theorem dX0_has_11 : decode cX0_has 11 = .ok (.getfield 25, 3) := by decide +kernel
theorem dX0_has_14 : decode cX0_has 14 = .ok (.iload_n 1, 1) := by decide +kernel
theorem dX0_has_15 : decode cX0_has 15 = .ok (.iushr, 1) := by decide +kernel
theorem dX0_has_16 : decode cX0_has 16 = .ok (.iconst 1, 1) := by decide +kernel
theorem dX0_has_17 : decode cX0_has 17 = .ok (.iand, 1) := by decide +kernel
theorem dX0_has_18 : decode cX0_has 18 = .ok (.ifCond .eq 7, 3) := by decide +kernel
theorem dX0_has_21 : decode cX0_has 21 = .ok (.iconst 1, 1) := by decide +kernel
theorem dX0_has_22 : decode cX0_has 22 = .ok (.goto 4, 3) := by decide +kernel
theorem dX0_has_25 : decode cX0_has 25 = .ok (.iconst 0, 1) := by decide +kernel
theorem dX0_has_26 : decode cX0_has 26 = .ok (.ireturn, 1) := by decide +kernel
theorem dX0_fact_0 : decode cX0_fact 0 = .ok (.iload_n 1, 1) := by decide +kernel
theorem dX0_fact_1 : decode cX0_fact 1 = .ok (.ifCond .lt 24, 3) := by decide +kernel
theorem dX0_fact_4 : decode cX0_fact 4 = .ok (.iload_n 1, 1) := by decide +kernel
theorem dX0_fact_5 : decode cX0_fact 5 = .ok (.bipush 10, 2) := by decide +kernel
theorem dX0_fact_7 : decode cX0_fact 7 = .ok (.if_icmp .ge 18, 3) := by decide +kernel
theorem dX0_fact_10 : decode cX0_fact 10 = .ok (.aload_n 0, 1) := by decide +kernel
theorem dX0_fact_11 : decode cX0_fact 11 = .ok (.getfield 25, 3) := by decide +kernel
theorem dX0_fact_14 : decode cX0_fact 14 = .ok (.iload_n 1, 1) := by decide +kernel
theorem dX0_fact_15 : decode cX0_fact 15 = .ok (.iushr, 1) := by decide +kernel
theorem dX0_fact_16 : decode cX0_fact 16 = .ok (.iconst 1, 1) := by decide +kernel
theorem dX0_fact_17 : decode cX0_fact 17 = .ok (.iand, 1) := by decide +kernel
theorem dX0_fact_18 : decode cX0_fact 18 = .ok (.ifCond .eq 7, 3) := by decide +kernel
theorem dX0_fact_21 : decode cX0_fact 21 = .ok (.iconst 1, 1) := by decide +kernel
theorem dX0_fact_22 : decode cX0_fact 22 = .ok (.goto 4, 3) := by decide +kernel
theorem dX0_fact_25 : decode cX0_fact 25 = .ok (.iconst 0, 1) := by decide +kernel
theorem dX0_fact_26 : decode cX0_fact 26 = .ok (.istore_n 3, 1) := by decide +kernel
theorem dX0_fact_27 : decode cX0_fact 27 = .ok (.iload_n 3, 1) := by decide +kernel
theorem dX0_fact_28 : decode cX0_fact 28 = .ok (.ifCond .eq 25, 3) := by decide +kernel
theorem dX0_fact_31 : decode cX0_fact 31 = .ok (.iload_n 2, 1) := by decide +kernel
theorem dX0_fact_32 : decode cX0_fact 32 = .ok (.ifCond .lt 21, 3) := by decide +kernel
theorem dX0_fact_35 : decode cX0_fact 35 = .ok (.iload_n 2, 1) := by decide +kernel
theorem dX0_fact_36 : decode cX0_fact 36 = .ok (.iconst 5, 1) := by decide +kernel
theorem dX0_fact_37 : decode cX0_fact 37 = .ok (.if_icmp .ge 16, 3) := by decide +kernel
theorem dX0_fact_40 : decode cX0_fact 40 = .ok (.aload_n 0, 1) := by decide +kernel
theorem dX0_fact_41 : decode cX0_fact 41 = .ok (.getfield 11, 3) := by decide +kernel
theorem dX0_fact_44 : decode cX0_fact 44 = .ok (.iload_n 1, 1) := by decide +kernel
theorem dX0_fact_45 : decode cX0_fact 45 = .ok (.iconst 5, 1) := by decide +kernel
theorem dX0_fact_46 : decode cX0_fact 46 = .ok (.imul, 1) := by decide +kernel
theorem dX0_fact_47 : decode cX0_fact 47 = .ok (.iload_n 2, 1) := by decide +kernel
theorem dX0_fact_48 : decode cX0_fact 48 = .ok (.iadd, 1) := by decide +kernel
theorem dX0_fact_49 : decode cX0_fact 49 = .ok (.iaload, 1) := by decide +kernel
theorem dX0_fact_50 : decode cX0_fact 50 = .ok (.goto 4, 3) := by decide +kernel
theorem dX0_fact_53 : decode cX0_fact 53 = .ok (.iconst 0, 1) := by decide +kernel
theorem dX0_fact_54 : decode cX0_fact 54 = .ok (.ireturn, 1) := by decide +kernel
theorem dX0_setFact_0 : decode cX0_setFact 0 = .ok (.iload_n 1, 1) := by decide +kernel
theorem dX0_setFact_1 : decode cX0_setFact 1 = .ok (.ifCond .lt 29, 3) := by decide +kernel
theorem dX0_setFact_4 : decode cX0_setFact 4 = .ok (.iload_n 1, 1) := by decide +kernel
theorem dX0_setFact_5 : decode cX0_setFact 5 = .ok (.bipush 10, 2) := by decide +kernel
theorem dX0_setFact_7 : decode cX0_setFact 7 = .ok (.if_icmp .ge 23, 3) := by decide +kernel
theorem dX0_setFact_10 : decode cX0_setFact 10 = .ok (.iload_n 2, 1) := by decide +kernel
theorem dX0_setFact_11 : decode cX0_setFact 11 = .ok (.ifCond .lt 19, 3) := by decide +kernel
theorem dX0_setFact_14 : decode cX0_setFact 14 = .ok (.iload_n 2, 1) := by decide +kernel
theorem dX0_setFact_15 : decode cX0_setFact 15 = .ok (.iconst 5, 1) := by decide +kernel
theorem dX0_setFact_16 : decode cX0_setFact 16 = .ok (.if_icmp .ge 14, 3) := by decide +kernel
theorem dX0_setFact_19 : decode cX0_setFact 19 = .ok (.aload_n 0, 1) := by decide +kernel
theorem dX0_setFact_20 : decode cX0_setFact 20 = .ok (.getfield 11, 3) := by decide +kernel
theorem dX0_setFact_23 : decode cX0_setFact 23 = .ok (.iload_n 1, 1) := by decide +kernel
theorem dX0_setFact_24 : decode cX0_setFact 24 = .ok (.iconst 5, 1) := by decide +kernel
theorem dX0_setFact_25 : decode cX0_setFact 25 = .ok (.imul, 1) := by decide +kernel
theorem dX0_setFact_26 : decode cX0_setFact 26 = .ok (.iload_n 2, 1) := by decide +kernel
theorem dX0_setFact_27 : decode cX0_setFact 27 = .ok (.iadd, 1) := by decide +kernel
theorem dX0_setFact_28 : decode cX0_setFact 28 = .ok (.iload_n 3, 1) := by decide +kernel
theorem dX0_setFact_29 : decode cX0_setFact 29 = .ok (.iastore, 1) := by decide +kernel
theorem dX0_setFact_30 : decode cX0_setFact 30 = .ok (.return_, 1) := by decide +kernel
theorem dX0_isHeld_0 : decode cX0_isHeld 0 = .ok (.aload_n 0, 1) := by decide +kernel
theorem dX0_isHeld_1 : decode cX0_isHeld 1 = .ok (.iload_n 1, 1) := by decide +kernel
theorem dX0_isHeld_2 : decode cX0_isHeld 2 = .ok (.iconst 3, 1) := by decide +kernel
theorem dX0_isHeld_3 : decode cX0_isHeld 3 = .ok (.invokevirtual 29, 3) := by decide +kernel
theorem dX0_isHeld_6 : decode cX0_isHeld 6 = .ok (.iconst 1, 1) := by decide +kernel
theorem dX0_isHeld_7 : decode cX0_isHeld 7 = .ok (.if_icmp .ne 7, 3) := by decide +kernel
theorem dX0_isHeld_10 : decode cX0_isHeld 10 = .ok (.iconst 1, 1) := by decide +kernel
theorem dX0_isHeld_11 : decode cX0_isHeld 11 = .ok (.goto 4, 3) := by decide +kernel
theorem dX0_isHeld_14 : decode cX0_isHeld 14 = .ok (.iconst 0, 1) := by decide +kernel
theorem dX0_isHeld_15 : decode cX0_isHeld 15 = .ok (.ireturn, 1) := by decide +kernel
theorem dX0_isShared_0 : decode cX0_isShared 0 = .ok (.aload_n 0, 1) := by decide +kernel
theorem dX0_isShared_1 : decode cX0_isShared 1 = .ok (.iload_n 1, 1) := by decide +kernel
theorem dX0_isShared_2 : decode cX0_isShared 2 = .ok (.iconst 4, 1) := by decide +kernel
theorem dX0_isShared_3 : decode cX0_isShared 3 = .ok (.invokevirtual 29, 3) := by decide +kernel
theorem dX0_isShared_6 : decode cX0_isShared 6 = .ok (.iconst 1, 1) := by decide +kernel
theorem dX0_isShared_7 : decode cX0_isShared 7 = .ok (.if_icmp .ne 7, 3) := by decide +kernel
theorem dX0_isShared_10 : decode cX0_isShared 10 = .ok (.iconst 1, 1) := by decide +kernel
theorem dX0_isShared_11 : decode cX0_isShared 11 = .ok (.goto 4, 3) := by decide +kernel
theorem dX0_isShared_14 : decode cX0_isShared 14 = .ok (.iconst 0, 1) := by decide +kernel
theorem dX0_isShared_15 : decode cX0_isShared 15 = .ok (.ireturn, 1) := by decide +kernel
theorem dX0_tops_0 : decode cX0_tops 0 = .ok (.iconst 0, 1) := by decide +kernel
theorem dX0_tops_1 : decode cX0_tops 1 = .ok (.istore_n 2, 1) := by decide +kernel
theorem dX0_tops_2 : decode cX0_tops 2 = .ok (.iconst 0, 1) := by decide +kernel
theorem dX0_tops_3 : decode cX0_tops 3 = .ok (.istore_n 3, 1) := by decide +kernel
theorem dX0_tops_4 : decode cX0_tops 4 = .ok (.iload_n 3, 1) := by decide +kernel
theorem dX0_tops_5 : decode cX0_tops 5 = .ok (.bipush 10, 2) := by decide +kernel
theorem dX0_tops_7 : decode cX0_tops 7 = .ok (.if_icmp .ge 40, 3) := by decide +kernel
theorem dX0_tops_10 : decode cX0_tops 10 = .ok (.aload_n 0, 1) := by decide +kernel
theorem dX0_tops_11 : decode cX0_tops 11 = .ok (.iload_n 3, 1) := by decide +kernel
theorem dX0_tops_12 : decode cX0_tops 12 = .ok (.invokevirtual 33, 3) := by decide +kernel
theorem dX0_tops_15 : decode cX0_tops 15 = .ok (.ifCond .eq 26, 3) := by decide +kernel
theorem dX0_tops_18 : decode cX0_tops 18 = .ok (.iload_n 1, 1) := by decide +kernel
theorem dX0_tops_19 : decode cX0_tops 19 = .ok (.ifCond .eq 11, 3) := by decide +kernel
theorem dX0_tops_22 : decode cX0_tops 22 = .ok (.aload_n 0, 1) := by decide +kernel
theorem dX0_tops_23 : decode cX0_tops 23 = .ok (.iload_n 3, 1) := by decide +kernel
theorem dX0_tops_24 : decode cX0_tops 24 = .ok (.invokevirtual 37, 3) := by decide +kernel
theorem dX0_tops_27 : decode cX0_tops 27 = .ok (.ifCond .eq 14, 3) := by decide +kernel
theorem dX0_tops_30 : decode cX0_tops 30 = .ok (.iload_n 2, 1) := by decide +kernel
theorem dX0_tops_31 : decode cX0_tops 31 = .ok (.iconst 1, 1) := by decide +kernel
theorem dX0_tops_32 : decode cX0_tops 32 = .ok (.aload_n 0, 1) := by decide +kernel
theorem dX0_tops_33 : decode cX0_tops 33 = .ok (.iload_n 3, 1) := by decide +kernel
theorem dX0_tops_34 : decode cX0_tops 34 = .ok (.iconst 1, 1) := by decide +kernel
theorem dX0_tops_35 : decode cX0_tops 35 = .ok (.invokevirtual 29, 3) := by decide +kernel
theorem dX0_tops_38 : decode cX0_tops 38 = .ok (.ishl, 1) := by decide +kernel
theorem dX0_tops_39 : decode cX0_tops 39 = .ok (.ior, 1) := by decide +kernel
theorem dX0_tops_40 : decode cX0_tops 40 = .ok (.istore_n 2, 1) := by decide +kernel
theorem dX0_tops_41 : decode cX0_tops 41 = .ok (.iinc 3 1, 3) := by decide +kernel
theorem dX0_tops_44 : decode cX0_tops 44 = .ok (.goto (-40), 3) := by decide +kernel
theorem dX0_tops_47 : decode cX0_tops 47 = .ok (.iload_n 2, 1) := by decide +kernel
theorem dX0_tops_48 : decode cX0_tops 48 = .ok (.ireturn, 1) := by decide +kernel
theorem dX0_countWithout_0 : decode cX0_countWithout 0 = .ok (.aload_n 0, 1) := by decide +kernel
theorem dX0_countWithout_1 : decode cX0_countWithout 1 = .ok (.getfield 25, 3) := by decide +kernel
theorem dX0_countWithout_4 : decode cX0_countWithout 4 = .ok (.iload_n 1, 1) := by decide +kernel
theorem dX0_countWithout_5 : decode cX0_countWithout 5 = .ok (.iconst (-1), 1) := by decide +kernel
theorem dX0_countWithout_6 : decode cX0_countWithout 6 = .ok (.ixor, 1) := by decide +kernel
theorem dX0_countWithout_7 : decode cX0_countWithout 7 = .ok (.iand, 1) := by decide +kernel
theorem dX0_countWithout_8 : decode cX0_countWithout 8 = .ok (.invokestatic 40, 3) := by decide +kernel
theorem dX0_countWithout_11 : decode cX0_countWithout 11 = .ok (.ireturn, 1) := by decide +kernel
theorem dX0_lowestFree_0 : decode cX0_lowestFree 0 = .ok (.iconst 0, 1) := by decide +kernel
theorem dX0_lowestFree_1 : decode cX0_lowestFree 1 = .ok (.istore_n 2, 1) := by decide +kernel
theorem dX0_lowestFree_2 : decode cX0_lowestFree 2 = .ok (.iload_n 2, 1) := by decide +kernel
theorem dX0_lowestFree_3 : decode cX0_lowestFree 3 = .ok (.bipush 10, 2) := by decide +kernel
theorem dX0_lowestFree_5 : decode cX0_lowestFree 5 = .ok (.if_icmp .ge 26, 3) := by decide +kernel
theorem dX0_lowestFree_8 : decode cX0_lowestFree 8 = .ok (.aload_n 0, 1) := by decide +kernel
theorem dX0_lowestFree_9 : decode cX0_lowestFree 9 = .ok (.getfield 25, 3) := by decide +kernel
theorem dX0_lowestFree_12 : decode cX0_lowestFree 12 = .ok (.iload_n 1, 1) := by decide +kernel
theorem dX0_lowestFree_13 : decode cX0_lowestFree 13 = .ok (.iconst (-1), 1) := by decide +kernel
theorem dX0_lowestFree_14 : decode cX0_lowestFree 14 = .ok (.ixor, 1) := by decide +kernel
theorem dX0_lowestFree_15 : decode cX0_lowestFree 15 = .ok (.iand, 1) := by decide +kernel
theorem dX0_lowestFree_16 : decode cX0_lowestFree 16 = .ok (.iload_n 2, 1) := by decide +kernel
theorem dX0_lowestFree_17 : decode cX0_lowestFree 17 = .ok (.invokestatic 46, 3) := by decide +kernel
theorem dX0_lowestFree_20 : decode cX0_lowestFree 20 = .ok (.ifCond .ne 5, 3) := by decide +kernel
theorem dX0_lowestFree_23 : decode cX0_lowestFree 23 = .ok (.iload_n 2, 1) := by decide +kernel
theorem dX0_lowestFree_24 : decode cX0_lowestFree 24 = .ok (.ireturn, 1) := by decide +kernel
theorem dX0_lowestFree_25 : decode cX0_lowestFree 25 = .ok (.iinc 2 1, 3) := by decide +kernel
theorem dX0_lowestFree_28 : decode cX0_lowestFree 28 = .ok (.goto (-26), 3) := by decide +kernel
theorem dX0_lowestFree_31 : decode cX0_lowestFree 31 = .ok (.iconst (-1), 1) := by decide +kernel
theorem dX0_lowestFree_32 : decode cX0_lowestFree 32 = .ok (.ireturn, 1) := by decide +kernel
theorem dX0_open_0 : decode cX0_open 0 = .ok (.iload_n 1, 1) := by decide +kernel
theorem dX0_open_1 : decode cX0_open 1 = .ok (.iconst 0, 1) := by decide +kernel
theorem dX0_open_2 : decode cX0_open 2 = .ok (.bipush 9, 2) := by decide +kernel
theorem dX0_open_4 : decode cX0_open 4 = .ok (.invokestatic 50, 3) := by decide +kernel
theorem dX0_open_7 : decode cX0_open 7 = .ok (.ifCond .ne 4, 3) := by decide +kernel
theorem dX0_open_10 : decode cX0_open 10 = .ok (.return_, 1) := by decide +kernel
theorem dX0_open_11 : decode cX0_open 11 = .ok (.aload_n 0, 1) := by decide +kernel
theorem dX0_open_12 : decode cX0_open 12 = .ok (.dup, 1) := by decide +kernel
theorem dX0_open_13 : decode cX0_open 13 = .ok (.getfield 25, 3) := by decide +kernel
theorem dX0_open_16 : decode cX0_open 16 = .ok (.iconst 1, 1) := by decide +kernel
theorem dX0_open_17 : decode cX0_open 17 = .ok (.iload_n 1, 1) := by decide +kernel
theorem dX0_open_18 : decode cX0_open 18 = .ok (.ishl, 1) := by decide +kernel
theorem dX0_open_19 : decode cX0_open 19 = .ok (.ior, 1) := by decide +kernel
theorem dX0_open_20 : decode cX0_open 20 = .ok (.putfield 25, 3) := by decide +kernel
theorem dX0_open_23 : decode cX0_open 23 = .ok (.aload_n 0, 1) := by decide +kernel
theorem dX0_open_24 : decode cX0_open 24 = .ok (.iload_n 1, 1) := by decide +kernel
theorem dX0_open_25 : decode cX0_open 25 = .ok (.iconst 0, 1) := by decide +kernel
theorem dX0_open_26 : decode cX0_open 26 = .ok (.iload_n 2, 1) := by decide +kernel
theorem dX0_open_27 : decode cX0_open 27 = .ok (.invokevirtual 54, 3) := by decide +kernel
theorem dX0_open_30 : decode cX0_open 30 = .ok (.aload_n 0, 1) := by decide +kernel
theorem dX0_open_31 : decode cX0_open 31 = .ok (.iload_n 1, 1) := by decide +kernel
theorem dX0_open_32 : decode cX0_open 32 = .ok (.iconst 1, 1) := by decide +kernel
theorem dX0_open_33 : decode cX0_open 33 = .ok (.iload_n 3, 1) := by decide +kernel
theorem dX0_open_34 : decode cX0_open 34 = .ok (.invokevirtual 54, 3) := by decide +kernel
theorem dX0_open_37 : decode cX0_open 37 = .ok (.aload_n 0, 1) := by decide +kernel
theorem dX0_open_38 : decode cX0_open 38 = .ok (.iload_n 1, 1) := by decide +kernel
theorem dX0_open_39 : decode cX0_open 39 = .ok (.iconst 2, 1) := by decide +kernel
theorem dX0_open_40 : decode cX0_open 40 = .ok (.iload 4, 2) := by decide +kernel
theorem dX0_open_42 : decode cX0_open 42 = .ok (.invokevirtual 54, 3) := by decide +kernel
theorem dX0_open_45 : decode cX0_open 45 = .ok (.aload_n 0, 1) := by decide +kernel
theorem dX0_open_46 : decode cX0_open 46 = .ok (.iload_n 1, 1) := by decide +kernel
theorem dX0_open_47 : decode cX0_open 47 = .ok (.iconst 3, 1) := by decide +kernel
theorem dX0_open_48 : decode cX0_open 48 = .ok (.iconst 1, 1) := by decide +kernel
theorem dX0_open_49 : decode cX0_open 49 = .ok (.invokevirtual 54, 3) := by decide +kernel
theorem dX0_open_52 : decode cX0_open 52 = .ok (.aload_n 0, 1) := by decide +kernel
theorem dX0_open_53 : decode cX0_open 53 = .ok (.iload_n 1, 1) := by decide +kernel
theorem dX0_open_54 : decode cX0_open 54 = .ok (.iconst 4, 1) := by decide +kernel
theorem dX0_open_55 : decode cX0_open 55 = .ok (.iload 5, 2) := by decide +kernel
theorem dX0_open_57 : decode cX0_open 57 = .ok (.invokevirtual 54, 3) := by decide +kernel
theorem dX0_open_60 : decode cX0_open 60 = .ok (.return_, 1) := by decide +kernel
theorem dX0_setExpiry_0 : decode cX0_setExpiry 0 = .ok (.aload_n 0, 1) := by decide +kernel
theorem dX0_setExpiry_1 : decode cX0_setExpiry 1 = .ok (.iload_n 1, 1) := by decide +kernel
theorem dX0_setExpiry_2 : decode cX0_setExpiry 2 = .ok (.iconst 2, 1) := by decide +kernel
theorem dX0_setExpiry_3 : decode cX0_setExpiry 3 = .ok (.iload_n 2, 1) := by decide +kernel
theorem dX0_setExpiry_4 : decode cX0_setExpiry 4 = .ok (.invokevirtual 54, 3) := by decide +kernel
theorem dX0_setExpiry_7 : decode cX0_setExpiry 7 = .ok (.return_, 1) := by decide +kernel
theorem dX0_close_0 : decode cX0_close 0 = .ok (.aload_n 0, 1) := by decide +kernel
theorem dX0_close_1 : decode cX0_close 1 = .ok (.iload_n 1, 1) := by decide +kernel
theorem dX0_close_2 : decode cX0_close 2 = .ok (.invokevirtual 33, 3) := by decide +kernel
theorem dX0_close_5 : decode cX0_close 5 = .ok (.ifCond .eq 17, 3) := by decide +kernel
theorem dX0_close_8 : decode cX0_close 8 = .ok (.aload_n 0, 1) := by decide +kernel
theorem dX0_close_9 : decode cX0_close 9 = .ok (.dup, 1) := by decide +kernel
theorem dX0_close_10 : decode cX0_close 10 = .ok (.getfield 25, 3) := by decide +kernel
theorem dX0_close_13 : decode cX0_close 13 = .ok (.iconst 1, 1) := by decide +kernel
theorem dX0_close_14 : decode cX0_close 14 = .ok (.iload_n 1, 1) := by decide +kernel
theorem dX0_close_15 : decode cX0_close 15 = .ok (.ishl, 1) := by decide +kernel
theorem dX0_close_16 : decode cX0_close 16 = .ok (.iconst (-1), 1) := by decide +kernel
theorem dX0_close_17 : decode cX0_close 17 = .ok (.ixor, 1) := by decide +kernel
theorem dX0_close_18 : decode cX0_close 18 = .ok (.iand, 1) := by decide +kernel
theorem dX0_close_19 : decode cX0_close 19 = .ok (.putfield 25, 3) := by decide +kernel
theorem dX0_close_22 : decode cX0_close 22 = .ok (.return_, 1) := by decide +kernel
theorem dX0_closeAll_0 : decode cX0_closeAll 0 = .ok (.aload_n 0, 1) := by decide +kernel
theorem dX0_closeAll_1 : decode cX0_closeAll 1 = .ok (.dup, 1) := by decide +kernel
theorem dX0_closeAll_2 : decode cX0_closeAll 2 = .ok (.getfield 25, 3) := by decide +kernel
theorem dX0_closeAll_5 : decode cX0_closeAll 5 = .ok (.iload_n 1, 1) := by decide +kernel
theorem dX0_closeAll_6 : decode cX0_closeAll 6 = .ok (.iconst (-1), 1) := by decide +kernel
theorem dX0_closeAll_7 : decode cX0_closeAll 7 = .ok (.ixor, 1) := by decide +kernel
theorem dX0_closeAll_8 : decode cX0_closeAll 8 = .ok (.iand, 1) := by decide +kernel
theorem dX0_closeAll_9 : decode cX0_closeAll 9 = .ok (.putfield 25, 3) := by decide +kernel
theorem dX0_closeAll_12 : decode cX0_closeAll 12 = .ok (.return_, 1) := by decide +kernel
theorem dX0_lose_0 : decode cX0_lose 0 = .ok (.aload_n 0, 1) := by decide +kernel
theorem dX0_lose_1 : decode cX0_lose 1 = .ok (.iload_n 1, 1) := by decide +kernel
theorem dX0_lose_2 : decode cX0_lose 2 = .ok (.invokevirtual 58, 3) := by decide +kernel
theorem dX0_lose_5 : decode cX0_lose 5 = .ok (.ifCond .eq 11, 3) := by decide +kernel
theorem dX0_lose_8 : decode cX0_lose 8 = .ok (.aload_n 0, 1) := by decide +kernel
theorem dX0_lose_9 : decode cX0_lose 9 = .ok (.iload_n 1, 1) := by decide +kernel
theorem dX0_lose_10 : decode cX0_lose 10 = .ok (.invokevirtual 61, 3) := by decide +kernel
theorem dX0_lose_13 : decode cX0_lose 13 = .ok (.goto 10, 3) := by decide +kernel
theorem dX0_lose_16 : decode cX0_lose 16 = .ok (.aload_n 0, 1) := by decide +kernel
theorem dX0_lose_17 : decode cX0_lose 17 = .ok (.iload_n 1, 1) := by decide +kernel
theorem dX0_lose_18 : decode cX0_lose 18 = .ok (.iconst 3, 1) := by decide +kernel
theorem dX0_lose_19 : decode cX0_lose 19 = .ok (.iconst 0, 1) := by decide +kernel
theorem dX0_lose_20 : decode cX0_lose 20 = .ok (.invokevirtual 54, 3) := by decide +kernel
theorem dX0_lose_23 : decode cX0_lose 23 = .ok (.return_, 1) := by decide +kernel
theorem dX0_baseAt_0 : decode cX0_baseAt 0 = .ok (.iload_n 1, 1) := by decide +kernel
theorem dX0_baseAt_1 : decode cX0_baseAt 1 = .ok (.ifCond .lt 23, 3) := by decide +kernel
theorem dX0_baseAt_4 : decode cX0_baseAt 4 = .ok (.iload_n 1, 1) := by decide +kernel
theorem dX0_baseAt_5 : decode cX0_baseAt 5 = .ok (.bipush 10, 2) := by decide +kernel
theorem dX0_baseAt_7 : decode cX0_baseAt 7 = .ok (.if_icmp .ge 17, 3) := by decide +kernel
theorem dX0_baseAt_10 : decode cX0_baseAt 10 = .ok (.iload_n 2, 1) := by decide +kernel
theorem dX0_baseAt_11 : decode cX0_baseAt 11 = .ok (.ifCond .lt 13, 3) := by decide +kernel
theorem dX0_baseAt_14 : decode cX0_baseAt 14 = .ok (.iload_n 2, 1) := by decide +kernel
theorem dX0_baseAt_15 : decode cX0_baseAt 15 = .ok (.bipush 120, 2) := by decide +kernel
theorem dX0_baseAt_17 : decode cX0_baseAt 17 = .ok (.if_icmp .ge 7, 3) := by decide +kernel
theorem dX0_baseAt_20 : decode cX0_baseAt 20 = .ok (.iconst 1, 1) := by decide +kernel
theorem dX0_baseAt_21 : decode cX0_baseAt 21 = .ok (.goto 4, 3) := by decide +kernel
theorem dX0_baseAt_24 : decode cX0_baseAt 24 = .ok (.iconst 0, 1) := by decide +kernel
theorem dX0_baseAt_25 : decode cX0_baseAt 25 = .ok (.istore_n 3, 1) := by decide +kernel
theorem dX0_baseAt_26 : decode cX0_baseAt 26 = .ok (.iload_n 3, 1) := by decide +kernel
theorem dX0_baseAt_27 : decode cX0_baseAt 27 = .ok (.ifCond .eq 17, 3) := by decide +kernel
theorem dX0_baseAt_30 : decode cX0_baseAt 30 = .ok (.aload_n 0, 1) := by decide +kernel
theorem dX0_baseAt_31 : decode cX0_baseAt 31 = .ok (.getfield 15, 3) := by decide +kernel
theorem dX0_baseAt_34 : decode cX0_baseAt 34 = .ok (.iload_n 1, 1) := by decide +kernel
theorem dX0_baseAt_35 : decode cX0_baseAt 35 = .ok (.bipush 120, 2) := by decide +kernel
theorem dX0_baseAt_37 : decode cX0_baseAt 37 = .ok (.imul, 1) := by decide +kernel
theorem dX0_baseAt_38 : decode cX0_baseAt 38 = .ok (.iload_n 2, 1) := by decide +kernel
theorem dX0_baseAt_39 : decode cX0_baseAt 39 = .ok (.iadd, 1) := by decide +kernel
theorem dX0_baseAt_40 : decode cX0_baseAt 40 = .ok (.iaload, 1) := by decide +kernel
theorem dX0_baseAt_41 : decode cX0_baseAt 41 = .ok (.goto 4, 3) := by decide +kernel
theorem dX0_baseAt_44 : decode cX0_baseAt 44 = .ok (.iconst 0, 1) := by decide +kernel
theorem dX0_baseAt_45 : decode cX0_baseAt 45 = .ok (.ireturn, 1) := by decide +kernel
theorem dX0_ownAt_0 : decode cX0_ownAt 0 = .ok (.iload_n 1, 1) := by decide +kernel
theorem dX0_ownAt_1 : decode cX0_ownAt 1 = .ok (.ifCond .lt 23, 3) := by decide +kernel
theorem dX0_ownAt_4 : decode cX0_ownAt 4 = .ok (.iload_n 1, 1) := by decide +kernel
theorem dX0_ownAt_5 : decode cX0_ownAt 5 = .ok (.bipush 10, 2) := by decide +kernel
theorem dX0_ownAt_7 : decode cX0_ownAt 7 = .ok (.if_icmp .ge 17, 3) := by decide +kernel
theorem dX0_ownAt_10 : decode cX0_ownAt 10 = .ok (.iload_n 2, 1) := by decide +kernel
theorem dX0_ownAt_11 : decode cX0_ownAt 11 = .ok (.ifCond .lt 13, 3) := by decide +kernel
theorem dX0_ownAt_14 : decode cX0_ownAt 14 = .ok (.iload_n 2, 1) := by decide +kernel
theorem dX0_ownAt_15 : decode cX0_ownAt 15 = .ok (.bipush 120, 2) := by decide +kernel
theorem dX0_ownAt_17 : decode cX0_ownAt 17 = .ok (.if_icmp .ge 7, 3) := by decide +kernel
theorem dX0_ownAt_20 : decode cX0_ownAt 20 = .ok (.iconst 1, 1) := by decide +kernel
theorem dX0_ownAt_21 : decode cX0_ownAt 21 = .ok (.goto 4, 3) := by decide +kernel
theorem dX0_ownAt_24 : decode cX0_ownAt 24 = .ok (.iconst 0, 1) := by decide +kernel
theorem dX0_ownAt_25 : decode cX0_ownAt 25 = .ok (.istore_n 3, 1) := by decide +kernel
theorem dX0_ownAt_26 : decode cX0_ownAt 26 = .ok (.iload_n 3, 1) := by decide +kernel
theorem dX0_ownAt_27 : decode cX0_ownAt 27 = .ok (.ifCond .eq 17, 3) := by decide +kernel
theorem dX0_ownAt_30 : decode cX0_ownAt 30 = .ok (.aload_n 0, 1) := by decide +kernel
theorem dX0_ownAt_31 : decode cX0_ownAt 31 = .ok (.getfield 18, 3) := by decide +kernel
theorem dX0_ownAt_34 : decode cX0_ownAt 34 = .ok (.iload_n 1, 1) := by decide +kernel
theorem dX0_ownAt_35 : decode cX0_ownAt 35 = .ok (.bipush 120, 2) := by decide +kernel
theorem dX0_ownAt_37 : decode cX0_ownAt 37 = .ok (.imul, 1) := by decide +kernel
theorem dX0_ownAt_38 : decode cX0_ownAt 38 = .ok (.iload_n 2, 1) := by decide +kernel
theorem dX0_ownAt_39 : decode cX0_ownAt 39 = .ok (.iadd, 1) := by decide +kernel
theorem dX0_ownAt_40 : decode cX0_ownAt 40 = .ok (.iaload, 1) := by decide +kernel
theorem dX0_ownAt_41 : decode cX0_ownAt 41 = .ok (.goto 4, 3) := by decide +kernel
theorem dX0_ownAt_44 : decode cX0_ownAt 44 = .ok (.iconst 0, 1) := by decide +kernel
theorem dX0_ownAt_45 : decode cX0_ownAt 45 = .ok (.ireturn, 1) := by decide +kernel
theorem dX0_setOwn_0 : decode cX0_setOwn 0 = .ok (.iload_n 1, 1) := by decide +kernel
theorem dX0_setOwn_1 : decode cX0_setOwn 1 = .ok (.ifCond .lt 31, 3) := by decide +kernel
theorem dX0_setOwn_4 : decode cX0_setOwn 4 = .ok (.iload_n 1, 1) := by decide +kernel
theorem dX0_setOwn_5 : decode cX0_setOwn 5 = .ok (.bipush 10, 2) := by decide +kernel
theorem dX0_setOwn_7 : decode cX0_setOwn 7 = .ok (.if_icmp .ge 25, 3) := by decide +kernel
theorem dX0_setOwn_10 : decode cX0_setOwn 10 = .ok (.iload_n 2, 1) := by decide +kernel
theorem dX0_setOwn_11 : decode cX0_setOwn 11 = .ok (.ifCond .lt 21, 3) := by decide +kernel
theorem dX0_setOwn_14 : decode cX0_setOwn 14 = .ok (.iload_n 2, 1) := by decide +kernel
theorem dX0_setOwn_15 : decode cX0_setOwn 15 = .ok (.bipush 120, 2) := by decide +kernel
theorem dX0_setOwn_17 : decode cX0_setOwn 17 = .ok (.if_icmp .ge 15, 3) := by decide +kernel
theorem dX0_setOwn_20 : decode cX0_setOwn 20 = .ok (.aload_n 0, 1) := by decide +kernel
theorem dX0_setOwn_21 : decode cX0_setOwn 21 = .ok (.getfield 18, 3) := by decide +kernel
theorem dX0_setOwn_24 : decode cX0_setOwn 24 = .ok (.iload_n 1, 1) := by decide +kernel
theorem dX0_setOwn_25 : decode cX0_setOwn 25 = .ok (.bipush 120, 2) := by decide +kernel
theorem dX0_setOwn_27 : decode cX0_setOwn 27 = .ok (.imul, 1) := by decide +kernel
theorem dX0_setOwn_28 : decode cX0_setOwn 28 = .ok (.iload_n 2, 1) := by decide +kernel
theorem dX0_setOwn_29 : decode cX0_setOwn 29 = .ok (.iadd, 1) := by decide +kernel
theorem dX0_setOwn_30 : decode cX0_setOwn 30 = .ok (.iload_n 3, 1) := by decide +kernel
theorem dX0_setOwn_31 : decode cX0_setOwn 31 = .ok (.iastore, 1) := by decide +kernel
theorem dX0_setOwn_32 : decode cX0_setOwn 32 = .ok (.return_, 1) := by decide +kernel
theorem dX0_setBase_0 : decode cX0_setBase 0 = .ok (.iload_n 1, 1) := by decide +kernel
theorem dX0_setBase_1 : decode cX0_setBase 1 = .ok (.ifCond .lt 31, 3) := by decide +kernel
theorem dX0_setBase_4 : decode cX0_setBase 4 = .ok (.iload_n 1, 1) := by decide +kernel
theorem dX0_setBase_5 : decode cX0_setBase 5 = .ok (.bipush 10, 2) := by decide +kernel
theorem dX0_setBase_7 : decode cX0_setBase 7 = .ok (.if_icmp .ge 25, 3) := by decide +kernel
theorem dX0_setBase_10 : decode cX0_setBase 10 = .ok (.iload_n 2, 1) := by decide +kernel
theorem dX0_setBase_11 : decode cX0_setBase 11 = .ok (.ifCond .lt 21, 3) := by decide +kernel
theorem dX0_setBase_14 : decode cX0_setBase 14 = .ok (.iload_n 2, 1) := by decide +kernel
theorem dX0_setBase_15 : decode cX0_setBase 15 = .ok (.bipush 120, 2) := by decide +kernel
theorem dX0_setBase_17 : decode cX0_setBase 17 = .ok (.if_icmp .ge 15, 3) := by decide +kernel
theorem dX0_setBase_20 : decode cX0_setBase 20 = .ok (.aload_n 0, 1) := by decide +kernel
theorem dX0_setBase_21 : decode cX0_setBase 21 = .ok (.getfield 15, 3) := by decide +kernel
theorem dX0_setBase_24 : decode cX0_setBase 24 = .ok (.iload_n 1, 1) := by decide +kernel
theorem dX0_setBase_25 : decode cX0_setBase 25 = .ok (.bipush 120, 2) := by decide +kernel
theorem dX0_setBase_27 : decode cX0_setBase 27 = .ok (.imul, 1) := by decide +kernel
theorem dX0_setBase_28 : decode cX0_setBase 28 = .ok (.iload_n 2, 1) := by decide +kernel
theorem dX0_setBase_29 : decode cX0_setBase 29 = .ok (.iadd, 1) := by decide +kernel
theorem dX0_setBase_30 : decode cX0_setBase 30 = .ok (.iload_n 3, 1) := by decide +kernel
theorem dX0_setBase_31 : decode cX0_setBase 31 = .ok (.iastore, 1) := by decide +kernel
theorem dX0_setBase_32 : decode cX0_setBase 32 = .ok (.return_, 1) := by decide +kernel
theorem dX0_copyDocument_0 : decode cX0_copyDocument 0 = .ok (.iconst 0, 1) := by decide +kernel
theorem dX0_copyDocument_1 : decode cX0_copyDocument 1 = .ok (.istore 4, 2) := by decide +kernel
theorem dX0_copyDocument_3 : decode cX0_copyDocument 3 = .ok (.iload 4, 2) := by decide +kernel
theorem dX0_copyDocument_5 : decode cX0_copyDocument 5 = .ok (.bipush 120, 2) := by decide +kernel
theorem dX0_copyDocument_7 : decode cX0_copyDocument 7 = .ok (.if_icmp .ge 47, 3) := by decide +kernel
theorem dX0_copyDocument_10 : decode cX0_copyDocument 10 = .ok (.iload_n 2, 1) := by decide +kernel
theorem dX0_copyDocument_11 : decode cX0_copyDocument 11 = .ok (.iload 4, 2) := by decide +kernel
theorem dX0_copyDocument_13 : decode cX0_copyDocument 13 = .ok (.bipush 6, 2) := by decide +kernel
theorem dX0_copyDocument_15 : decode cX0_copyDocument 15 = .ok (.idiv, 1) := by decide +kernel
theorem dX0_copyDocument_16 : decode cX0_copyDocument 16 = .ok (.invokestatic 46, 3) := by decide +kernel
theorem dX0_copyDocument_19 : decode cX0_copyDocument 19 = .ok (.ifCond .eq 29, 3) := by decide +kernel
theorem dX0_copyDocument_22 : decode cX0_copyDocument 22 = .ok (.aload_n 0, 1) := by decide +kernel
theorem dX0_copyDocument_23 : decode cX0_copyDocument 23 = .ok (.iload_n 1, 1) := by decide +kernel
theorem dX0_copyDocument_24 : decode cX0_copyDocument 24 = .ok (.iload 4, 2) := by decide +kernel
theorem dX0_copyDocument_26 : decode cX0_copyDocument 26 = .ok (.aload_n 3, 1) := by decide +kernel
theorem dX0_copyDocument_27 : decode cX0_copyDocument 27 = .ok (.iload 4, 2) := by decide +kernel
theorem dX0_copyDocument_29 : decode cX0_copyDocument 29 = .ok (.invokevirtual 65, 3) := by decide +kernel
theorem dX0_copyDocument_32 : decode cX0_copyDocument 32 = .ok (.invokevirtual 70, 3) := by decide +kernel
theorem dX0_copyDocument_35 : decode cX0_copyDocument 35 = .ok (.aload_n 0, 1) := by decide +kernel
theorem dX0_copyDocument_36 : decode cX0_copyDocument 36 = .ok (.iload_n 1, 1) := by decide +kernel
theorem dX0_copyDocument_37 : decode cX0_copyDocument 37 = .ok (.iload 4, 2) := by decide +kernel
theorem dX0_copyDocument_39 : decode cX0_copyDocument 39 = .ok (.aload_n 3, 1) := by decide +kernel
theorem dX0_copyDocument_40 : decode cX0_copyDocument 40 = .ok (.iload 4, 2) := by decide +kernel
theorem dX0_copyDocument_42 : decode cX0_copyDocument 42 = .ok (.invokevirtual 65, 3) := by decide +kernel
theorem dX0_copyDocument_45 : decode cX0_copyDocument 45 = .ok (.invokevirtual 73, 3) := by decide +kernel
theorem dX0_copyDocument_48 : decode cX0_copyDocument 48 = .ok (.iinc 4 1, 3) := by decide +kernel
theorem dX0_copyDocument_51 : decode cX0_copyDocument 51 = .ok (.goto (-48), 3) := by decide +kernel
theorem dX0_copyDocument_54 : decode cX0_copyDocument 54 = .ok (.return_, 1) := by decide +kernel
theorem dX0_copyOther_0 : decode cX0_copyOther 0 = .ok (.iconst 0, 1) := by decide +kernel
theorem dX0_copyOther_1 : decode cX0_copyOther 1 = .ok (.istore 4, 2) := by decide +kernel
theorem dX0_copyOther_3 : decode cX0_copyOther 3 = .ok (.iload 4, 2) := by decide +kernel
theorem dX0_copyOther_5 : decode cX0_copyOther 5 = .ok (.bipush 120, 2) := by decide +kernel
theorem dX0_copyOther_7 : decode cX0_copyOther 7 = .ok (.if_icmp .ge 49, 3) := by decide +kernel
theorem dX0_copyOther_10 : decode cX0_copyOther 10 = .ok (.iload_n 2, 1) := by decide +kernel
theorem dX0_copyOther_11 : decode cX0_copyOther 11 = .ok (.iload 4, 2) := by decide +kernel
theorem dX0_copyOther_13 : decode cX0_copyOther 13 = .ok (.bipush 6, 2) := by decide +kernel
theorem dX0_copyOther_15 : decode cX0_copyOther 15 = .ok (.idiv, 1) := by decide +kernel
theorem dX0_copyOther_16 : decode cX0_copyOther 16 = .ok (.invokestatic 46, 3) := by decide +kernel
theorem dX0_copyOther_19 : decode cX0_copyOther 19 = .ok (.ifCond .eq 31, 3) := by decide +kernel
theorem dX0_copyOther_22 : decode cX0_copyOther 22 = .ok (.aload_n 0, 1) := by decide +kernel
theorem dX0_copyOther_23 : decode cX0_copyOther 23 = .ok (.iload_n 1, 1) := by decide +kernel
theorem dX0_copyOther_24 : decode cX0_copyOther 24 = .ok (.iload 4, 2) := by decide +kernel
theorem dX0_copyOther_26 : decode cX0_copyOther 26 = .ok (.aload_n 0, 1) := by decide +kernel
theorem dX0_copyOther_27 : decode cX0_copyOther 27 = .ok (.iload_n 3, 1) := by decide +kernel
theorem dX0_copyOther_28 : decode cX0_copyOther 28 = .ok (.iload 4, 2) := by decide +kernel
theorem dX0_copyOther_30 : decode cX0_copyOther 30 = .ok (.invokevirtual 76, 3) := by decide +kernel
theorem dX0_copyOther_33 : decode cX0_copyOther 33 = .ok (.invokevirtual 70, 3) := by decide +kernel
theorem dX0_copyOther_36 : decode cX0_copyOther 36 = .ok (.aload_n 0, 1) := by decide +kernel
theorem dX0_copyOther_37 : decode cX0_copyOther 37 = .ok (.iload_n 1, 1) := by decide +kernel
theorem dX0_copyOther_38 : decode cX0_copyOther 38 = .ok (.iload 4, 2) := by decide +kernel
theorem dX0_copyOther_40 : decode cX0_copyOther 40 = .ok (.aload_n 0, 1) := by decide +kernel
theorem dX0_copyOther_41 : decode cX0_copyOther 41 = .ok (.iload_n 3, 1) := by decide +kernel
theorem dX0_copyOther_42 : decode cX0_copyOther 42 = .ok (.iload 4, 2) := by decide +kernel
theorem dX0_copyOther_44 : decode cX0_copyOther 44 = .ok (.invokevirtual 79, 3) := by decide +kernel
theorem dX0_copyOther_47 : decode cX0_copyOther 47 = .ok (.invokevirtual 73, 3) := by decide +kernel
theorem dX0_copyOther_50 : decode cX0_copyOther 50 = .ok (.iinc 4 1, 3) := by decide +kernel
theorem dX0_copyOther_53 : decode cX0_copyOther 53 = .ok (.goto (-50), 3) := by decide +kernel
theorem dX0_copyOther_56 : decode cX0_copyOther 56 = .ok (.return_, 1) := by decide +kernel
theorem dX1_init_0 : decode cX1_init 0 = .ok (.aload_n 0, 1) := by decide +kernel
theorem dX1_init_1 : decode cX1_init 1 = .ok (.invokespecial 3, 3) := by decide +kernel
theorem dX1_init_4 : decode cX1_init 4 = .ok (.aload_n 0, 1) := by decide +kernel
theorem dX1_init_5 : decode cX1_init 5 = .ok (.new 9, 3) := by decide +kernel
theorem dX1_init_8 : decode cX1_init 8 = .ok (.dup, 1) := by decide +kernel
theorem dX1_init_9 : decode cX1_init 9 = .ok (.invokespecial 11, 3) := by decide +kernel
theorem dX1_init_12 : decode cX1_init 12 = .ok (.putfield 12, 3) := by decide +kernel
theorem dX1_init_15 : decode cX1_init 15 = .ok (.aload_n 0, 1) := by decide +kernel
theorem dX1_init_16 : decode cX1_init 16 = .ok (.new 18, 3) := by decide +kernel
theorem dX1_init_19 : decode cX1_init 19 = .ok (.dup, 1) := by decide +kernel
theorem dX1_init_20 : decode cX1_init 20 = .ok (.invokespecial 20, 3) := by decide +kernel
theorem dX1_init_23 : decode cX1_init 23 = .ok (.putfield 21, 3) := by decide +kernel
theorem dX1_init_26 : decode cX1_init 26 = .ok (.aload_n 0, 1) := by decide +kernel
theorem dX1_init_27 : decode cX1_init 27 = .ok (.new 25, 3) := by decide +kernel
theorem dX1_init_30 : decode cX1_init 30 = .ok (.dup, 1) := by decide +kernel
theorem dX1_init_31 : decode cX1_init 31 = .ok (.invokespecial 27, 3) := by decide +kernel
theorem dX1_init_34 : decode cX1_init 34 = .ok (.putfield 28, 3) := by decide +kernel
theorem dX1_init_37 : decode cX1_init 37 = .ok (.aload_n 0, 1) := by decide +kernel
theorem dX1_init_38 : decode cX1_init 38 = .ok (.new 32, 3) := by decide +kernel
theorem dX1_init_41 : decode cX1_init 41 = .ok (.dup, 1) := by decide +kernel
theorem dX1_init_42 : decode cX1_init 42 = .ok (.invokespecial 34, 3) := by decide +kernel
theorem dX1_init_45 : decode cX1_init 45 = .ok (.putfield 35, 3) := by decide +kernel
theorem dX1_init_48 : decode cX1_init 48 = .ok (.aload_n 0, 1) := by decide +kernel
theorem dX1_init_49 : decode cX1_init 49 = .ok (.bipush 6, 2) := by decide +kernel
theorem dX1_init_51 : decode cX1_init 51 = .ok (.newarray .int, 2) := by decide +kernel
theorem dX1_init_53 : decode cX1_init 53 = .ok (.putfield 39, 3) := by decide +kernel
theorem dX1_init_56 : decode cX1_init 56 = .ok (.aload_n 0, 1) := by decide +kernel
theorem dX1_init_57 : decode cX1_init 57 = .ok (.bipush 120, 2) := by decide +kernel
theorem dX1_init_59 : decode cX1_init 59 = .ok (.newarray .int, 2) := by decide +kernel
theorem dX1_init_61 : decode cX1_init 61 = .ok (.putfield 43, 3) := by decide +kernel
theorem dX1_init_64 : decode cX1_init 64 = .ok (.return_, 1) := by decide +kernel
theorem dX1_copyFrom_0 : decode cX1_copyFrom 0 = .ok (.aload_n 0, 1) := by decide +kernel
theorem dX1_copyFrom_1 : decode cX1_copyFrom 1 = .ok (.getfield 12, 3) := by decide +kernel
theorem dX1_copyFrom_4 : decode cX1_copyFrom 4 = .ok (.aload_n 1, 1) := by decide +kernel
theorem dX1_copyFrom_5 : decode cX1_copyFrom 5 = .ok (.getfield 12, 3) := by decide +kernel
theorem dX1_copyFrom_8 : decode cX1_copyFrom 8 = .ok (.invokevirtual 46, 3) := by decide +kernel
theorem dX1_copyFrom_11 : decode cX1_copyFrom 11 = .ok (.aload_n 0, 1) := by decide +kernel
theorem dX1_copyFrom_12 : decode cX1_copyFrom 12 = .ok (.getfield 21, 3) := by decide +kernel
theorem dX1_copyFrom_15 : decode cX1_copyFrom 15 = .ok (.aload_n 1, 1) := by decide +kernel
theorem dX1_copyFrom_16 : decode cX1_copyFrom 16 = .ok (.getfield 21, 3) := by decide +kernel
theorem dX1_copyFrom_19 : decode cX1_copyFrom 19 = .ok (.invokevirtual 50, 3) := by decide +kernel
theorem dX1_copyFrom_22 : decode cX1_copyFrom 22 = .ok (.aload_n 0, 1) := by decide +kernel
theorem dX1_copyFrom_23 : decode cX1_copyFrom 23 = .ok (.getfield 28, 3) := by decide +kernel
theorem dX1_copyFrom_26 : decode cX1_copyFrom 26 = .ok (.aload_n 1, 1) := by decide +kernel
theorem dX1_copyFrom_27 : decode cX1_copyFrom 27 = .ok (.getfield 28, 3) := by decide +kernel
theorem dX1_copyFrom_30 : decode cX1_copyFrom 30 = .ok (.invokevirtual 53, 3) := by decide +kernel
theorem dX1_copyFrom_33 : decode cX1_copyFrom 33 = .ok (.aload_n 0, 1) := by decide +kernel
theorem dX1_copyFrom_34 : decode cX1_copyFrom 34 = .ok (.getfield 35, 3) := by decide +kernel
theorem dX1_copyFrom_37 : decode cX1_copyFrom 37 = .ok (.aload_n 1, 1) := by decide +kernel
theorem dX1_copyFrom_38 : decode cX1_copyFrom 38 = .ok (.getfield 35, 3) := by decide +kernel
theorem dX1_copyFrom_41 : decode cX1_copyFrom 41 = .ok (.invokevirtual 56, 3) := by decide +kernel
theorem dX1_copyFrom_44 : decode cX1_copyFrom 44 = .ok (.aload_n 1, 1) := by decide +kernel
theorem dX1_copyFrom_45 : decode cX1_copyFrom 45 = .ok (.getfield 39, 3) := by decide +kernel
theorem dX1_copyFrom_48 : decode cX1_copyFrom 48 = .ok (.aload_n 0, 1) := by decide +kernel
theorem dX1_copyFrom_49 : decode cX1_copyFrom 49 = .ok (.getfield 39, 3) := by decide +kernel
theorem dX1_copyFrom_52 : decode cX1_copyFrom 52 = .ok (.invokestatic 59, 3) := by decide +kernel
theorem dX1_copyFrom_55 : decode cX1_copyFrom 55 = .ok (.aload_n 0, 1) := by decide +kernel
theorem dX1_copyFrom_56 : decode cX1_copyFrom 56 = .ok (.aload_n 1, 1) := by decide +kernel
theorem dX1_copyFrom_57 : decode cX1_copyFrom 57 = .ok (.getfield 63, 3) := by decide +kernel
theorem dX1_copyFrom_60 : decode cX1_copyFrom 60 = .ok (.putfield 63, 3) := by decide +kernel
theorem dX1_copyFrom_63 : decode cX1_copyFrom 63 = .ok (.return_, 1) := by decide +kernel
theorem dX1_claims_0 : decode cX1_claims 0 = .ok (.aload_n 0, 1) := by decide +kernel
theorem dX1_claims_1 : decode cX1_claims 1 = .ok (.getfield 21, 3) := by decide +kernel
theorem dX1_claims_4 : decode cX1_claims 4 = .ok (.iconst 0, 1) := by decide +kernel
theorem dX1_claims_5 : decode cX1_claims 5 = .ok (.invokevirtual 67, 3) := by decide +kernel
theorem dX1_claims_8 : decode cX1_claims 8 = .ok (.aload_n 0, 1) := by decide +kernel
theorem dX1_claims_9 : decode cX1_claims 9 = .ok (.getfield 28, 3) := by decide +kernel
theorem dX1_claims_12 : decode cX1_claims 12 = .ok (.invokevirtual 71, 3) := by decide +kernel
theorem dX1_claims_15 : decode cX1_claims 15 = .ok (.ior, 1) := by decide +kernel
theorem dX1_claims_16 : decode cX1_claims 16 = .ok (.ireturn, 1) := by decide +kernel
theorem dX1_isCovered_0 : decode cX1_isCovered 0 = .ok (.aload_n 0, 1) := by decide +kernel
theorem dX1_isCovered_1 : decode cX1_isCovered 1 = .ok (.invokevirtual 74, 3) := by decide +kernel
theorem dX1_isCovered_4 : decode cX1_isCovered 4 = .ok (.aload_n 0, 1) := by decide +kernel
theorem dX1_isCovered_5 : decode cX1_isCovered 5 = .ok (.getfield 12, 3) := by decide +kernel
theorem dX1_isCovered_8 : decode cX1_isCovered 8 = .ok (.iload_n 1, 1) := by decide +kernel
theorem dX1_isCovered_9 : decode cX1_isCovered 9 = .ok (.invokevirtual 77, 3) := by decide +kernel
theorem dX1_isCovered_12 : decode cX1_isCovered 12 = .ok (.iand, 1) := by decide +kernel
theorem dX1_isCovered_13 : decode cX1_isCovered 13 = .ok (.ifCond .eq 7, 3) := by decide +kernel
theorem dX1_isCovered_16 : decode cX1_isCovered 16 = .ok (.iconst 1, 1) := by decide +kernel
theorem dX1_isCovered_17 : decode cX1_isCovered 17 = .ok (.goto 4, 3) := by decide +kernel
theorem dX1_isCovered_20 : decode cX1_isCovered 20 = .ok (.iconst 0, 1) := by decide +kernel
theorem dX1_isCovered_21 : decode cX1_isCovered 21 = .ok (.ireturn, 1) := by decide +kernel
theorem dX1_isTouched_0 : decode cX1_isTouched 0 = .ok (.aload_n 0, 1) := by decide +kernel
theorem dX1_isTouched_1 : decode cX1_isTouched 1 = .ok (.invokevirtual 74, 3) := by decide +kernel
theorem dX1_isTouched_4 : decode cX1_isTouched 4 = .ok (.aload_n 0, 1) := by decide +kernel
theorem dX1_isTouched_5 : decode cX1_isTouched 5 = .ok (.getfield 12, 3) := by decide +kernel
theorem dX1_isTouched_8 : decode cX1_isTouched 8 = .ok (.iload_n 1, 1) := by decide +kernel
theorem dX1_isTouched_9 : decode cX1_isTouched 9 = .ok (.invokevirtual 81, 3) := by decide +kernel
theorem dX1_isTouched_12 : decode cX1_isTouched 12 = .ok (.iand, 1) := by decide +kernel
theorem dX1_isTouched_13 : decode cX1_isTouched 13 = .ok (.ifCond .eq 7, 3) := by decide +kernel
theorem dX1_isTouched_16 : decode cX1_isTouched 16 = .ok (.iconst 1, 1) := by decide +kernel
theorem dX1_isTouched_17 : decode cX1_isTouched 17 = .ok (.goto 4, 3) := by decide +kernel
theorem dX1_isTouched_20 : decode cX1_isTouched 20 = .ok (.iconst 0, 1) := by decide +kernel
theorem dX1_isTouched_21 : decode cX1_isTouched 21 = .ok (.ireturn, 1) := by decide +kernel
theorem dX1_isHeldAround_0 : decode cX1_isHeldAround 0 = .ok (.aload_n 0, 1) := by decide +kernel
theorem dX1_isHeldAround_1 : decode cX1_isHeldAround 1 = .ok (.getfield 21, 3) := by decide +kernel
theorem dX1_isHeldAround_4 : decode cX1_isHeldAround 4 = .ok (.iconst 1, 1) := by decide +kernel
theorem dX1_isHeldAround_5 : decode cX1_isHeldAround 5 = .ok (.invokevirtual 67, 3) := by decide +kernel
theorem dX1_isHeldAround_8 : decode cX1_isHeldAround 8 = .ok (.aload_n 0, 1) := by decide +kernel
theorem dX1_isHeldAround_9 : decode cX1_isHeldAround 9 = .ok (.getfield 12, 3) := by decide +kernel
theorem dX1_isHeldAround_12 : decode cX1_isHeldAround 12 = .ok (.iload_n 1, 1) := by decide +kernel
theorem dX1_isHeldAround_13 : decode cX1_isHeldAround 13 = .ok (.invokevirtual 81, 3) := by decide +kernel
theorem dX1_isHeldAround_16 : decode cX1_isHeldAround 16 = .ok (.iand, 1) := by decide +kernel
theorem dX1_isHeldAround_17 : decode cX1_isHeldAround 17 = .ok (.ifCond .eq 7, 3) := by decide +kernel
theorem dX1_isHeldAround_20 : decode cX1_isHeldAround 20 = .ok (.iconst 1, 1) := by decide +kernel
theorem dX1_isHeldAround_21 : decode cX1_isHeldAround 21 = .ok (.goto 4, 3) := by decide +kernel
theorem dX1_isHeldAround_24 : decode cX1_isHeldAround 24 = .ok (.iconst 0, 1) := by decide +kernel
theorem dX1_isHeldAround_25 : decode cX1_isHeldAround 25 = .ok (.ireturn, 1) := by decide +kernel
theorem dX1_addFault_0 : decode cX1_addFault 0 = .ok (.aload_n 0, 1) := by decide +kernel
theorem dX1_addFault_1 : decode cX1_addFault 1 = .ok (.getfield 12, 3) := by decide +kernel
theorem dX1_addFault_4 : decode cX1_addFault 4 = .ok (.iload_n 1, 1) := by decide +kernel
theorem dX1_addFault_5 : decode cX1_addFault 5 = .ok (.invokevirtual 84, 3) := by decide +kernel
theorem dX1_addFault_8 : decode cX1_addFault 8 = .ok (.iconst 1, 1) := by decide +kernel
theorem dX1_addFault_9 : decode cX1_addFault 9 = .ok (.aload_n 0, 1) := by decide +kernel
theorem dX1_addFault_10 : decode cX1_addFault 10 = .ok (.getfield 12, 3) := by decide +kernel
theorem dX1_addFault_13 : decode cX1_addFault 13 = .ok (.getfield 88, 3) := by decide +kernel
theorem dX1_addFault_16 : decode cX1_addFault 16 = .ok (.bipush 20, 2) := by decide +kernel
theorem dX1_addFault_18 : decode cX1_addFault 18 = .ok (.if_icmp .ge 15, 3) := by decide +kernel
theorem dX1_addFault_21 : decode cX1_addFault 21 = .ok (.aload_n 0, 1) := by decide +kernel
theorem dX1_addFault_22 : decode cX1_addFault 22 = .ok (.iload_n 1, 1) := by decide +kernel
theorem dX1_addFault_23 : decode cX1_addFault 23 = .ok (.invokevirtual 91, 3) := by decide +kernel
theorem dX1_addFault_26 : decode cX1_addFault 26 = .ok (.ifCond .ne 7, 3) := by decide +kernel
theorem dX1_addFault_29 : decode cX1_addFault 29 = .ok (.iconst 1, 1) := by decide +kernel
theorem dX1_addFault_30 : decode cX1_addFault 30 = .ok (.goto 4, 3) := by decide +kernel
theorem dX1_addFault_33 : decode cX1_addFault 33 = .ok (.iconst 0, 1) := by decide +kernel
theorem dX1_addFault_34 : decode cX1_addFault 34 = .ok (.invokestatic 94, 3) := by decide +kernel
theorem dX1_addFault_37 : decode cX1_addFault 37 = .ok (.ireturn, 1) := by decide +kernel
theorem dX1_removeFault_0 : decode cX1_removeFault 0 = .ok (.aload_n 0, 1) := by decide +kernel
theorem dX1_removeFault_1 : decode cX1_removeFault 1 = .ok (.getfield 12, 3) := by decide +kernel
theorem dX1_removeFault_4 : decode cX1_removeFault 4 = .ok (.iload_n 1, 1) := by decide +kernel
theorem dX1_removeFault_5 : decode cX1_removeFault 5 = .ok (.invokevirtual 84, 3) := by decide +kernel
theorem dX1_removeFault_8 : decode cX1_removeFault 8 = .ok (.iload_n 1, 1) := by decide +kernel
theorem dX1_removeFault_9 : decode cX1_removeFault 9 = .ok (.ifCond .eq 7, 3) := by decide +kernel
theorem dX1_removeFault_12 : decode cX1_removeFault 12 = .ok (.iconst 1, 1) := by decide +kernel
theorem dX1_removeFault_13 : decode cX1_removeFault 13 = .ok (.goto 4, 3) := by decide +kernel
theorem dX1_removeFault_16 : decode cX1_removeFault 16 = .ok (.iconst 0, 1) := by decide +kernel
theorem dX1_removeFault_17 : decode cX1_removeFault 17 = .ok (.aload_n 0, 1) := by decide +kernel
theorem dX1_removeFault_18 : decode cX1_removeFault 18 = .ok (.iload_n 1, 1) := by decide +kernel
theorem dX1_removeFault_19 : decode cX1_removeFault 19 = .ok (.invokevirtual 98, 3) := by decide +kernel
theorem dX1_removeFault_22 : decode cX1_removeFault 22 = .ok (.ifCond .ne 7, 3) := by decide +kernel
theorem dX1_removeFault_25 : decode cX1_removeFault 25 = .ok (.iconst 1, 1) := by decide +kernel
theorem dX1_removeFault_26 : decode cX1_removeFault 26 = .ok (.goto 4, 3) := by decide +kernel
theorem dX1_removeFault_29 : decode cX1_removeFault 29 = .ok (.iconst 0, 1) := by decide +kernel
theorem dX1_removeFault_30 : decode cX1_removeFault 30 = .ok (.invokestatic 94, 3) := by decide +kernel
theorem dX1_removeFault_33 : decode cX1_removeFault 33 = .ok (.ireturn, 1) := by decide +kernel
theorem dX1_removeNow_0 : decode cX1_removeNow 0 = .ok (.aload_n 0, 1) := by decide +kernel
theorem dX1_removeNow_1 : decode cX1_removeNow 1 = .ok (.getfield 12, 3) := by decide +kernel
theorem dX1_removeNow_4 : decode cX1_removeNow 4 = .ok (.iload_n 1, 1) := by decide +kernel
theorem dX1_removeNow_5 : decode cX1_removeNow 5 = .ok (.invokevirtual 101, 3) := by decide +kernel
theorem dX1_removeNow_8 : decode cX1_removeNow 8 = .ok (.istore_n 2, 1) := by decide +kernel
theorem dX1_removeNow_9 : decode cX1_removeNow 9 = .ok (.aload_n 0, 1) := by decide +kernel
theorem dX1_removeNow_10 : decode cX1_removeNow 10 = .ok (.getfield 35, 3) := by decide +kernel
theorem dX1_removeNow_13 : decode cX1_removeNow 13 = .ok (.iload_n 2, 1) := by decide +kernel
theorem dX1_removeNow_14 : decode cX1_removeNow 14 = .ok (.invokevirtual 104, 3) := by decide +kernel
theorem dX1_removeNow_17 : decode cX1_removeNow 17 = .ok (.aload_n 0, 1) := by decide +kernel
theorem dX1_removeNow_18 : decode cX1_removeNow 18 = .ok (.getfield 12, 3) := by decide +kernel
theorem dX1_removeNow_21 : decode cX1_removeNow 21 = .ok (.iload_n 2, 1) := by decide +kernel
theorem dX1_removeNow_22 : decode cX1_removeNow 22 = .ok (.invokevirtual 108, 3) := by decide +kernel
theorem dX1_removeNow_25 : decode cX1_removeNow 25 = .ok (.iload_n 2, 1) := by decide +kernel
theorem dX1_removeNow_26 : decode cX1_removeNow 26 = .ok (.invokestatic 111, 3) := by decide +kernel
theorem dX1_removeNow_29 : decode cX1_removeNow 29 = .ok (.ireturn, 1) := by decide +kernel
theorem dX1_moveFault_0 : decode cX1_moveFault 0 = .ok (.aload_n 0, 1) := by decide +kernel
theorem dX1_moveFault_1 : decode cX1_moveFault 1 = .ok (.getfield 12, 3) := by decide +kernel
theorem dX1_moveFault_4 : decode cX1_moveFault 4 = .ok (.iload_n 1, 1) := by decide +kernel
theorem dX1_moveFault_5 : decode cX1_moveFault 5 = .ok (.invokevirtual 84, 3) := by decide +kernel
theorem dX1_moveFault_8 : decode cX1_moveFault 8 = .ok (.ifCond .eq 18, 3) := by decide +kernel
theorem dX1_moveFault_11 : decode cX1_moveFault 11 = .ok (.aload_n 0, 1) := by decide +kernel
theorem dX1_moveFault_12 : decode cX1_moveFault 12 = .ok (.getfield 12, 3) := by decide +kernel
theorem dX1_moveFault_15 : decode cX1_moveFault 15 = .ok (.iload_n 2, 1) := by decide +kernel
theorem dX1_moveFault_16 : decode cX1_moveFault 16 = .ok (.invokevirtual 84, 3) := by decide +kernel
theorem dX1_moveFault_19 : decode cX1_moveFault 19 = .ok (.ifCond .eq 7, 3) := by decide +kernel
theorem dX1_moveFault_22 : decode cX1_moveFault 22 = .ok (.iconst 1, 1) := by decide +kernel
theorem dX1_moveFault_23 : decode cX1_moveFault 23 = .ok (.goto 4, 3) := by decide +kernel
theorem dX1_moveFault_26 : decode cX1_moveFault 26 = .ok (.iconst 0, 1) := by decide +kernel
theorem dX1_moveFault_27 : decode cX1_moveFault 27 = .ok (.istore_n 3, 1) := by decide +kernel
theorem dX1_moveFault_28 : decode cX1_moveFault 28 = .ok (.iload_n 1, 1) := by decide +kernel
theorem dX1_moveFault_29 : decode cX1_moveFault 29 = .ok (.ifCond .eq 19, 3) := by decide +kernel
theorem dX1_moveFault_32 : decode cX1_moveFault 32 = .ok (.aload_n 0, 1) := by decide +kernel
theorem dX1_moveFault_33 : decode cX1_moveFault 33 = .ok (.getfield 12, 3) := by decide +kernel
theorem dX1_moveFault_36 : decode cX1_moveFault 36 = .ok (.iload_n 1, 1) := by decide +kernel
theorem dX1_moveFault_37 : decode cX1_moveFault 37 = .ok (.iload_n 2, 1) := by decide +kernel
theorem dX1_moveFault_38 : decode cX1_moveFault 38 = .ok (.invokevirtual 116, 3) := by decide +kernel
theorem dX1_moveFault_41 : decode cX1_moveFault 41 = .ok (.ifCond .ne 7, 3) := by decide +kernel
theorem dX1_moveFault_44 : decode cX1_moveFault 44 = .ok (.iconst 1, 1) := by decide +kernel
theorem dX1_moveFault_45 : decode cX1_moveFault 45 = .ok (.goto 4, 3) := by decide +kernel
theorem dX1_moveFault_48 : decode cX1_moveFault 48 = .ok (.iconst 0, 1) := by decide +kernel
theorem dX1_moveFault_49 : decode cX1_moveFault 49 = .ok (.istore 4, 2) := by decide +kernel
theorem dX1_moveFault_51 : decode cX1_moveFault 51 = .ok (.iload_n 3, 1) := by decide +kernel
theorem dX1_moveFault_52 : decode cX1_moveFault 52 = .ok (.iload 4, 2) := by decide +kernel
theorem dX1_moveFault_54 : decode cX1_moveFault 54 = .ok (.aload_n 0, 1) := by decide +kernel
theorem dX1_moveFault_55 : decode cX1_moveFault 55 = .ok (.iload_n 1, 1) := by decide +kernel
theorem dX1_moveFault_56 : decode cX1_moveFault 56 = .ok (.invokevirtual 98, 3) := by decide +kernel
theorem dX1_moveFault_59 : decode cX1_moveFault 59 = .ok (.ifCond .ne 15, 3) := by decide +kernel
theorem dX1_moveFault_62 : decode cX1_moveFault 62 = .ok (.aload_n 0, 1) := by decide +kernel
theorem dX1_moveFault_63 : decode cX1_moveFault 63 = .ok (.iload_n 2, 1) := by decide +kernel
theorem dX1_moveFault_64 : decode cX1_moveFault 64 = .ok (.invokevirtual 91, 3) := by decide +kernel
theorem dX1_moveFault_67 : decode cX1_moveFault 67 = .ok (.ifCond .ne 7, 3) := by decide +kernel
theorem dX1_moveFault_70 : decode cX1_moveFault 70 = .ok (.iconst 1, 1) := by decide +kernel
theorem dX1_moveFault_71 : decode cX1_moveFault 71 = .ok (.goto 4, 3) := by decide +kernel
theorem dX1_moveFault_74 : decode cX1_moveFault 74 = .ok (.iconst 0, 1) := by decide +kernel
theorem dX1_moveFault_75 : decode cX1_moveFault 75 = .ok (.invokestatic 94, 3) := by decide +kernel
theorem dX1_moveFault_78 : decode cX1_moveFault 78 = .ok (.ireturn, 1) := by decide +kernel
theorem dX1_hasLine_0 : decode cX1_hasLine 0 = .ok (.aload_n 0, 1) := by decide +kernel
theorem dX1_hasLine_1 : decode cX1_hasLine 1 = .ok (.getfield 12, 3) := by decide +kernel
theorem dX1_hasLine_4 : decode cX1_hasLine 4 = .ok (.iload_n 1, 1) := by decide +kernel
theorem dX1_hasLine_5 : decode cX1_hasLine 5 = .ok (.invokevirtual 84, 3) := by decide +kernel
theorem dX1_hasLine_8 : decode cX1_hasLine 8 = .ok (.ifCond .eq 14, 3) := by decide +kernel
theorem dX1_hasLine_11 : decode cX1_hasLine 11 = .ok (.iload_n 2, 1) := by decide +kernel
theorem dX1_hasLine_12 : decode cX1_hasLine 12 = .ok (.invokestatic 120, 3) := by decide +kernel
theorem dX1_hasLine_15 : decode cX1_hasLine 15 = .ok (.ifCond .eq 7, 3) := by decide +kernel
theorem dX1_hasLine_18 : decode cX1_hasLine 18 = .ok (.iconst 1, 1) := by decide +kernel
theorem dX1_hasLine_19 : decode cX1_hasLine 19 = .ok (.goto 4, 3) := by decide +kernel
theorem dX1_hasLine_22 : decode cX1_hasLine 22 = .ok (.iconst 0, 1) := by decide +kernel
theorem dX1_hasLine_23 : decode cX1_hasLine 23 = .ok (.ireturn, 1) := by decide +kernel
theorem dX1_writeFault_0 : decode cX1_writeFault 0 = .ok (.aload_n 0, 1) := by decide +kernel
theorem dX1_writeFault_1 : decode cX1_writeFault 1 = .ok (.getfield 21, 3) := by decide +kernel
theorem dX1_writeFault_4 : decode cX1_writeFault 4 = .ok (.iconst 1, 1) := by decide +kernel
theorem dX1_writeFault_5 : decode cX1_writeFault 5 = .ok (.invokevirtual 67, 3) := by decide +kernel
theorem dX1_writeFault_8 : decode cX1_writeFault 8 = .ok (.aload_n 0, 1) := by decide +kernel
theorem dX1_writeFault_9 : decode cX1_writeFault 9 = .ok (.getfield 12, 3) := by decide +kernel
theorem dX1_writeFault_12 : decode cX1_writeFault 12 = .ok (.iload_n 1, 1) := by decide +kernel
theorem dX1_writeFault_13 : decode cX1_writeFault 13 = .ok (.invokevirtual 77, 3) := by decide +kernel
theorem dX1_writeFault_16 : decode cX1_writeFault 16 = .ok (.iand, 1) := by decide +kernel
theorem dX1_writeFault_17 : decode cX1_writeFault 17 = .ok (.ifCond .eq 7, 3) := by decide +kernel
theorem dX1_writeFault_20 : decode cX1_writeFault 20 = .ok (.iconst 1, 1) := by decide +kernel
theorem dX1_writeFault_21 : decode cX1_writeFault 21 = .ok (.goto 4, 3) := by decide +kernel
theorem dX1_writeFault_24 : decode cX1_writeFault 24 = .ok (.iconst 0, 1) := by decide +kernel
theorem dX1_writeFault_25 : decode cX1_writeFault 25 = .ok (.istore 4, 2) := by decide +kernel
theorem dX1_writeFault_27 : decode cX1_writeFault 27 = .ok (.aload_n 0, 1) := by decide +kernel
theorem dX1_writeFault_28 : decode cX1_writeFault 28 = .ok (.iload_n 1, 1) := by decide +kernel
theorem dX1_writeFault_29 : decode cX1_writeFault 29 = .ok (.iload_n 2, 1) := by decide +kernel
theorem dX1_writeFault_30 : decode cX1_writeFault 30 = .ok (.invokevirtual 123, 3) := by decide +kernel
theorem dX1_writeFault_33 : decode cX1_writeFault 33 = .ok (.iload_n 3, 1) := by decide +kernel
theorem dX1_writeFault_34 : decode cX1_writeFault 34 = .ok (.iconst 0, 1) := by decide +kernel
theorem dX1_writeFault_35 : decode cX1_writeFault 35 = .ok (.sipush 999, 3) := by decide +kernel
theorem dX1_writeFault_38 : decode cX1_writeFault 38 = .ok (.invokestatic 126, 3) := by decide +kernel
theorem dX1_writeFault_41 : decode cX1_writeFault 41 = .ok (.iload 4, 2) := by decide +kernel
theorem dX1_writeFault_43 : decode cX1_writeFault 43 = .ok (.ifCond .ne 7, 3) := by decide +kernel
theorem dX1_writeFault_46 : decode cX1_writeFault 46 = .ok (.iconst 1, 1) := by decide +kernel
theorem dX1_writeFault_47 : decode cX1_writeFault 47 = .ok (.goto 4, 3) := by decide +kernel
theorem dX1_writeFault_50 : decode cX1_writeFault 50 = .ok (.iconst 0, 1) := by decide +kernel
theorem dX1_writeFault_51 : decode cX1_writeFault 51 = .ok (.invokestatic 94, 3) := by decide +kernel
theorem dX1_writeFault_54 : decode cX1_writeFault 54 = .ok (.ireturn, 1) := by decide +kernel
theorem dX1_writeNow_0 : decode cX1_writeNow 0 = .ok (.iload_n 1, 1) := by decide +kernel
theorem dX1_writeNow_1 : decode cX1_writeNow 1 = .ok (.iload_n 2, 1) := by decide +kernel
theorem dX1_writeNow_2 : decode cX1_writeNow 2 = .ok (.invokestatic 130, 3) := by decide +kernel
theorem dX1_writeNow_5 : decode cX1_writeNow 5 = .ok (.istore 4, 2) := by decide +kernel
theorem dX1_writeNow_7 : decode cX1_writeNow 7 = .ok (.aload_n 0, 1) := by decide +kernel
theorem dX1_writeNow_8 : decode cX1_writeNow 8 = .ok (.getfield 12, 3) := by decide +kernel
theorem dX1_writeNow_11 : decode cX1_writeNow 11 = .ok (.iload 4, 2) := by decide +kernel
theorem dX1_writeNow_13 : decode cX1_writeNow 13 = .ok (.invokevirtual 134, 3) := by decide +kernel
theorem dX1_writeNow_16 : decode cX1_writeNow 16 = .ok (.istore 5, 2) := by decide +kernel
theorem dX1_writeNow_18 : decode cX1_writeNow 18 = .ok (.aload_n 0, 1) := by decide +kernel
theorem dX1_writeNow_19 : decode cX1_writeNow 19 = .ok (.invokevirtual 137, 3) := by decide +kernel
theorem dX1_writeNow_22 : decode cX1_writeNow 22 = .ok (.aload_n 0, 1) := by decide +kernel
theorem dX1_writeNow_23 : decode cX1_writeNow 23 = .ok (.iload 4, 2) := by decide +kernel
theorem dX1_writeNow_25 : decode cX1_writeNow 25 = .ok (.iload_n 3, 1) := by decide +kernel
theorem dX1_writeNow_26 : decode cX1_writeNow 26 = .ok (.invokevirtual 140, 3) := by decide +kernel
theorem dX1_writeNow_29 : decode cX1_writeNow 29 = .ok (.aload_n 0, 1) := by decide +kernel
theorem dX1_writeNow_30 : decode cX1_writeNow 30 = .ok (.iconst (-1), 1) := by decide +kernel
theorem dX1_writeNow_31 : decode cX1_writeNow 31 = .ok (.invokevirtual 144, 3) := by decide +kernel
theorem dX1_writeNow_34 : decode cX1_writeNow 34 = .ok (.pop, 1) := by decide +kernel
theorem dX1_writeNow_35 : decode cX1_writeNow 35 = .ok (.iload 5, 2) := by decide +kernel
theorem dX1_writeNow_37 : decode cX1_writeNow 37 = .ok (.ireturn, 1) := by decide +kernel
theorem dX1_wantPresent_0 : decode cX1_wantPresent 0 = .ok (.aload_n 0, 1) := by decide +kernel
theorem dX1_wantPresent_1 : decode cX1_wantPresent 1 = .ok (.getfield 12, 3) := by decide +kernel
theorem dX1_wantPresent_4 : decode cX1_wantPresent 4 = .ok (.getfield 147, 3) := by decide +kernel
theorem dX1_wantPresent_7 : decode cX1_wantPresent 7 = .ok (.aload_n 0, 1) := by decide +kernel
theorem dX1_wantPresent_8 : decode cX1_wantPresent 8 = .ok (.getfield 43, 3) := by decide +kernel
theorem dX1_wantPresent_11 : decode cX1_wantPresent 11 = .ok (.invokestatic 59, 3) := by decide +kernel
theorem dX1_wantPresent_14 : decode cX1_wantPresent 14 = .ok (.return_, 1) := by decide +kernel
theorem dX1_want_0 : decode cX1_want 0 = .ok (.iload_n 1, 1) := by decide +kernel
theorem dX1_want_1 : decode cX1_want 1 = .ok (.invokestatic 150, 3) := by decide +kernel
theorem dX1_want_4 : decode cX1_want 4 = .ok (.ifCond .eq 10, 3) := by decide +kernel
theorem dX1_want_7 : decode cX1_want 7 = .ok (.aload_n 0, 1) := by decide +kernel
theorem dX1_want_8 : decode cX1_want 8 = .ok (.getfield 43, 3) := by decide +kernel
theorem dX1_want_11 : decode cX1_want 11 = .ok (.iload_n 1, 1) := by decide +kernel
theorem dX1_want_12 : decode cX1_want 12 = .ok (.iload_n 2, 1) := by decide +kernel
theorem dX1_want_13 : decode cX1_want 13 = .ok (.iastore, 1) := by decide +kernel
theorem dX1_want_14 : decode cX1_want 14 = .ok (.return_, 1) := by decide +kernel
theorem dX1_changeToWanted_0 : decode cX1_changeToWanted 0 = .ok (.iconst 0, 1) := by decide +kernel
theorem dX1_changeToWanted_1 : decode cX1_changeToWanted 1 = .ok (.istore_n 2, 1) := by decide +kernel
theorem dX1_changeToWanted_2 : decode cX1_changeToWanted 2 = .ok (.iconst 0, 1) := by decide +kernel
theorem dX1_changeToWanted_3 : decode cX1_changeToWanted 3 = .ok (.istore_n 3, 1) := by decide +kernel
theorem dX1_changeToWanted_4 : decode cX1_changeToWanted 4 = .ok (.iload_n 3, 1) := by decide +kernel
theorem dX1_changeToWanted_5 : decode cX1_changeToWanted 5 = .ok (.bipush 20, 2) := by decide +kernel
theorem dX1_changeToWanted_7 : decode cX1_changeToWanted 7 = .ok (.if_icmp .ge 56, 3) := by decide +kernel
theorem dX1_changeToWanted_10 : decode cX1_changeToWanted 10 = .ok (.iload_n 2, 1) := by decide +kernel
theorem dX1_changeToWanted_11 : decode cX1_changeToWanted 11 = .ok (.istore 4, 2) := by decide +kernel
theorem dX1_changeToWanted_13 : decode cX1_changeToWanted 13 = .ok (.iconst 0, 1) := by decide +kernel
theorem dX1_changeToWanted_14 : decode cX1_changeToWanted 14 = .ok (.istore 5, 2) := by decide +kernel
theorem dX1_changeToWanted_16 : decode cX1_changeToWanted 16 = .ok (.iload 5, 2) := by decide +kernel
theorem dX1_changeToWanted_18 : decode cX1_changeToWanted 18 = .ok (.bipush 6, 2) := by decide +kernel
theorem dX1_changeToWanted_20 : decode cX1_changeToWanted 20 = .ok (.if_icmp .ge 23, 3) := by decide +kernel
theorem dX1_changeToWanted_23 : decode cX1_changeToWanted 23 = .ok (.iload_n 2, 1) := by decide +kernel
theorem dX1_changeToWanted_24 : decode cX1_changeToWanted 24 = .ok (.aload_n 0, 1) := by decide +kernel
theorem dX1_changeToWanted_25 : decode cX1_changeToWanted 25 = .ok (.iload_n 3, 1) := by decide +kernel
theorem dX1_changeToWanted_26 : decode cX1_changeToWanted 26 = .ok (.iload 5, 2) := by decide +kernel
theorem dX1_changeToWanted_28 : decode cX1_changeToWanted 28 = .ok (.invokestatic 130, 3) := by decide +kernel
theorem dX1_changeToWanted_31 : decode cX1_changeToWanted 31 = .ok (.iload_n 1, 1) := by decide +kernel
theorem dX1_changeToWanted_32 : decode cX1_changeToWanted 32 = .ok (.invokevirtual 153, 3) := by decide +kernel
theorem dX1_changeToWanted_35 : decode cX1_changeToWanted 35 = .ok (.iadd, 1) := by decide +kernel
theorem dX1_changeToWanted_36 : decode cX1_changeToWanted 36 = .ok (.istore_n 2, 1) := by decide +kernel
theorem dX1_changeToWanted_37 : decode cX1_changeToWanted 37 = .ok (.iinc 5 1, 3) := by decide +kernel
theorem dX1_changeToWanted_40 : decode cX1_changeToWanted 40 = .ok (.goto (-24), 3) := by decide +kernel
theorem dX1_changeToWanted_43 : decode cX1_changeToWanted 43 = .ok (.iload_n 2, 1) := by decide +kernel
theorem dX1_changeToWanted_44 : decode cX1_changeToWanted 44 = .ok (.iload 4, 2) := by decide +kernel
theorem dX1_changeToWanted_46 : decode cX1_changeToWanted 46 = .ok (.if_icmp .le 11, 3) := by decide +kernel
theorem dX1_changeToWanted_49 : decode cX1_changeToWanted 49 = .ok (.aload_n 0, 1) := by decide +kernel
theorem dX1_changeToWanted_50 : decode cX1_changeToWanted 50 = .ok (.getfield 12, 3) := by decide +kernel
theorem dX1_changeToWanted_53 : decode cX1_changeToWanted 53 = .ok (.iload_n 3, 1) := by decide +kernel
theorem dX1_changeToWanted_54 : decode cX1_changeToWanted 54 = .ok (.invokevirtual 156, 3) := by decide +kernel
theorem dX1_changeToWanted_57 : decode cX1_changeToWanted 57 = .ok (.iinc 3 1, 3) := by decide +kernel
theorem dX1_changeToWanted_60 : decode cX1_changeToWanted 60 = .ok (.goto (-56), 3) := by decide +kernel
theorem dX1_changeToWanted_63 : decode cX1_changeToWanted 63 = .ok (.iload_n 2, 1) := by decide +kernel
theorem dX1_changeToWanted_64 : decode cX1_changeToWanted 64 = .ok (.ireturn, 1) := by decide +kernel
theorem dX1_changeCell_0 : decode cX1_changeCell 0 = .ok (.iload_n 1, 1) := by decide +kernel
theorem dX1_changeCell_1 : decode cX1_changeCell 1 = .ok (.invokestatic 150, 3) := by decide +kernel
theorem dX1_changeCell_4 : decode cX1_changeCell 4 = .ok (.ifCond .eq 20, 3) := by decide +kernel
theorem dX1_changeCell_7 : decode cX1_changeCell 7 = .ok (.aload_n 0, 1) := by decide +kernel
theorem dX1_changeCell_8 : decode cX1_changeCell 8 = .ok (.getfield 43, 3) := by decide +kernel
theorem dX1_changeCell_11 : decode cX1_changeCell 11 = .ok (.iload_n 1, 1) := by decide +kernel
theorem dX1_changeCell_12 : decode cX1_changeCell 12 = .ok (.iaload, 1) := by decide +kernel
theorem dX1_changeCell_13 : decode cX1_changeCell 13 = .ok (.aload_n 0, 1) := by decide +kernel
theorem dX1_changeCell_14 : decode cX1_changeCell 14 = .ok (.getfield 12, 3) := by decide +kernel
theorem dX1_changeCell_17 : decode cX1_changeCell 17 = .ok (.iload_n 1, 1) := by decide +kernel
theorem dX1_changeCell_18 : decode cX1_changeCell 18 = .ok (.invokevirtual 134, 3) := by decide +kernel
theorem dX1_changeCell_21 : decode cX1_changeCell 21 = .ok (.if_icmp .ne 5, 3) := by decide +kernel
theorem dX1_changeCell_24 : decode cX1_changeCell 24 = .ok (.iconst 0, 1) := by decide +kernel
theorem dX1_changeCell_25 : decode cX1_changeCell 25 = .ok (.ireturn, 1) := by decide +kernel
theorem dX1_changeCell_26 : decode cX1_changeCell 26 = .ok (.aload_n 0, 1) := by decide +kernel
theorem dX1_changeCell_27 : decode cX1_changeCell 27 = .ok (.getfield 35, 3) := by decide +kernel
theorem dX1_changeCell_30 : decode cX1_changeCell 30 = .ok (.aload_n 0, 1) := by decide +kernel
theorem dX1_changeCell_31 : decode cX1_changeCell 31 = .ok (.getfield 63, 3) := by decide +kernel
theorem dX1_changeCell_34 : decode cX1_changeCell 34 = .ok (.iload_n 1, 1) := by decide +kernel
theorem dX1_changeCell_35 : decode cX1_changeCell 35 = .ok (.aload_n 0, 1) := by decide +kernel
theorem dX1_changeCell_36 : decode cX1_changeCell 36 = .ok (.getfield 12, 3) := by decide +kernel
theorem dX1_changeCell_39 : decode cX1_changeCell 39 = .ok (.iload_n 1, 1) := by decide +kernel
theorem dX1_changeCell_40 : decode cX1_changeCell 40 = .ok (.invokevirtual 134, 3) := by decide +kernel
theorem dX1_changeCell_43 : decode cX1_changeCell 43 = .ok (.aload_n 0, 1) := by decide +kernel
theorem dX1_changeCell_44 : decode cX1_changeCell 44 = .ok (.getfield 43, 3) := by decide +kernel
theorem dX1_changeCell_47 : decode cX1_changeCell 47 = .ok (.iload_n 1, 1) := by decide +kernel
theorem dX1_changeCell_48 : decode cX1_changeCell 48 = .ok (.iaload, 1) := by decide +kernel
theorem dX1_changeCell_49 : decode cX1_changeCell 49 = .ok (.iload_n 2, 1) := by decide +kernel
theorem dX1_changeCell_50 : decode cX1_changeCell 50 = .ok (.invokevirtual 159, 3) := by decide +kernel
theorem dX1_changeCell_53 : decode cX1_changeCell 53 = .ok (.aload_n 0, 1) := by decide +kernel
theorem dX1_changeCell_54 : decode cX1_changeCell 54 = .ok (.getfield 12, 3) := by decide +kernel
theorem dX1_changeCell_57 : decode cX1_changeCell 57 = .ok (.iload_n 1, 1) := by decide +kernel
theorem dX1_changeCell_58 : decode cX1_changeCell 58 = .ok (.aload_n 0, 1) := by decide +kernel
theorem dX1_changeCell_59 : decode cX1_changeCell 59 = .ok (.getfield 43, 3) := by decide +kernel
theorem dX1_changeCell_62 : decode cX1_changeCell 62 = .ok (.iload_n 1, 1) := by decide +kernel
theorem dX1_changeCell_63 : decode cX1_changeCell 63 = .ok (.iaload, 1) := by decide +kernel
theorem dX1_changeCell_64 : decode cX1_changeCell 64 = .ok (.invokevirtual 163, 3) := by decide +kernel
theorem dX1_changeCell_67 : decode cX1_changeCell 67 = .ok (.iconst 1, 1) := by decide +kernel
theorem dX1_changeCell_68 : decode cX1_changeCell 68 = .ok (.ireturn, 1) := by decide +kernel
theorem dX1_valueAtEndOf_0 : decode cX1_valueAtEndOf 0 = .ok (.aload_n 0, 1) := by decide +kernel
theorem dX1_valueAtEndOf_1 : decode cX1_valueAtEndOf 1 = .ok (.invokevirtual 137, 3) := by decide +kernel
theorem dX1_valueAtEndOf_4 : decode cX1_valueAtEndOf 4 = .ok (.aload_n 0, 1) := by decide +kernel
theorem dX1_valueAtEndOf_5 : decode cX1_valueAtEndOf 5 = .ok (.getfield 35, 3) := by decide +kernel
theorem dX1_valueAtEndOf_8 : decode cX1_valueAtEndOf 8 = .ok (.iload_n 1, 1) := by decide +kernel
theorem dX1_valueAtEndOf_9 : decode cX1_valueAtEndOf 9 = .ok (.aload_n 0, 1) := by decide +kernel
theorem dX1_valueAtEndOf_10 : decode cX1_valueAtEndOf 10 = .ok (.getfield 43, 3) := by decide +kernel
theorem dX1_valueAtEndOf_13 : decode cX1_valueAtEndOf 13 = .ok (.invokevirtual 166, 3) := by decide +kernel
theorem dX1_valueAtEndOf_16 : decode cX1_valueAtEndOf 16 = .ok (.iload_n 2, 1) := by decide +kernel
theorem dX1_valueAtEndOf_17 : decode cX1_valueAtEndOf 17 = .ok (.invokestatic 150, 3) := by decide +kernel
theorem dX1_valueAtEndOf_20 : decode cX1_valueAtEndOf 20 = .ok (.ifCond .eq 12, 3) := by decide +kernel
theorem dX1_valueAtEndOf_23 : decode cX1_valueAtEndOf 23 = .ok (.aload_n 0, 1) := by decide +kernel
theorem dX1_valueAtEndOf_24 : decode cX1_valueAtEndOf 24 = .ok (.getfield 43, 3) := by decide +kernel
theorem dX1_valueAtEndOf_27 : decode cX1_valueAtEndOf 27 = .ok (.iload_n 2, 1) := by decide +kernel
theorem dX1_valueAtEndOf_28 : decode cX1_valueAtEndOf 28 = .ok (.iaload, 1) := by decide +kernel
theorem dX1_valueAtEndOf_29 : decode cX1_valueAtEndOf 29 = .ok (.goto 4, 3) := by decide +kernel
theorem dX1_valueAtEndOf_32 : decode cX1_valueAtEndOf 32 = .ok (.iconst 0, 1) := by decide +kernel
theorem dX1_valueAtEndOf_33 : decode cX1_valueAtEndOf 33 = .ok (.ireturn, 1) := by decide +kernel
theorem dX1_revertFault_0 : decode cX1_revertFault 0 = .ok (.aload_n 0, 1) := by decide +kernel
theorem dX1_revertFault_1 : decode cX1_revertFault 1 = .ok (.getfield 12, 3) := by decide +kernel
theorem dX1_revertFault_4 : decode cX1_revertFault 4 = .ok (.iload_n 1, 1) := by decide +kernel
theorem dX1_revertFault_5 : decode cX1_revertFault 5 = .ok (.invokevirtual 84, 3) := by decide +kernel
theorem dX1_revertFault_8 : decode cX1_revertFault 8 = .ok (.iload_n 2, 1) := by decide +kernel
theorem dX1_revertFault_9 : decode cX1_revertFault 9 = .ok (.iconst 0, 1) := by decide +kernel
theorem dX1_revertFault_10 : decode cX1_revertFault 10 = .ok (.aload_n 0, 1) := by decide +kernel
theorem dX1_revertFault_11 : decode cX1_revertFault 11 = .ok (.getfield 63, 3) := by decide +kernel
theorem dX1_revertFault_14 : decode cX1_revertFault 14 = .ok (.invokestatic 126, 3) := by decide +kernel
theorem dX1_revertFault_17 : decode cX1_revertFault 17 = .ok (.aload_n 0, 1) := by decide +kernel
theorem dX1_revertFault_18 : decode cX1_revertFault 18 = .ok (.iload_n 1, 1) := by decide +kernel
theorem dX1_revertFault_19 : decode cX1_revertFault 19 = .ok (.invokevirtual 170, 3) := by decide +kernel
theorem dX1_revertFault_22 : decode cX1_revertFault 22 = .ok (.ifCond .ne 7, 3) := by decide +kernel
theorem dX1_revertFault_25 : decode cX1_revertFault 25 = .ok (.iconst 1, 1) := by decide +kernel
theorem dX1_revertFault_26 : decode cX1_revertFault 26 = .ok (.goto 4, 3) := by decide +kernel
theorem dX1_revertFault_29 : decode cX1_revertFault 29 = .ok (.iconst 0, 1) := by decide +kernel
theorem dX1_revertFault_30 : decode cX1_revertFault 30 = .ok (.invokestatic 94, 3) := by decide +kernel
theorem dX1_revertFault_33 : decode cX1_revertFault 33 = .ok (.ireturn, 1) := by decide +kernel
theorem dX1_revertNow_0 : decode cX1_revertNow 0 = .ok (.aload_n 0, 1) := by decide +kernel
theorem dX1_revertNow_1 : decode cX1_revertNow 1 = .ok (.invokevirtual 137, 3) := by decide +kernel
theorem dX1_revertNow_4 : decode cX1_revertNow 4 = .ok (.aload_n 0, 1) := by decide +kernel
theorem dX1_revertNow_5 : decode cX1_revertNow 5 = .ok (.getfield 35, 3) := by decide +kernel
theorem dX1_revertNow_8 : decode cX1_revertNow 8 = .ok (.iload_n 2, 1) := by decide +kernel
theorem dX1_revertNow_9 : decode cX1_revertNow 9 = .ok (.aload_n 0, 1) := by decide +kernel
theorem dX1_revertNow_10 : decode cX1_revertNow 10 = .ok (.getfield 43, 3) := by decide +kernel
theorem dX1_revertNow_13 : decode cX1_revertNow 13 = .ok (.invokevirtual 166, 3) := by decide +kernel
theorem dX1_revertNow_16 : decode cX1_revertNow 16 = .ok (.aload_n 0, 1) := by decide +kernel
theorem dX1_revertNow_17 : decode cX1_revertNow 17 = .ok (.getfield 12, 3) := by decide +kernel
theorem dX1_revertNow_20 : decode cX1_revertNow 20 = .ok (.iload_n 1, 1) := by decide +kernel
theorem dX1_revertNow_21 : decode cX1_revertNow 21 = .ok (.invokevirtual 101, 3) := by decide +kernel
theorem dX1_revertNow_24 : decode cX1_revertNow 24 = .ok (.istore_n 3, 1) := by decide +kernel
theorem dX1_revertNow_25 : decode cX1_revertNow 25 = .ok (.iconst 0, 1) := by decide +kernel
theorem dX1_revertNow_26 : decode cX1_revertNow 26 = .ok (.istore 4, 2) := by decide +kernel
theorem dX1_revertNow_28 : decode cX1_revertNow 28 = .ok (.iload 4, 2) := by decide +kernel
theorem dX1_revertNow_30 : decode cX1_revertNow 30 = .ok (.bipush 120, 2) := by decide +kernel
theorem dX1_revertNow_32 : decode cX1_revertNow 32 = .ok (.if_icmp .ge 36, 3) := by decide +kernel
theorem dX1_revertNow_35 : decode cX1_revertNow 35 = .ok (.iload_n 3, 1) := by decide +kernel
theorem dX1_revertNow_36 : decode cX1_revertNow 36 = .ok (.iload 4, 2) := by decide +kernel
theorem dX1_revertNow_38 : decode cX1_revertNow 38 = .ok (.bipush 6, 2) := by decide +kernel
theorem dX1_revertNow_40 : decode cX1_revertNow 40 = .ok (.idiv, 1) := by decide +kernel
theorem dX1_revertNow_41 : decode cX1_revertNow 41 = .ok (.invokestatic 173, 3) := by decide +kernel
theorem dX1_revertNow_44 : decode cX1_revertNow 44 = .ok (.ifCond .ne 18, 3) := by decide +kernel
theorem dX1_revertNow_47 : decode cX1_revertNow 47 = .ok (.aload_n 0, 1) := by decide +kernel
theorem dX1_revertNow_48 : decode cX1_revertNow 48 = .ok (.iload 4, 2) := by decide +kernel
theorem dX1_revertNow_50 : decode cX1_revertNow 50 = .ok (.aload_n 0, 1) := by decide +kernel
theorem dX1_revertNow_51 : decode cX1_revertNow 51 = .ok (.getfield 12, 3) := by decide +kernel
theorem dX1_revertNow_54 : decode cX1_revertNow 54 = .ok (.iload 4, 2) := by decide +kernel
theorem dX1_revertNow_56 : decode cX1_revertNow 56 = .ok (.invokevirtual 134, 3) := by decide +kernel
theorem dX1_revertNow_59 : decode cX1_revertNow 59 = .ok (.invokevirtual 140, 3) := by decide +kernel
theorem dX1_revertNow_62 : decode cX1_revertNow 62 = .ok (.iinc 4 1, 3) := by decide +kernel
theorem dX1_revertNow_65 : decode cX1_revertNow 65 = .ok (.goto (-37), 3) := by decide +kernel
theorem dX1_revertNow_68 : decode cX1_revertNow 68 = .ok (.aload_n 0, 1) := by decide +kernel
theorem dX1_revertNow_69 : decode cX1_revertNow 69 = .ok (.iconst (-1), 1) := by decide +kernel
theorem dX1_revertNow_70 : decode cX1_revertNow 70 = .ok (.invokevirtual 144, 3) := by decide +kernel
theorem dX1_revertNow_73 : decode cX1_revertNow 73 = .ok (.ireturn, 1) := by decide +kernel
theorem dX1_requestFault_0 : decode cX1_requestFault 0 = .ok (.aload_n 0, 1) := by decide +kernel
theorem dX1_requestFault_1 : decode cX1_requestFault 1 = .ok (.iload_n 1, 1) := by decide +kernel
theorem dX1_requestFault_2 : decode cX1_requestFault 2 = .ok (.iload_n 2, 1) := by decide +kernel
theorem dX1_requestFault_3 : decode cX1_requestFault 3 = .ok (.iload 4, 2) := by decide +kernel
theorem dX1_requestFault_5 : decode cX1_requestFault 5 = .ok (.invokevirtual 176, 3) := by decide +kernel
theorem dX1_requestFault_8 : decode cX1_requestFault 8 = .ok (.ifCond .ne 29, 3) := by decide +kernel
theorem dX1_requestFault_11 : decode cX1_requestFault 11 = .ok (.aload_n 0, 1) := by decide +kernel
theorem dX1_requestFault_12 : decode cX1_requestFault 12 = .ok (.getfield 28, 3) := by decide +kernel
theorem dX1_requestFault_15 : decode cX1_requestFault 15 = .ok (.iload_n 1, 1) := by decide +kernel
theorem dX1_requestFault_16 : decode cX1_requestFault 16 = .ok (.invokevirtual 180, 3) := by decide +kernel
theorem dX1_requestFault_19 : decode cX1_requestFault 19 = .ok (.iconst (-1), 1) := by decide +kernel
theorem dX1_requestFault_20 : decode cX1_requestFault 20 = .ok (.if_icmp .ne 17, 3) := by decide +kernel
theorem dX1_requestFault_23 : decode cX1_requestFault 23 = .ok (.aload_n 0, 1) := by decide +kernel
theorem dX1_requestFault_24 : decode cX1_requestFault 24 = .ok (.getfield 28, 3) := by decide +kernel
theorem dX1_requestFault_27 : decode cX1_requestFault 27 = .ok (.invokevirtual 183, 3) := by decide +kernel
theorem dX1_requestFault_30 : decode cX1_requestFault 30 = .ok (.ifCond .ne 7, 3) := by decide +kernel
theorem dX1_requestFault_33 : decode cX1_requestFault 33 = .ok (.iconst 1, 1) := by decide +kernel
theorem dX1_requestFault_34 : decode cX1_requestFault 34 = .ok (.goto 4, 3) := by decide +kernel
theorem dX1_requestFault_37 : decode cX1_requestFault 37 = .ok (.iconst 0, 1) := by decide +kernel
theorem dX1_requestFault_38 : decode cX1_requestFault 38 = .ok (.istore 5, 2) := by decide +kernel
theorem dX1_requestFault_40 : decode cX1_requestFault 40 = .ok (.iload_n 1, 1) := by decide +kernel
theorem dX1_requestFault_41 : decode cX1_requestFault 41 = .ok (.invokestatic 187, 3) := by decide +kernel
theorem dX1_requestFault_44 : decode cX1_requestFault 44 = .ok (.ifCond .eq 18, 3) := by decide +kernel
theorem dX1_requestFault_47 : decode cX1_requestFault 47 = .ok (.aload_n 0, 1) := by decide +kernel
theorem dX1_requestFault_48 : decode cX1_requestFault 48 = .ok (.getfield 12, 3) := by decide +kernel
theorem dX1_requestFault_51 : decode cX1_requestFault 51 = .ok (.iload_n 2, 1) := by decide +kernel
theorem dX1_requestFault_52 : decode cX1_requestFault 52 = .ok (.invokevirtual 84, 3) := by decide +kernel
theorem dX1_requestFault_55 : decode cX1_requestFault 55 = .ok (.ifCond .eq 7, 3) := by decide +kernel
theorem dX1_requestFault_58 : decode cX1_requestFault 58 = .ok (.iconst 1, 1) := by decide +kernel
theorem dX1_requestFault_59 : decode cX1_requestFault 59 = .ok (.goto 4, 3) := by decide +kernel
theorem dX1_requestFault_62 : decode cX1_requestFault 62 = .ok (.iconst 0, 1) := by decide +kernel
theorem dX1_requestFault_63 : decode cX1_requestFault 63 = .ok (.iload_n 3, 1) := by decide +kernel
theorem dX1_requestFault_64 : decode cX1_requestFault 64 = .ok (.iconst 1, 1) := by decide +kernel
theorem dX1_requestFault_65 : decode cX1_requestFault 65 = .ok (.sipush 1000, 3) := by decide +kernel
theorem dX1_requestFault_68 : decode cX1_requestFault 68 = .ok (.invokestatic 126, 3) := by decide +kernel
theorem dX1_requestFault_71 : decode cX1_requestFault 71 = .ok (.iload 5, 2) := by decide +kernel
theorem dX1_requestFault_73 : decode cX1_requestFault 73 = .ok (.invokestatic 94, 3) := by decide +kernel
theorem dX1_requestFault_76 : decode cX1_requestFault 76 = .ok (.ireturn, 1) := by decide +kernel
theorem dX1_holdsAround_0 : decode cX1_holdsAround 0 = .ok (.iload_n 3, 1) := by decide +kernel
theorem dX1_holdsAround_1 : decode cX1_holdsAround 1 = .ok (.ifCond .eq 14, 3) := by decide +kernel
theorem dX1_holdsAround_4 : decode cX1_holdsAround 4 = .ok (.aload_n 0, 1) := by decide +kernel
theorem dX1_holdsAround_5 : decode cX1_holdsAround 5 = .ok (.getfield 12, 3) := by decide +kernel
theorem dX1_holdsAround_8 : decode cX1_holdsAround 8 = .ok (.iload_n 2, 1) := by decide +kernel
theorem dX1_holdsAround_9 : decode cX1_holdsAround 9 = .ok (.invokevirtual 81, 3) := by decide +kernel
theorem dX1_holdsAround_12 : decode cX1_holdsAround 12 = .ok (.goto 11, 3) := by decide +kernel
theorem dX1_holdsAround_15 : decode cX1_holdsAround 15 = .ok (.aload_n 0, 1) := by decide +kernel
theorem dX1_holdsAround_16 : decode cX1_holdsAround 16 = .ok (.getfield 12, 3) := by decide +kernel
theorem dX1_holdsAround_19 : decode cX1_holdsAround 19 = .ok (.iload_n 2, 1) := by decide +kernel
theorem dX1_holdsAround_20 : decode cX1_holdsAround 20 = .ok (.invokevirtual 77, 3) := by decide +kernel
theorem dX1_holdsAround_23 : decode cX1_holdsAround 23 = .ok (.istore 4, 2) := by decide +kernel
theorem dX1_holdsAround_25 : decode cX1_holdsAround 25 = .ok (.iconst 0, 1) := by decide +kernel
theorem dX1_holdsAround_26 : decode cX1_holdsAround 26 = .ok (.istore 5, 2) := by decide +kernel
theorem dX1_holdsAround_28 : decode cX1_holdsAround 28 = .ok (.iload 5, 2) := by decide +kernel
theorem dX1_holdsAround_30 : decode cX1_holdsAround 30 = .ok (.bipush 10, 2) := by decide +kernel
theorem dX1_holdsAround_32 : decode cX1_holdsAround 32 = .ok (.if_icmp .ge 55, 3) := by decide +kernel
theorem dX1_holdsAround_35 : decode cX1_holdsAround 35 = .ok (.aload_n 0, 1) := by decide +kernel
theorem dX1_holdsAround_36 : decode cX1_holdsAround 36 = .ok (.getfield 21, 3) := by decide +kernel
theorem dX1_holdsAround_39 : decode cX1_holdsAround 39 = .ok (.iload 5, 2) := by decide +kernel
theorem dX1_holdsAround_41 : decode cX1_holdsAround 41 = .ok (.invokevirtual 190, 3) := by decide +kernel
theorem dX1_holdsAround_44 : decode cX1_holdsAround 44 = .ok (.ifCond .eq 37, 3) := by decide +kernel
theorem dX1_holdsAround_47 : decode cX1_holdsAround 47 = .ok (.aload_n 0, 1) := by decide +kernel
theorem dX1_holdsAround_48 : decode cX1_holdsAround 48 = .ok (.getfield 21, 3) := by decide +kernel
theorem dX1_holdsAround_51 : decode cX1_holdsAround 51 = .ok (.iload 5, 2) := by decide +kernel
theorem dX1_holdsAround_53 : decode cX1_holdsAround 53 = .ok (.iconst 0, 1) := by decide +kernel
theorem dX1_holdsAround_54 : decode cX1_holdsAround 54 = .ok (.invokevirtual 193, 3) := by decide +kernel
theorem dX1_holdsAround_57 : decode cX1_holdsAround 57 = .ok (.iload_n 1, 1) := by decide +kernel
theorem dX1_holdsAround_58 : decode cX1_holdsAround 58 = .ok (.if_icmp .ne 23, 3) := by decide +kernel
theorem dX1_holdsAround_61 : decode cX1_holdsAround 61 = .ok (.iload 4, 2) := by decide +kernel
theorem dX1_holdsAround_63 : decode cX1_holdsAround 63 = .ok (.aload_n 0, 1) := by decide +kernel
theorem dX1_holdsAround_64 : decode cX1_holdsAround 64 = .ok (.getfield 21, 3) := by decide +kernel
theorem dX1_holdsAround_67 : decode cX1_holdsAround 67 = .ok (.iload 5, 2) := by decide +kernel
theorem dX1_holdsAround_69 : decode cX1_holdsAround 69 = .ok (.iconst 1, 1) := by decide +kernel
theorem dX1_holdsAround_70 : decode cX1_holdsAround 70 = .ok (.invokevirtual 193, 3) := by decide +kernel
theorem dX1_holdsAround_73 : decode cX1_holdsAround 73 = .ok (.invokestatic 173, 3) := by decide +kernel
theorem dX1_holdsAround_76 : decode cX1_holdsAround 76 = .ok (.ifCond .eq 5, 3) := by decide +kernel
theorem dX1_holdsAround_79 : decode cX1_holdsAround 79 = .ok (.iconst 1, 1) := by decide +kernel
theorem dX1_holdsAround_80 : decode cX1_holdsAround 80 = .ok (.ireturn, 1) := by decide +kernel
theorem dX1_holdsAround_81 : decode cX1_holdsAround 81 = .ok (.iinc 5 1, 3) := by decide +kernel
theorem dX1_holdsAround_84 : decode cX1_holdsAround 84 = .ok (.goto (-56), 3) := by decide +kernel
theorem dX1_holdsAround_87 : decode cX1_holdsAround 87 = .ok (.iconst 0, 1) := by decide +kernel
theorem dX1_holdsAround_88 : decode cX1_holdsAround 88 = .ok (.ireturn, 1) := by decide +kernel
theorem dX1_requestNow_0 : decode cX1_requestNow 0 = .ok (.aload_n 0, 1) := by decide +kernel
theorem dX1_requestNow_1 : decode cX1_requestNow 1 = .ok (.aload_n 0, 1) := by decide +kernel
theorem dX1_requestNow_2 : decode cX1_requestNow 2 = .ok (.getfield 28, 3) := by decide +kernel
theorem dX1_requestNow_5 : decode cX1_requestNow 5 = .ok (.iload_n 1, 1) := by decide +kernel
theorem dX1_requestNow_6 : decode cX1_requestNow 6 = .ok (.iload_n 2, 1) := by decide +kernel
theorem dX1_requestNow_7 : decode cX1_requestNow 7 = .ok (.iload_n 3, 1) := by decide +kernel
theorem dX1_requestNow_8 : decode cX1_requestNow 8 = .ok (.iload 4, 2) := by decide +kernel
theorem dX1_requestNow_10 : decode cX1_requestNow 10 = .ok (.invokevirtual 196, 3) := by decide +kernel
theorem dX1_requestNow_13 : decode cX1_requestNow 13 = .ok (.invokevirtual 200, 3) := by decide +kernel
theorem dX1_requestNow_16 : decode cX1_requestNow 16 = .ok (.ireturn, 1) := by decide +kernel
theorem dX1_serve_0 : decode cX1_serve 0 = .ok (.iconst 0, 1) := by decide +kernel
theorem dX1_serve_1 : decode cX1_serve 1 = .ok (.istore_n 1, 1) := by decide +kernel
theorem dX1_serve_2 : decode cX1_serve 2 = .ok (.iconst 0, 1) := by decide +kernel
theorem dX1_serve_3 : decode cX1_serve 3 = .ok (.istore_n 2, 1) := by decide +kernel
theorem dX1_serve_4 : decode cX1_serve 4 = .ok (.aload_n 0, 1) := by decide +kernel
theorem dX1_serve_5 : decode cX1_serve 5 = .ok (.getfield 28, 3) := by decide +kernel
theorem dX1_serve_8 : decode cX1_serve 8 = .ok (.getfield 203, 3) := by decide +kernel
theorem dX1_serve_11 : decode cX1_serve 11 = .ok (.istore_n 3, 1) := by decide +kernel
theorem dX1_serve_12 : decode cX1_serve 12 = .ok (.iconst 0, 1) := by decide +kernel
theorem dX1_serve_13 : decode cX1_serve 13 = .ok (.istore 4, 2) := by decide +kernel
theorem dX1_serve_15 : decode cX1_serve 15 = .ok (.iload 4, 2) := by decide +kernel
theorem dX1_serve_17 : decode cX1_serve 17 = .ok (.iload_n 3, 1) := by decide +kernel
theorem dX1_serve_18 : decode cX1_serve 18 = .ok (.if_icmp .ge 27, 3) := by decide +kernel
theorem dX1_serve_21 : decode cX1_serve 21 = .ok (.aload_n 0, 1) := by decide +kernel
theorem dX1_serve_22 : decode cX1_serve 22 = .ok (.iload_n 1, 1) := by decide +kernel
theorem dX1_serve_23 : decode cX1_serve 23 = .ok (.invokevirtual 200, 3) := by decide +kernel
theorem dX1_serve_26 : decode cX1_serve 26 = .ok (.iconst (-1), 1) := by decide +kernel
theorem dX1_serve_27 : decode cX1_serve 27 = .ok (.if_icmp .ne 9, 3) := by decide +kernel
theorem dX1_serve_30 : decode cX1_serve 30 = .ok (.iinc 1 1, 3) := by decide +kernel
theorem dX1_serve_33 : decode cX1_serve 33 = .ok (.goto 6, 3) := by decide +kernel
theorem dX1_serve_36 : decode cX1_serve 36 = .ok (.iinc 2 1, 3) := by decide +kernel
theorem dX1_serve_39 : decode cX1_serve 39 = .ok (.iinc 4 1, 3) := by decide +kernel
theorem dX1_serve_42 : decode cX1_serve 42 = .ok (.goto (-27), 3) := by decide +kernel
theorem dX1_serve_45 : decode cX1_serve 45 = .ok (.iload_n 2, 1) := by decide +kernel
theorem dX1_serve_46 : decode cX1_serve 46 = .ok (.ireturn, 1) := by decide +kernel
theorem dX1_lookAt_0 : decode cX1_lookAt 0 = .ok (.aload_n 0, 1) := by decide +kernel
theorem dX1_lookAt_1 : decode cX1_lookAt 1 = .ok (.iload_n 1, 1) := by decide +kernel
theorem dX1_lookAt_2 : decode cX1_lookAt 2 = .ok (.invokevirtual 206, 3) := by decide +kernel
theorem dX1_lookAt_5 : decode cX1_lookAt 5 = .ok (.istore_n 2, 1) := by decide +kernel
theorem dX1_lookAt_6 : decode cX1_lookAt 6 = .ok (.aload_n 0, 1) := by decide +kernel
theorem dX1_lookAt_7 : decode cX1_lookAt 7 = .ok (.getfield 21, 3) := by decide +kernel
theorem dX1_lookAt_10 : decode cX1_lookAt 10 = .ok (.iload_n 2, 1) := by decide +kernel
theorem dX1_lookAt_11 : decode cX1_lookAt 11 = .ok (.invokevirtual 209, 3) := by decide +kernel
theorem dX1_lookAt_14 : decode cX1_lookAt 14 = .ok (.bipush 10, 2) := by decide +kernel
theorem dX1_lookAt_16 : decode cX1_lookAt 16 = .ok (.if_icmp .ge 7, 3) := by decide +kernel
theorem dX1_lookAt_19 : decode cX1_lookAt 19 = .ok (.iconst 1, 1) := by decide +kernel
theorem dX1_lookAt_20 : decode cX1_lookAt 20 = .ok (.goto 4, 3) := by decide +kernel
theorem dX1_lookAt_23 : decode cX1_lookAt 23 = .ok (.iconst 0, 1) := by decide +kernel
theorem dX1_lookAt_24 : decode cX1_lookAt 24 = .ok (.istore_n 3, 1) := by decide +kernel
theorem dX1_lookAt_25 : decode cX1_lookAt 25 = .ok (.iload_n 3, 1) := by decide +kernel
theorem dX1_lookAt_26 : decode cX1_lookAt 26 = .ok (.ifCond .eq 20, 3) := by decide +kernel
theorem dX1_lookAt_29 : decode cX1_lookAt 29 = .ok (.aload_n 0, 1) := by decide +kernel
theorem dX1_lookAt_30 : decode cX1_lookAt 30 = .ok (.iload_n 1, 1) := by decide +kernel
theorem dX1_lookAt_31 : decode cX1_lookAt 31 = .ok (.iload_n 2, 1) := by decide +kernel
theorem dX1_lookAt_32 : decode cX1_lookAt 32 = .ok (.invokevirtual 212, 3) := by decide +kernel
theorem dX1_lookAt_35 : decode cX1_lookAt 35 = .ok (.ifCond .ne 11, 3) := by decide +kernel
theorem dX1_lookAt_38 : decode cX1_lookAt 38 = .ok (.aload_n 0, 1) := by decide +kernel
theorem dX1_lookAt_39 : decode cX1_lookAt 39 = .ok (.iload_n 1, 1) := by decide +kernel
theorem dX1_lookAt_40 : decode cX1_lookAt 40 = .ok (.invokevirtual 215, 3) := by decide +kernel
theorem dX1_lookAt_43 : decode cX1_lookAt 43 = .ok (.ifCond .eq 5, 3) := by decide +kernel
theorem dX1_lookAt_46 : decode cX1_lookAt 46 = .ok (.iconst (-1), 1) := by decide +kernel
theorem dX1_lookAt_47 : decode cX1_lookAt 47 = .ok (.ireturn, 1) := by decide +kernel
theorem dX1_lookAt_48 : decode cX1_lookAt 48 = .ok (.aload_n 0, 1) := by decide +kernel
theorem dX1_lookAt_49 : decode cX1_lookAt 49 = .ok (.getfield 21, 3) := by decide +kernel
theorem dX1_lookAt_52 : decode cX1_lookAt 52 = .ok (.iload_n 2, 1) := by decide +kernel
theorem dX1_lookAt_53 : decode cX1_lookAt 53 = .ok (.invokevirtual 218, 3) := by decide +kernel
theorem dX1_lookAt_56 : decode cX1_lookAt 56 = .ok (.istore 4, 2) := by decide +kernel
theorem dX1_lookAt_58 : decode cX1_lookAt 58 = .ok (.aload_n 0, 1) := by decide +kernel
theorem dX1_lookAt_59 : decode cX1_lookAt 59 = .ok (.getfield 28, 3) := by decide +kernel
theorem dX1_lookAt_62 : decode cX1_lookAt 62 = .ok (.iload_n 1, 1) := by decide +kernel
theorem dX1_lookAt_63 : decode cX1_lookAt 63 = .ok (.iconst 1, 1) := by decide +kernel
theorem dX1_lookAt_64 : decode cX1_lookAt 64 = .ok (.invokevirtual 221, 3) := by decide +kernel
theorem dX1_lookAt_67 : decode cX1_lookAt 67 = .ok (.istore 5, 2) := by decide +kernel
theorem dX1_lookAt_69 : decode cX1_lookAt 69 = .ok (.aload_n 0, 1) := by decide +kernel
theorem dX1_lookAt_70 : decode cX1_lookAt 70 = .ok (.getfield 63, 3) := by decide +kernel
theorem dX1_lookAt_73 : decode cX1_lookAt 73 = .ok (.aload_n 0, 1) := by decide +kernel
theorem dX1_lookAt_74 : decode cX1_lookAt 74 = .ok (.getfield 28, 3) := by decide +kernel
theorem dX1_lookAt_77 : decode cX1_lookAt 77 = .ok (.iload_n 1, 1) := by decide +kernel
theorem dX1_lookAt_78 : decode cX1_lookAt 78 = .ok (.iconst 2, 1) := by decide +kernel
theorem dX1_lookAt_79 : decode cX1_lookAt 79 = .ok (.invokevirtual 221, 3) := by decide +kernel
theorem dX1_lookAt_82 : decode cX1_lookAt 82 = .ok (.iadd, 1) := by decide +kernel
theorem dX1_lookAt_83 : decode cX1_lookAt 83 = .ok (.istore 6, 2) := by decide +kernel
theorem dX1_lookAt_85 : decode cX1_lookAt 85 = .ok (.aload_n 0, 1) := by decide +kernel
theorem dX1_lookAt_86 : decode cX1_lookAt 86 = .ok (.iload 4, 2) := by decide +kernel
theorem dX1_lookAt_88 : decode cX1_lookAt 88 = .ok (.iload 5, 2) := by decide +kernel
theorem dX1_lookAt_90 : decode cX1_lookAt 90 = .ok (.iload_n 2, 1) := by decide +kernel
theorem dX1_lookAt_91 : decode cX1_lookAt 91 = .ok (.invokevirtual 222, 3) := by decide +kernel
theorem dX1_lookAt_94 : decode cX1_lookAt 94 = .ok (.aload_n 0, 1) := by decide +kernel
theorem dX1_lookAt_95 : decode cX1_lookAt 95 = .ok (.getfield 21, 3) := by decide +kernel
theorem dX1_lookAt_98 : decode cX1_lookAt 98 = .ok (.iload_n 2, 1) := by decide +kernel
theorem dX1_lookAt_99 : decode cX1_lookAt 99 = .ok (.invokevirtual 226, 3) := by decide +kernel
theorem dX1_lookAt_102 : decode cX1_lookAt 102 = .ok (.aload_n 0, 1) := by decide +kernel
theorem dX1_lookAt_103 : decode cX1_lookAt 103 = .ok (.getfield 21, 3) := by decide +kernel
theorem dX1_lookAt_106 : decode cX1_lookAt 106 = .ok (.iload 4, 2) := by decide +kernel
theorem dX1_lookAt_108 : decode cX1_lookAt 108 = .ok (.aload_n 0, 1) := by decide +kernel
theorem dX1_lookAt_109 : decode cX1_lookAt 109 = .ok (.getfield 28, 3) := by decide +kernel
theorem dX1_lookAt_112 : decode cX1_lookAt 112 = .ok (.iload_n 1, 1) := by decide +kernel
theorem dX1_lookAt_113 : decode cX1_lookAt 113 = .ok (.iconst 0, 1) := by decide +kernel
theorem dX1_lookAt_114 : decode cX1_lookAt 114 = .ok (.invokevirtual 221, 3) := by decide +kernel
theorem dX1_lookAt_117 : decode cX1_lookAt 117 = .ok (.iload 5, 2) := by decide +kernel
theorem dX1_lookAt_119 : decode cX1_lookAt 119 = .ok (.iload 6, 2) := by decide +kernel
theorem dX1_lookAt_121 : decode cX1_lookAt 121 = .ok (.aload_n 0, 1) := by decide +kernel
theorem dX1_lookAt_122 : decode cX1_lookAt 122 = .ok (.getfield 28, 3) := by decide +kernel
theorem dX1_lookAt_125 : decode cX1_lookAt 125 = .ok (.iload_n 1, 1) := by decide +kernel
theorem dX1_lookAt_126 : decode cX1_lookAt 126 = .ok (.iconst 3, 1) := by decide +kernel
theorem dX1_lookAt_127 : decode cX1_lookAt 127 = .ok (.invokevirtual 221, 3) := by decide +kernel
theorem dX1_lookAt_130 : decode cX1_lookAt 130 = .ok (.invokevirtual 229, 3) := by decide +kernel
theorem dX1_lookAt_133 : decode cX1_lookAt 133 = .ok (.aload_n 0, 1) := by decide +kernel
theorem dX1_lookAt_134 : decode cX1_lookAt 134 = .ok (.getfield 28, 3) := by decide +kernel
theorem dX1_lookAt_137 : decode cX1_lookAt 137 = .ok (.iload_n 1, 1) := by decide +kernel
theorem dX1_lookAt_138 : decode cX1_lookAt 138 = .ok (.invokevirtual 232, 3) := by decide +kernel
theorem dX1_lookAt_141 : decode cX1_lookAt 141 = .ok (.iload 4, 2) := by decide +kernel
theorem dX1_lookAt_143 : decode cX1_lookAt 143 = .ok (.ireturn, 1) := by decide +kernel
theorem dX1_absorbedBy_0 : decode cX1_absorbedBy 0 = .ok (.aload_n 0, 1) := by decide +kernel
theorem dX1_absorbedBy_1 : decode cX1_absorbedBy 1 = .ok (.getfield 28, 3) := by decide +kernel
theorem dX1_absorbedBy_4 : decode cX1_absorbedBy 4 = .ok (.iload_n 1, 1) := by decide +kernel
theorem dX1_absorbedBy_5 : decode cX1_absorbedBy 5 = .ok (.iconst 3, 1) := by decide +kernel
theorem dX1_absorbedBy_6 : decode cX1_absorbedBy 6 = .ok (.invokevirtual 221, 3) := by decide +kernel
theorem dX1_absorbedBy_9 : decode cX1_absorbedBy 9 = .ok (.iconst 1, 1) := by decide +kernel
theorem dX1_absorbedBy_10 : decode cX1_absorbedBy 10 = .ok (.if_icmp .ne 5, 3) := by decide +kernel
theorem dX1_absorbedBy_13 : decode cX1_absorbedBy 13 = .ok (.iconst 0, 1) := by decide +kernel
theorem dX1_absorbedBy_14 : decode cX1_absorbedBy 14 = .ok (.ireturn, 1) := by decide +kernel
theorem dX1_absorbedBy_15 : decode cX1_absorbedBy 15 = .ok (.aload_n 0, 1) := by decide +kernel
theorem dX1_absorbedBy_16 : decode cX1_absorbedBy 16 = .ok (.getfield 28, 3) := by decide +kernel
theorem dX1_absorbedBy_19 : decode cX1_absorbedBy 19 = .ok (.iload_n 1, 1) := by decide +kernel
theorem dX1_absorbedBy_20 : decode cX1_absorbedBy 20 = .ok (.iconst 1, 1) := by decide +kernel
theorem dX1_absorbedBy_21 : decode cX1_absorbedBy 21 = .ok (.invokevirtual 221, 3) := by decide +kernel
theorem dX1_absorbedBy_24 : decode cX1_absorbedBy 24 = .ok (.istore_n 2, 1) := by decide +kernel
theorem dX1_absorbedBy_25 : decode cX1_absorbedBy 25 = .ok (.aload_n 0, 1) := by decide +kernel
theorem dX1_absorbedBy_26 : decode cX1_absorbedBy 26 = .ok (.getfield 12, 3) := by decide +kernel
theorem dX1_absorbedBy_29 : decode cX1_absorbedBy 29 = .ok (.iload_n 2, 1) := by decide +kernel
theorem dX1_absorbedBy_30 : decode cX1_absorbedBy 30 = .ok (.invokevirtual 101, 3) := by decide +kernel
theorem dX1_absorbedBy_33 : decode cX1_absorbedBy 33 = .ok (.iconst 1, 1) := by decide +kernel
theorem dX1_absorbedBy_34 : decode cX1_absorbedBy 34 = .ok (.iload_n 2, 1) := by decide +kernel
theorem dX1_absorbedBy_35 : decode cX1_absorbedBy 35 = .ok (.ishl, 1) := by decide +kernel
theorem dX1_absorbedBy_36 : decode cX1_absorbedBy 36 = .ok (.iconst (-1), 1) := by decide +kernel
theorem dX1_absorbedBy_37 : decode cX1_absorbedBy 37 = .ok (.ixor, 1) := by decide +kernel
theorem dX1_absorbedBy_38 : decode cX1_absorbedBy 38 = .ok (.iand, 1) := by decide +kernel
theorem dX1_absorbedBy_39 : decode cX1_absorbedBy 39 = .ok (.istore_n 3, 1) := by decide +kernel
theorem dX1_absorbedBy_40 : decode cX1_absorbedBy 40 = .ok (.iconst 0, 1) := by decide +kernel
theorem dX1_absorbedBy_41 : decode cX1_absorbedBy 41 = .ok (.istore 4, 2) := by decide +kernel
theorem dX1_absorbedBy_43 : decode cX1_absorbedBy 43 = .ok (.iconst 0, 1) := by decide +kernel
theorem dX1_absorbedBy_44 : decode cX1_absorbedBy 44 = .ok (.istore 5, 2) := by decide +kernel
theorem dX1_absorbedBy_46 : decode cX1_absorbedBy 46 = .ok (.iload 5, 2) := by decide +kernel
theorem dX1_absorbedBy_48 : decode cX1_absorbedBy 48 = .ok (.bipush 10, 2) := by decide +kernel
theorem dX1_absorbedBy_50 : decode cX1_absorbedBy 50 = .ok (.if_icmp .ge 69, 3) := by decide +kernel
theorem dX1_absorbedBy_53 : decode cX1_absorbedBy 53 = .ok (.aload_n 0, 1) := by decide +kernel
theorem dX1_absorbedBy_54 : decode cX1_absorbedBy 54 = .ok (.getfield 21, 3) := by decide +kernel
theorem dX1_absorbedBy_57 : decode cX1_absorbedBy 57 = .ok (.iload 5, 2) := by decide +kernel
theorem dX1_absorbedBy_59 : decode cX1_absorbedBy 59 = .ok (.invokevirtual 190, 3) := by decide +kernel
theorem dX1_absorbedBy_62 : decode cX1_absorbedBy 62 = .ok (.ifCond .eq 51, 3) := by decide +kernel
theorem dX1_absorbedBy_65 : decode cX1_absorbedBy 65 = .ok (.aload_n 0, 1) := by decide +kernel
theorem dX1_absorbedBy_66 : decode cX1_absorbedBy 66 = .ok (.getfield 21, 3) := by decide +kernel
theorem dX1_absorbedBy_69 : decode cX1_absorbedBy 69 = .ok (.iload 5, 2) := by decide +kernel
theorem dX1_absorbedBy_71 : decode cX1_absorbedBy 71 = .ok (.iconst 0, 1) := by decide +kernel
theorem dX1_absorbedBy_72 : decode cX1_absorbedBy 72 = .ok (.invokevirtual 193, 3) := by decide +kernel
theorem dX1_absorbedBy_75 : decode cX1_absorbedBy 75 = .ok (.aload_n 0, 1) := by decide +kernel
theorem dX1_absorbedBy_76 : decode cX1_absorbedBy 76 = .ok (.getfield 28, 3) := by decide +kernel
theorem dX1_absorbedBy_79 : decode cX1_absorbedBy 79 = .ok (.iload_n 1, 1) := by decide +kernel
theorem dX1_absorbedBy_80 : decode cX1_absorbedBy 80 = .ok (.iconst 0, 1) := by decide +kernel
theorem dX1_absorbedBy_81 : decode cX1_absorbedBy 81 = .ok (.invokevirtual 221, 3) := by decide +kernel
theorem dX1_absorbedBy_84 : decode cX1_absorbedBy 84 = .ok (.if_icmp .ne 29, 3) := by decide +kernel
theorem dX1_absorbedBy_87 : decode cX1_absorbedBy 87 = .ok (.iload_n 3, 1) := by decide +kernel
theorem dX1_absorbedBy_88 : decode cX1_absorbedBy 88 = .ok (.aload_n 0, 1) := by decide +kernel
theorem dX1_absorbedBy_89 : decode cX1_absorbedBy 89 = .ok (.getfield 21, 3) := by decide +kernel
theorem dX1_absorbedBy_92 : decode cX1_absorbedBy 92 = .ok (.iload 5, 2) := by decide +kernel
theorem dX1_absorbedBy_94 : decode cX1_absorbedBy 94 = .ok (.iconst 1, 1) := by decide +kernel
theorem dX1_absorbedBy_95 : decode cX1_absorbedBy 95 = .ok (.invokevirtual 193, 3) := by decide +kernel
theorem dX1_absorbedBy_98 : decode cX1_absorbedBy 98 = .ok (.invokestatic 173, 3) := by decide +kernel
theorem dX1_absorbedBy_101 : decode cX1_absorbedBy 101 = .ok (.ifCond .eq 12, 3) := by decide +kernel
theorem dX1_absorbedBy_104 : decode cX1_absorbedBy 104 = .ok (.iload 4, 2) := by decide +kernel
theorem dX1_absorbedBy_106 : decode cX1_absorbedBy 106 = .ok (.iconst 1, 1) := by decide +kernel
theorem dX1_absorbedBy_107 : decode cX1_absorbedBy 107 = .ok (.iload 5, 2) := by decide +kernel
theorem dX1_absorbedBy_109 : decode cX1_absorbedBy 109 = .ok (.ishl, 1) := by decide +kernel
theorem dX1_absorbedBy_110 : decode cX1_absorbedBy 110 = .ok (.ior, 1) := by decide +kernel
theorem dX1_absorbedBy_111 : decode cX1_absorbedBy 111 = .ok (.istore 4, 2) := by decide +kernel
theorem dX1_absorbedBy_113 : decode cX1_absorbedBy 113 = .ok (.iinc 5 1, 3) := by decide +kernel
theorem dX1_absorbedBy_116 : decode cX1_absorbedBy 116 = .ok (.goto (-70), 3) := by decide +kernel
theorem dX1_absorbedBy_119 : decode cX1_absorbedBy 119 = .ok (.iload 4, 2) := by decide +kernel
theorem dX1_absorbedBy_121 : decode cX1_absorbedBy 121 = .ok (.ireturn, 1) := by decide +kernel
theorem dX1_hinderersOf_0 : decode cX1_hinderersOf 0 = .ok (.aload_n 0, 1) := by decide +kernel
theorem dX1_hinderersOf_1 : decode cX1_hinderersOf 1 = .ok (.getfield 12, 3) := by decide +kernel
theorem dX1_hinderersOf_4 : decode cX1_hinderersOf 4 = .ok (.aload_n 0, 1) := by decide +kernel
theorem dX1_hinderersOf_5 : decode cX1_hinderersOf 5 = .ok (.getfield 28, 3) := by decide +kernel
theorem dX1_hinderersOf_8 : decode cX1_hinderersOf 8 = .ok (.iload_n 1, 1) := by decide +kernel
theorem dX1_hinderersOf_9 : decode cX1_hinderersOf 9 = .ok (.iconst 1, 1) := by decide +kernel
theorem dX1_hinderersOf_10 : decode cX1_hinderersOf 10 = .ok (.invokevirtual 221, 3) := by decide +kernel
theorem dX1_hinderersOf_13 : decode cX1_hinderersOf 13 = .ok (.invokevirtual 81, 3) := by decide +kernel
theorem dX1_hinderersOf_16 : decode cX1_hinderersOf 16 = .ok (.istore_n 3, 1) := by decide +kernel
theorem dX1_hinderersOf_17 : decode cX1_hinderersOf 17 = .ok (.aload_n 0, 1) := by decide +kernel
theorem dX1_hinderersOf_18 : decode cX1_hinderersOf 18 = .ok (.getfield 28, 3) := by decide +kernel
theorem dX1_hinderersOf_21 : decode cX1_hinderersOf 21 = .ok (.iload_n 1, 1) := by decide +kernel
theorem dX1_hinderersOf_22 : decode cX1_hinderersOf 22 = .ok (.iconst 3, 1) := by decide +kernel
theorem dX1_hinderersOf_23 : decode cX1_hinderersOf 23 = .ok (.invokevirtual 221, 3) := by decide +kernel
theorem dX1_hinderersOf_26 : decode cX1_hinderersOf 26 = .ok (.iconst 1, 1) := by decide +kernel
theorem dX1_hinderersOf_27 : decode cX1_hinderersOf 27 = .ok (.if_icmp .ne 7, 3) := by decide +kernel
theorem dX1_hinderersOf_30 : decode cX1_hinderersOf 30 = .ok (.iconst 1, 1) := by decide +kernel
theorem dX1_hinderersOf_31 : decode cX1_hinderersOf 31 = .ok (.goto 4, 3) := by decide +kernel
theorem dX1_hinderersOf_34 : decode cX1_hinderersOf 34 = .ok (.iconst 0, 1) := by decide +kernel
theorem dX1_hinderersOf_35 : decode cX1_hinderersOf 35 = .ok (.istore 4, 2) := by decide +kernel
theorem dX1_hinderersOf_37 : decode cX1_hinderersOf 37 = .ok (.iconst 0, 1) := by decide +kernel
theorem dX1_hinderersOf_38 : decode cX1_hinderersOf 38 = .ok (.istore 5, 2) := by decide +kernel
theorem dX1_hinderersOf_40 : decode cX1_hinderersOf 40 = .ok (.iconst 0, 1) := by decide +kernel
theorem dX1_hinderersOf_41 : decode cX1_hinderersOf 41 = .ok (.istore 6, 2) := by decide +kernel
theorem dX1_hinderersOf_43 : decode cX1_hinderersOf 43 = .ok (.iload 6, 2) := by decide +kernel
theorem dX1_hinderersOf_45 : decode cX1_hinderersOf 45 = .ok (.bipush 10, 2) := by decide +kernel
theorem dX1_hinderersOf_47 : decode cX1_hinderersOf 47 = .ok (.if_icmp .ge 81, 3) := by decide +kernel
theorem dX1_hinderersOf_50 : decode cX1_hinderersOf 50 = .ok (.aload_n 0, 1) := by decide +kernel
theorem dX1_hinderersOf_51 : decode cX1_hinderersOf 51 = .ok (.getfield 21, 3) := by decide +kernel
theorem dX1_hinderersOf_54 : decode cX1_hinderersOf 54 = .ok (.iload 6, 2) := by decide +kernel
theorem dX1_hinderersOf_56 : decode cX1_hinderersOf 56 = .ok (.invokevirtual 190, 3) := by decide +kernel
theorem dX1_hinderersOf_59 : decode cX1_hinderersOf 59 = .ok (.ifCond .eq 63, 3) := by decide +kernel
theorem dX1_hinderersOf_62 : decode cX1_hinderersOf 62 = .ok (.iload_n 2, 1) := by decide +kernel
theorem dX1_hinderersOf_63 : decode cX1_hinderersOf 63 = .ok (.iload 6, 2) := by decide +kernel
theorem dX1_hinderersOf_65 : decode cX1_hinderersOf 65 = .ok (.invokestatic 173, 3) := by decide +kernel
theorem dX1_hinderersOf_68 : decode cX1_hinderersOf 68 = .ok (.ifCond .ne 54, 3) := by decide +kernel
theorem dX1_hinderersOf_71 : decode cX1_hinderersOf 71 = .ok (.iload 4, 2) := by decide +kernel
theorem dX1_hinderersOf_73 : decode cX1_hinderersOf 73 = .ok (.ifCond .eq 15, 3) := by decide +kernel
theorem dX1_hinderersOf_76 : decode cX1_hinderersOf 76 = .ok (.aload_n 0, 1) := by decide +kernel
theorem dX1_hinderersOf_77 : decode cX1_hinderersOf 77 = .ok (.getfield 21, 3) := by decide +kernel
theorem dX1_hinderersOf_80 : decode cX1_hinderersOf 80 = .ok (.iload 6, 2) := by decide +kernel
theorem dX1_hinderersOf_82 : decode cX1_hinderersOf 82 = .ok (.invokevirtual 235, 3) := by decide +kernel
theorem dX1_hinderersOf_85 : decode cX1_hinderersOf 85 = .ok (.ifCond .ne 37, 3) := by decide +kernel
theorem dX1_hinderersOf_88 : decode cX1_hinderersOf 88 = .ok (.iload_n 3, 1) := by decide +kernel
theorem dX1_hinderersOf_89 : decode cX1_hinderersOf 89 = .ok (.aload_n 0, 1) := by decide +kernel
theorem dX1_hinderersOf_90 : decode cX1_hinderersOf 90 = .ok (.getfield 21, 3) := by decide +kernel
theorem dX1_hinderersOf_93 : decode cX1_hinderersOf 93 = .ok (.iload 6, 2) := by decide +kernel
theorem dX1_hinderersOf_95 : decode cX1_hinderersOf 95 = .ok (.iconst 1, 1) := by decide +kernel
theorem dX1_hinderersOf_96 : decode cX1_hinderersOf 96 = .ok (.invokevirtual 193, 3) := by decide +kernel
theorem dX1_hinderersOf_99 : decode cX1_hinderersOf 99 = .ok (.invokestatic 173, 3) := by decide +kernel
theorem dX1_hinderersOf_102 : decode cX1_hinderersOf 102 = .ok (.ifCond .eq 20, 3) := by decide +kernel
theorem dX1_hinderersOf_105 : decode cX1_hinderersOf 105 = .ok (.iload 5, 2) := by decide +kernel
theorem dX1_hinderersOf_107 : decode cX1_hinderersOf 107 = .ok (.iconst 1, 1) := by decide +kernel
theorem dX1_hinderersOf_108 : decode cX1_hinderersOf 108 = .ok (.aload_n 0, 1) := by decide +kernel
theorem dX1_hinderersOf_109 : decode cX1_hinderersOf 109 = .ok (.getfield 21, 3) := by decide +kernel
theorem dX1_hinderersOf_112 : decode cX1_hinderersOf 112 = .ok (.iload 6, 2) := by decide +kernel
theorem dX1_hinderersOf_114 : decode cX1_hinderersOf 114 = .ok (.iconst 0, 1) := by decide +kernel
theorem dX1_hinderersOf_115 : decode cX1_hinderersOf 115 = .ok (.invokevirtual 193, 3) := by decide +kernel
theorem dX1_hinderersOf_118 : decode cX1_hinderersOf 118 = .ok (.ishl, 1) := by decide +kernel
theorem dX1_hinderersOf_119 : decode cX1_hinderersOf 119 = .ok (.ior, 1) := by decide +kernel
theorem dX1_hinderersOf_120 : decode cX1_hinderersOf 120 = .ok (.istore 5, 2) := by decide +kernel
theorem dX1_hinderersOf_122 : decode cX1_hinderersOf 122 = .ok (.iinc 6 1, 3) := by decide +kernel
theorem dX1_hinderersOf_125 : decode cX1_hinderersOf 125 = .ok (.goto (-82), 3) := by decide +kernel
theorem dX1_hinderersOf_128 : decode cX1_hinderersOf 128 = .ok (.iload 5, 2) := by decide +kernel
theorem dX1_hinderersOf_130 : decode cX1_hinderersOf 130 = .ok (.ireturn, 1) := by decide +kernel
theorem dX1_blockersOf_0 : decode cX1_blockersOf 0 = .ok (.aload_n 0, 1) := by decide +kernel
theorem dX1_blockersOf_1 : decode cX1_blockersOf 1 = .ok (.getfield 12, 3) := by decide +kernel
theorem dX1_blockersOf_4 : decode cX1_blockersOf 4 = .ok (.aload_n 0, 1) := by decide +kernel
theorem dX1_blockersOf_5 : decode cX1_blockersOf 5 = .ok (.getfield 28, 3) := by decide +kernel
theorem dX1_blockersOf_8 : decode cX1_blockersOf 8 = .ok (.iload_n 1, 1) := by decide +kernel
theorem dX1_blockersOf_9 : decode cX1_blockersOf 9 = .ok (.iconst 1, 1) := by decide +kernel
theorem dX1_blockersOf_10 : decode cX1_blockersOf 10 = .ok (.invokevirtual 221, 3) := by decide +kernel
theorem dX1_blockersOf_13 : decode cX1_blockersOf 13 = .ok (.invokevirtual 81, 3) := by decide +kernel
theorem dX1_blockersOf_16 : decode cX1_blockersOf 16 = .ok (.istore_n 2, 1) := by decide +kernel
theorem dX1_blockersOf_17 : decode cX1_blockersOf 17 = .ok (.aload_n 0, 1) := by decide +kernel
theorem dX1_blockersOf_18 : decode cX1_blockersOf 18 = .ok (.getfield 28, 3) := by decide +kernel
theorem dX1_blockersOf_21 : decode cX1_blockersOf 21 = .ok (.iload_n 1, 1) := by decide +kernel
theorem dX1_blockersOf_22 : decode cX1_blockersOf 22 = .ok (.iconst 3, 1) := by decide +kernel
theorem dX1_blockersOf_23 : decode cX1_blockersOf 23 = .ok (.invokevirtual 221, 3) := by decide +kernel
theorem dX1_blockersOf_26 : decode cX1_blockersOf 26 = .ok (.iconst 1, 1) := by decide +kernel
theorem dX1_blockersOf_27 : decode cX1_blockersOf 27 = .ok (.if_icmp .ne 7, 3) := by decide +kernel
theorem dX1_blockersOf_30 : decode cX1_blockersOf 30 = .ok (.iconst 1, 1) := by decide +kernel
theorem dX1_blockersOf_31 : decode cX1_blockersOf 31 = .ok (.goto 4, 3) := by decide +kernel
theorem dX1_blockersOf_34 : decode cX1_blockersOf 34 = .ok (.iconst 0, 1) := by decide +kernel
theorem dX1_blockersOf_35 : decode cX1_blockersOf 35 = .ok (.istore_n 3, 1) := by decide +kernel
theorem dX1_blockersOf_36 : decode cX1_blockersOf 36 = .ok (.iconst 0, 1) := by decide +kernel
theorem dX1_blockersOf_37 : decode cX1_blockersOf 37 = .ok (.istore 4, 2) := by decide +kernel
theorem dX1_blockersOf_39 : decode cX1_blockersOf 39 = .ok (.iconst 0, 1) := by decide +kernel
theorem dX1_blockersOf_40 : decode cX1_blockersOf 40 = .ok (.istore 5, 2) := by decide +kernel
theorem dX1_blockersOf_42 : decode cX1_blockersOf 42 = .ok (.iload 5, 2) := by decide +kernel
theorem dX1_blockersOf_44 : decode cX1_blockersOf 44 = .ok (.iload_n 1, 1) := by decide +kernel
theorem dX1_blockersOf_45 : decode cX1_blockersOf 45 = .ok (.if_icmp .ge 61, 3) := by decide +kernel
theorem dX1_blockersOf_48 : decode cX1_blockersOf 48 = .ok (.iload_n 3, 1) := by decide +kernel
theorem dX1_blockersOf_49 : decode cX1_blockersOf 49 = .ok (.ifCond .eq 17, 3) := by decide +kernel
theorem dX1_blockersOf_52 : decode cX1_blockersOf 52 = .ok (.aload_n 0, 1) := by decide +kernel
theorem dX1_blockersOf_53 : decode cX1_blockersOf 53 = .ok (.getfield 28, 3) := by decide +kernel
theorem dX1_blockersOf_56 : decode cX1_blockersOf 56 = .ok (.iload 5, 2) := by decide +kernel
theorem dX1_blockersOf_58 : decode cX1_blockersOf 58 = .ok (.iconst 3, 1) := by decide +kernel
theorem dX1_blockersOf_59 : decode cX1_blockersOf 59 = .ok (.invokevirtual 221, 3) := by decide +kernel
theorem dX1_blockersOf_62 : decode cX1_blockersOf 62 = .ok (.iconst 1, 1) := by decide +kernel
theorem dX1_blockersOf_63 : decode cX1_blockersOf 63 = .ok (.if_icmp .eq 37, 3) := by decide +kernel
theorem dX1_blockersOf_66 : decode cX1_blockersOf 66 = .ok (.iload_n 2, 1) := by decide +kernel
theorem dX1_blockersOf_67 : decode cX1_blockersOf 67 = .ok (.aload_n 0, 1) := by decide +kernel
theorem dX1_blockersOf_68 : decode cX1_blockersOf 68 = .ok (.getfield 28, 3) := by decide +kernel
theorem dX1_blockersOf_71 : decode cX1_blockersOf 71 = .ok (.iload 5, 2) := by decide +kernel
theorem dX1_blockersOf_73 : decode cX1_blockersOf 73 = .ok (.iconst 1, 1) := by decide +kernel
theorem dX1_blockersOf_74 : decode cX1_blockersOf 74 = .ok (.invokevirtual 221, 3) := by decide +kernel
theorem dX1_blockersOf_77 : decode cX1_blockersOf 77 = .ok (.invokestatic 173, 3) := by decide +kernel
theorem dX1_blockersOf_80 : decode cX1_blockersOf 80 = .ok (.ifCond .eq 20, 3) := by decide +kernel
theorem dX1_blockersOf_83 : decode cX1_blockersOf 83 = .ok (.iload 4, 2) := by decide +kernel
theorem dX1_blockersOf_85 : decode cX1_blockersOf 85 = .ok (.iconst 1, 1) := by decide +kernel
theorem dX1_blockersOf_86 : decode cX1_blockersOf 86 = .ok (.aload_n 0, 1) := by decide +kernel
theorem dX1_blockersOf_87 : decode cX1_blockersOf 87 = .ok (.getfield 28, 3) := by decide +kernel
theorem dX1_blockersOf_90 : decode cX1_blockersOf 90 = .ok (.iload 5, 2) := by decide +kernel
theorem dX1_blockersOf_92 : decode cX1_blockersOf 92 = .ok (.iconst 0, 1) := by decide +kernel
theorem dX1_blockersOf_93 : decode cX1_blockersOf 93 = .ok (.invokevirtual 221, 3) := by decide +kernel
theorem dX1_blockersOf_96 : decode cX1_blockersOf 96 = .ok (.ishl, 1) := by decide +kernel
theorem dX1_blockersOf_97 : decode cX1_blockersOf 97 = .ok (.ior, 1) := by decide +kernel
theorem dX1_blockersOf_98 : decode cX1_blockersOf 98 = .ok (.istore 4, 2) := by decide +kernel
theorem dX1_blockersOf_100 : decode cX1_blockersOf 100 = .ok (.iinc 5 1, 3) := by decide +kernel
theorem dX1_blockersOf_103 : decode cX1_blockersOf 103 = .ok (.goto (-61), 3) := by decide +kernel
theorem dX1_blockersOf_106 : decode cX1_blockersOf 106 = .ok (.iload 4, 2) := by decide +kernel
theorem dX1_blockersOf_108 : decode cX1_blockersOf 108 = .ok (.ireturn, 1) := by decide +kernel
theorem dX1_usersBefore_0 : decode cX1_usersBefore 0 = .ok (.aload_n 0, 1) := by decide +kernel
theorem dX1_usersBefore_1 : decode cX1_usersBefore 1 = .ok (.iload_n 1, 1) := by decide +kernel
theorem dX1_usersBefore_2 : decode cX1_usersBefore 2 = .ok (.aload_n 0, 1) := by decide +kernel
theorem dX1_usersBefore_3 : decode cX1_usersBefore 3 = .ok (.iload_n 1, 1) := by decide +kernel
theorem dX1_usersBefore_4 : decode cX1_usersBefore 4 = .ok (.invokevirtual 206, 3) := by decide +kernel
theorem dX1_usersBefore_7 : decode cX1_usersBefore 7 = .ok (.invokevirtual 212, 3) := by decide +kernel
theorem dX1_usersBefore_10 : decode cX1_usersBefore 10 = .ok (.aload_n 0, 1) := by decide +kernel
theorem dX1_usersBefore_11 : decode cX1_usersBefore 11 = .ok (.iload_n 1, 1) := by decide +kernel
theorem dX1_usersBefore_12 : decode cX1_usersBefore 12 = .ok (.invokevirtual 215, 3) := by decide +kernel
theorem dX1_usersBefore_15 : decode cX1_usersBefore 15 = .ok (.ior, 1) := by decide +kernel
theorem dX1_usersBefore_16 : decode cX1_usersBefore 16 = .ok (.ireturn, 1) := by decide +kernel
theorem dX1_startCopy_0 : decode cX1_startCopy 0 = .ok (.aload_n 0, 1) := by decide +kernel
theorem dX1_startCopy_1 : decode cX1_startCopy 1 = .ok (.getfield 12, 3) := by decide +kernel
theorem dX1_startCopy_4 : decode cX1_startCopy 4 = .ok (.iload_n 2, 1) := by decide +kernel
theorem dX1_startCopy_5 : decode cX1_startCopy 5 = .ok (.invokevirtual 101, 3) := by decide +kernel
theorem dX1_startCopy_8 : decode cX1_startCopy 8 = .ok (.istore 4, 2) := by decide +kernel
theorem dX1_startCopy_10 : decode cX1_startCopy 10 = .ok (.iconst 0, 1) := by decide +kernel
theorem dX1_startCopy_11 : decode cX1_startCopy 11 = .ok (.istore 5, 2) := by decide +kernel
theorem dX1_startCopy_13 : decode cX1_startCopy 13 = .ok (.iload 5, 2) := by decide +kernel
theorem dX1_startCopy_15 : decode cX1_startCopy 15 = .ok (.bipush 10, 2) := by decide +kernel
theorem dX1_startCopy_17 : decode cX1_startCopy 17 = .ok (.if_icmp .ge 70, 3) := by decide +kernel
theorem dX1_startCopy_20 : decode cX1_startCopy 20 = .ok (.iload_n 3, 1) := by decide +kernel
theorem dX1_startCopy_21 : decode cX1_startCopy 21 = .ok (.iload 5, 2) := by decide +kernel
theorem dX1_startCopy_23 : decode cX1_startCopy 23 = .ok (.invokestatic 173, 3) := by decide +kernel
theorem dX1_startCopy_26 : decode cX1_startCopy 26 = .ok (.ifCond .eq 55, 3) := by decide +kernel
theorem dX1_startCopy_29 : decode cX1_startCopy 29 = .ok (.aload_n 0, 1) := by decide +kernel
theorem dX1_startCopy_30 : decode cX1_startCopy 30 = .ok (.getfield 21, 3) := by decide +kernel
theorem dX1_startCopy_33 : decode cX1_startCopy 33 = .ok (.iload 5, 2) := by decide +kernel
theorem dX1_startCopy_35 : decode cX1_startCopy 35 = .ok (.invokevirtual 235, 3) := by decide +kernel
theorem dX1_startCopy_38 : decode cX1_startCopy 38 = .ok (.ifCond .ne 43, 3) := by decide +kernel
theorem dX1_startCopy_41 : decode cX1_startCopy 41 = .ok (.aload_n 0, 1) := by decide +kernel
theorem dX1_startCopy_42 : decode cX1_startCopy 42 = .ok (.getfield 12, 3) := by decide +kernel
theorem dX1_startCopy_45 : decode cX1_startCopy 45 = .ok (.aload_n 0, 1) := by decide +kernel
theorem dX1_startCopy_46 : decode cX1_startCopy 46 = .ok (.getfield 21, 3) := by decide +kernel
theorem dX1_startCopy_49 : decode cX1_startCopy 49 = .ok (.iload 5, 2) := by decide +kernel
theorem dX1_startCopy_51 : decode cX1_startCopy 51 = .ok (.iconst 1, 1) := by decide +kernel
theorem dX1_startCopy_52 : decode cX1_startCopy 52 = .ok (.invokevirtual 193, 3) := by decide +kernel
theorem dX1_startCopy_55 : decode cX1_startCopy 55 = .ok (.invokevirtual 101, 3) := by decide +kernel
theorem dX1_startCopy_58 : decode cX1_startCopy 58 = .ok (.istore 6, 2) := by decide +kernel
theorem dX1_startCopy_60 : decode cX1_startCopy 60 = .ok (.aload_n 0, 1) := by decide +kernel
theorem dX1_startCopy_61 : decode cX1_startCopy 61 = .ok (.getfield 21, 3) := by decide +kernel
theorem dX1_startCopy_64 : decode cX1_startCopy 64 = .ok (.iload_n 1, 1) := by decide +kernel
theorem dX1_startCopy_65 : decode cX1_startCopy 65 = .ok (.iload 6, 2) := by decide +kernel
theorem dX1_startCopy_67 : decode cX1_startCopy 67 = .ok (.iload 5, 2) := by decide +kernel
theorem dX1_startCopy_69 : decode cX1_startCopy 69 = .ok (.invokevirtual 238, 3) := by decide +kernel
theorem dX1_startCopy_72 : decode cX1_startCopy 72 = .ok (.iload 4, 2) := by decide +kernel
theorem dX1_startCopy_74 : decode cX1_startCopy 74 = .ok (.iload 6, 2) := by decide +kernel
theorem dX1_startCopy_76 : decode cX1_startCopy 76 = .ok (.iconst (-1), 1) := by decide +kernel
theorem dX1_startCopy_77 : decode cX1_startCopy 77 = .ok (.ixor, 1) := by decide +kernel
theorem dX1_startCopy_78 : decode cX1_startCopy 78 = .ok (.iand, 1) := by decide +kernel
theorem dX1_startCopy_79 : decode cX1_startCopy 79 = .ok (.istore 4, 2) := by decide +kernel
theorem dX1_startCopy_81 : decode cX1_startCopy 81 = .ok (.iinc 5 1, 3) := by decide +kernel
theorem dX1_startCopy_84 : decode cX1_startCopy 84 = .ok (.goto (-71), 3) := by decide +kernel
theorem dX1_startCopy_87 : decode cX1_startCopy 87 = .ok (.aload_n 0, 1) := by decide +kernel
theorem dX1_startCopy_88 : decode cX1_startCopy 88 = .ok (.getfield 21, 3) := by decide +kernel
theorem dX1_startCopy_91 : decode cX1_startCopy 91 = .ok (.iload_n 1, 1) := by decide +kernel
theorem dX1_startCopy_92 : decode cX1_startCopy 92 = .ok (.iload 4, 2) := by decide +kernel
theorem dX1_startCopy_94 : decode cX1_startCopy 94 = .ok (.aload_n 0, 1) := by decide +kernel
theorem dX1_startCopy_95 : decode cX1_startCopy 95 = .ok (.getfield 12, 3) := by decide +kernel
theorem dX1_startCopy_98 : decode cX1_startCopy 98 = .ok (.invokevirtual 241, 3) := by decide +kernel
theorem dX1_startCopy_101 : decode cX1_startCopy 101 = .ok (.return_, 1) := by decide +kernel
theorem dX1_waitingFault_0 : decode cX1_waitingFault 0 = .ok (.iload_n 1, 1) := by decide +kernel
theorem dX1_waitingFault_1 : decode cX1_waitingFault 1 = .ok (.invokestatic 187, 3) := by decide +kernel
theorem dX1_waitingFault_4 : decode cX1_waitingFault 4 = .ok (.iconst 1, 1) := by decide +kernel
theorem dX1_waitingFault_5 : decode cX1_waitingFault 5 = .ok (.aload_n 0, 1) := by decide +kernel
theorem dX1_waitingFault_6 : decode cX1_waitingFault 6 = .ok (.getfield 28, 3) := by decide +kernel
theorem dX1_waitingFault_9 : decode cX1_waitingFault 9 = .ok (.iload_n 1, 1) := by decide +kernel
theorem dX1_waitingFault_10 : decode cX1_waitingFault 10 = .ok (.invokevirtual 180, 3) := by decide +kernel
theorem dX1_waitingFault_13 : decode cX1_waitingFault 13 = .ok (.iconst (-1), 1) := by decide +kernel
theorem dX1_waitingFault_14 : decode cX1_waitingFault 14 = .ok (.if_icmp .eq 7, 3) := by decide +kernel
theorem dX1_waitingFault_17 : decode cX1_waitingFault 17 = .ok (.iconst 1, 1) := by decide +kernel
theorem dX1_waitingFault_18 : decode cX1_waitingFault 18 = .ok (.goto 4, 3) := by decide +kernel
theorem dX1_waitingFault_21 : decode cX1_waitingFault 21 = .ok (.iconst 0, 1) := by decide +kernel
theorem dX1_waitingFault_22 : decode cX1_waitingFault 22 = .ok (.invokestatic 94, 3) := by decide +kernel
theorem dX1_waitingFault_25 : decode cX1_waitingFault 25 = .ok (.ireturn, 1) := by decide +kernel
theorem dX1_cancelNow_0 : decode cX1_cancelNow 0 = .ok (.aload_n 0, 1) := by decide +kernel
theorem dX1_cancelNow_1 : decode cX1_cancelNow 1 = .ok (.getfield 28, 3) := by decide +kernel
theorem dX1_cancelNow_4 : decode cX1_cancelNow 4 = .ok (.aload_n 0, 1) := by decide +kernel
theorem dX1_cancelNow_5 : decode cX1_cancelNow 5 = .ok (.getfield 28, 3) := by decide +kernel
theorem dX1_cancelNow_8 : decode cX1_cancelNow 8 = .ok (.iload_n 1, 1) := by decide +kernel
theorem dX1_cancelNow_9 : decode cX1_cancelNow 9 = .ok (.invokevirtual 180, 3) := by decide +kernel
theorem dX1_cancelNow_12 : decode cX1_cancelNow 12 = .ok (.invokevirtual 232, 3) := by decide +kernel
theorem dX1_cancelNow_15 : decode cX1_cancelNow 15 = .ok (.aload_n 0, 1) := by decide +kernel
theorem dX1_cancelNow_16 : decode cX1_cancelNow 16 = .ok (.invokevirtual 245, 3) := by decide +kernel
theorem dX1_cancelNow_19 : decode cX1_cancelNow 19 = .ok (.pop, 1) := by decide +kernel
theorem dX1_cancelNow_20 : decode cX1_cancelNow 20 = .ok (.aload_n 0, 1) := by decide +kernel
theorem dX1_cancelNow_21 : decode cX1_cancelNow 21 = .ok (.getfield 28, 3) := by decide +kernel
theorem dX1_cancelNow_24 : decode cX1_cancelNow 24 = .ok (.getfield 203, 3) := by decide +kernel
theorem dX1_cancelNow_27 : decode cX1_cancelNow 27 = .ok (.ireturn, 1) := by decide +kernel
theorem dX1_checkOutFault_0 : decode cX1_checkOutFault 0 = .ok (.aload_n 0, 1) := by decide +kernel
theorem dX1_checkOutFault_1 : decode cX1_checkOutFault 1 = .ok (.getfield 21, 3) := by decide +kernel
theorem dX1_checkOutFault_4 : decode cX1_checkOutFault 4 = .ok (.iload_n 1, 1) := by decide +kernel
theorem dX1_checkOutFault_5 : decode cX1_checkOutFault 5 = .ok (.invokevirtual 248, 3) := by decide +kernel
theorem dX1_checkOutFault_8 : decode cX1_checkOutFault 8 = .ok (.iconst 1, 1) := by decide +kernel
theorem dX1_checkOutFault_9 : decode cX1_checkOutFault 9 = .ok (.iconst 1, 1) := by decide +kernel
theorem dX1_checkOutFault_10 : decode cX1_checkOutFault 10 = .ok (.invokestatic 94, 3) := by decide +kernel
theorem dX1_checkOutFault_13 : decode cX1_checkOutFault 13 = .ok (.ireturn, 1) := by decide +kernel
theorem dX1_sectionsOf_0 : decode cX1_sectionsOf 0 = .ok (.aload_n 0, 1) := by decide +kernel
theorem dX1_sectionsOf_1 : decode cX1_sectionsOf 1 = .ok (.getfield 12, 3) := by decide +kernel
theorem dX1_sectionsOf_4 : decode cX1_sectionsOf 4 = .ok (.aload_n 0, 1) := by decide +kernel
theorem dX1_sectionsOf_5 : decode cX1_sectionsOf 5 = .ok (.getfield 21, 3) := by decide +kernel
theorem dX1_sectionsOf_8 : decode cX1_sectionsOf 8 = .ok (.iload_n 1, 1) := by decide +kernel
theorem dX1_sectionsOf_9 : decode cX1_sectionsOf 9 = .ok (.iconst 1, 1) := by decide +kernel
theorem dX1_sectionsOf_10 : decode cX1_sectionsOf 10 = .ok (.invokevirtual 193, 3) := by decide +kernel
theorem dX1_sectionsOf_13 : decode cX1_sectionsOf 13 = .ok (.invokevirtual 101, 3) := by decide +kernel
theorem dX1_sectionsOf_16 : decode cX1_sectionsOf 16 = .ok (.ireturn, 1) := by decide +kernel
theorem dX1_hasCopy_0 : decode cX1_hasCopy 0 = .ok (.aload_n 0, 1) := by decide +kernel
theorem dX1_hasCopy_1 : decode cX1_hasCopy 1 = .ok (.getfield 21, 3) := by decide +kernel
theorem dX1_hasCopy_4 : decode cX1_hasCopy 4 = .ok (.iload_n 1, 1) := by decide +kernel
theorem dX1_hasCopy_5 : decode cX1_hasCopy 5 = .ok (.invokevirtual 248, 3) := by decide +kernel
theorem dX1_hasCopy_8 : decode cX1_hasCopy 8 = .ok (.ifCond .eq 28, 3) := by decide +kernel
theorem dX1_hasCopy_11 : decode cX1_hasCopy 11 = .ok (.aload_n 0, 1) := by decide +kernel
theorem dX1_hasCopy_12 : decode cX1_hasCopy 12 = .ok (.iload_n 2, 1) := by decide +kernel
theorem dX1_hasCopy_13 : decode cX1_hasCopy 13 = .ok (.iload_n 3, 1) := by decide +kernel
theorem dX1_hasCopy_14 : decode cX1_hasCopy 14 = .ok (.invokevirtual 123, 3) := by decide +kernel
theorem dX1_hasCopy_17 : decode cX1_hasCopy 17 = .ok (.ifCond .eq 19, 3) := by decide +kernel
theorem dX1_hasCopy_20 : decode cX1_hasCopy 20 = .ok (.aload_n 0, 1) := by decide +kernel
theorem dX1_hasCopy_21 : decode cX1_hasCopy 21 = .ok (.iload_n 1, 1) := by decide +kernel
theorem dX1_hasCopy_22 : decode cX1_hasCopy 22 = .ok (.invokevirtual 249, 3) := by decide +kernel
theorem dX1_hasCopy_25 : decode cX1_hasCopy 25 = .ok (.iload_n 2, 1) := by decide +kernel
theorem dX1_hasCopy_26 : decode cX1_hasCopy 26 = .ok (.invokestatic 173, 3) := by decide +kernel
theorem dX1_hasCopy_29 : decode cX1_hasCopy 29 = .ok (.ifCond .eq 7, 3) := by decide +kernel
theorem dX1_hasCopy_32 : decode cX1_hasCopy 32 = .ok (.iconst 1, 1) := by decide +kernel
theorem dX1_hasCopy_33 : decode cX1_hasCopy 33 = .ok (.goto 4, 3) := by decide +kernel
theorem dX1_hasCopy_36 : decode cX1_hasCopy 36 = .ok (.iconst 0, 1) := by decide +kernel
theorem dX1_hasCopy_37 : decode cX1_hasCopy 37 = .ok (.ireturn, 1) := by decide +kernel
theorem dX1_renewFault_0 : decode cX1_renewFault 0 = .ok (.aload_n 0, 1) := by decide +kernel
theorem dX1_renewFault_1 : decode cX1_renewFault 1 = .ok (.getfield 12, 3) := by decide +kernel
theorem dX1_renewFault_4 : decode cX1_renewFault 4 = .ok (.aload_n 0, 1) := by decide +kernel
theorem dX1_renewFault_5 : decode cX1_renewFault 5 = .ok (.getfield 21, 3) := by decide +kernel
theorem dX1_renewFault_8 : decode cX1_renewFault 8 = .ok (.iload_n 1, 1) := by decide +kernel
theorem dX1_renewFault_9 : decode cX1_renewFault 9 = .ok (.iconst 1, 1) := by decide +kernel
theorem dX1_renewFault_10 : decode cX1_renewFault 10 = .ok (.invokevirtual 193, 3) := by decide +kernel
theorem dX1_renewFault_13 : decode cX1_renewFault 13 = .ok (.invokevirtual 81, 3) := by decide +kernel
theorem dX1_renewFault_16 : decode cX1_renewFault 16 = .ok (.istore_n 3, 1) := by decide +kernel
theorem dX1_renewFault_17 : decode cX1_renewFault 17 = .ok (.aload_n 0, 1) := by decide +kernel
theorem dX1_renewFault_18 : decode cX1_renewFault 18 = .ok (.getfield 21, 3) := by decide +kernel
theorem dX1_renewFault_21 : decode cX1_renewFault 21 = .ok (.iload_n 1, 1) := by decide +kernel
theorem dX1_renewFault_22 : decode cX1_renewFault 22 = .ok (.invokevirtual 190, 3) := by decide +kernel
theorem dX1_renewFault_25 : decode cX1_renewFault 25 = .ok (.ifCond .eq 19, 3) := by decide +kernel
theorem dX1_renewFault_28 : decode cX1_renewFault 28 = .ok (.aload_n 0, 1) := by decide +kernel
theorem dX1_renewFault_29 : decode cX1_renewFault 29 = .ok (.getfield 28, 3) := by decide +kernel
theorem dX1_renewFault_32 : decode cX1_renewFault 32 = .ok (.invokevirtual 71, 3) := by decide +kernel
theorem dX1_renewFault_35 : decode cX1_renewFault 35 = .ok (.iload_n 3, 1) := by decide +kernel
theorem dX1_renewFault_36 : decode cX1_renewFault 36 = .ok (.iand, 1) := by decide +kernel
theorem dX1_renewFault_37 : decode cX1_renewFault 37 = .ok (.ifCond .ne 7, 3) := by decide +kernel
theorem dX1_renewFault_40 : decode cX1_renewFault 40 = .ok (.iconst 1, 1) := by decide +kernel
theorem dX1_renewFault_41 : decode cX1_renewFault 41 = .ok (.goto 4, 3) := by decide +kernel
theorem dX1_renewFault_44 : decode cX1_renewFault 44 = .ok (.iconst 0, 1) := by decide +kernel
theorem dX1_renewFault_45 : decode cX1_renewFault 45 = .ok (.istore 4, 2) := by decide +kernel
theorem dX1_renewFault_47 : decode cX1_renewFault 47 = .ok (.aload_n 0, 1) := by decide +kernel
theorem dX1_renewFault_48 : decode cX1_renewFault 48 = .ok (.getfield 21, 3) := by decide +kernel
theorem dX1_renewFault_51 : decode cX1_renewFault 51 = .ok (.iload_n 1, 1) := by decide +kernel
theorem dX1_renewFault_52 : decode cX1_renewFault 52 = .ok (.invokevirtual 248, 3) := by decide +kernel
theorem dX1_renewFault_55 : decode cX1_renewFault 55 = .ok (.iload_n 2, 1) := by decide +kernel
theorem dX1_renewFault_56 : decode cX1_renewFault 56 = .ok (.iconst 1, 1) := by decide +kernel
theorem dX1_renewFault_57 : decode cX1_renewFault 57 = .ok (.sipush 1000, 3) := by decide +kernel
theorem dX1_renewFault_60 : decode cX1_renewFault 60 = .ok (.invokestatic 126, 3) := by decide +kernel
theorem dX1_renewFault_63 : decode cX1_renewFault 63 = .ok (.iload 4, 2) := by decide +kernel
theorem dX1_renewFault_65 : decode cX1_renewFault 65 = .ok (.invokestatic 94, 3) := by decide +kernel
theorem dX1_renewFault_68 : decode cX1_renewFault 68 = .ok (.ireturn, 1) := by decide +kernel
theorem dX1_renewNow_0 : decode cX1_renewNow 0 = .ok (.aload_n 0, 1) := by decide +kernel
theorem dX1_renewNow_1 : decode cX1_renewNow 1 = .ok (.getfield 21, 3) := by decide +kernel
theorem dX1_renewNow_4 : decode cX1_renewNow 4 = .ok (.iload_n 1, 1) := by decide +kernel
theorem dX1_renewNow_5 : decode cX1_renewNow 5 = .ok (.aload_n 0, 1) := by decide +kernel
theorem dX1_renewNow_6 : decode cX1_renewNow 6 = .ok (.getfield 63, 3) := by decide +kernel
theorem dX1_renewNow_9 : decode cX1_renewNow 9 = .ok (.iload_n 2, 1) := by decide +kernel
theorem dX1_renewNow_10 : decode cX1_renewNow 10 = .ok (.iadd, 1) := by decide +kernel
theorem dX1_renewNow_11 : decode cX1_renewNow 11 = .ok (.invokevirtual 252, 3) := by decide +kernel
theorem dX1_renewNow_14 : decode cX1_renewNow 14 = .ok (.aload_n 0, 1) := by decide +kernel
theorem dX1_renewNow_15 : decode cX1_renewNow 15 = .ok (.getfield 21, 3) := by decide +kernel
theorem dX1_renewNow_18 : decode cX1_renewNow 18 = .ok (.iload_n 1, 1) := by decide +kernel
theorem dX1_renewNow_19 : decode cX1_renewNow 19 = .ok (.iconst 2, 1) := by decide +kernel
theorem dX1_renewNow_20 : decode cX1_renewNow 20 = .ok (.invokevirtual 193, 3) := by decide +kernel
theorem dX1_renewNow_23 : decode cX1_renewNow 23 = .ok (.ireturn, 1) := by decide +kernel
theorem dX1_breakFault_0 : decode cX1_breakFault 0 = .ok (.aload_n 0, 1) := by decide +kernel
theorem dX1_breakFault_1 : decode cX1_breakFault 1 = .ok (.getfield 21, 3) := by decide +kernel
theorem dX1_breakFault_4 : decode cX1_breakFault 4 = .ok (.iload_n 1, 1) := by decide +kernel
theorem dX1_breakFault_5 : decode cX1_breakFault 5 = .ok (.invokevirtual 248, 3) := by decide +kernel
theorem dX1_breakFault_8 : decode cX1_breakFault 8 = .ok (.iconst 1, 1) := by decide +kernel
theorem dX1_breakFault_9 : decode cX1_breakFault 9 = .ok (.aload_n 0, 1) := by decide +kernel
theorem dX1_breakFault_10 : decode cX1_breakFault 10 = .ok (.getfield 21, 3) := by decide +kernel
theorem dX1_breakFault_13 : decode cX1_breakFault 13 = .ok (.iload_n 1, 1) := by decide +kernel
theorem dX1_breakFault_14 : decode cX1_breakFault 14 = .ok (.invokevirtual 190, 3) := by decide +kernel
theorem dX1_breakFault_17 : decode cX1_breakFault 17 = .ok (.invokestatic 94, 3) := by decide +kernel
theorem dX1_breakFault_20 : decode cX1_breakFault 20 = .ok (.ireturn, 1) := by decide +kernel
theorem dX1_breakNow_0 : decode cX1_breakNow 0 = .ok (.aload_n 0, 1) := by decide +kernel
theorem dX1_breakNow_1 : decode cX1_breakNow 1 = .ok (.getfield 21, 3) := by decide +kernel
theorem dX1_breakNow_4 : decode cX1_breakNow 4 = .ok (.iload_n 1, 1) := by decide +kernel
theorem dX1_breakNow_5 : decode cX1_breakNow 5 = .ok (.iconst 0, 1) := by decide +kernel
theorem dX1_breakNow_6 : decode cX1_breakNow 6 = .ok (.invokevirtual 193, 3) := by decide +kernel
theorem dX1_breakNow_9 : decode cX1_breakNow 9 = .ok (.istore_n 2, 1) := by decide +kernel
theorem dX1_breakNow_10 : decode cX1_breakNow 10 = .ok (.aload_n 0, 1) := by decide +kernel
theorem dX1_breakNow_11 : decode cX1_breakNow 11 = .ok (.getfield 21, 3) := by decide +kernel
theorem dX1_breakNow_14 : decode cX1_breakNow 14 = .ok (.iload_n 1, 1) := by decide +kernel
theorem dX1_breakNow_15 : decode cX1_breakNow 15 = .ok (.invokevirtual 255, 3) := by decide +kernel
theorem dX1_breakNow_18 : decode cX1_breakNow 18 = .ok (.aload_n 0, 1) := by decide +kernel
theorem dX1_breakNow_19 : decode cX1_breakNow 19 = .ok (.invokevirtual 245, 3) := by decide +kernel
theorem dX1_breakNow_22 : decode cX1_breakNow 22 = .ok (.pop, 1) := by decide +kernel
theorem dX1_breakNow_23 : decode cX1_breakNow 23 = .ok (.iload_n 2, 1) := by decide +kernel
theorem dX1_breakNow_24 : decode cX1_breakNow 24 = .ok (.ireturn, 1) := by decide +kernel
theorem dX1_discardNow_0 : decode cX1_discardNow 0 = .ok (.aload_n 0, 1) := by decide +kernel
theorem dX1_discardNow_1 : decode cX1_discardNow 1 = .ok (.iload_n 1, 1) := by decide +kernel
theorem dX1_discardNow_2 : decode cX1_discardNow 2 = .ok (.invokevirtual 258, 3) := by decide +kernel
theorem dX1_discardNow_5 : decode cX1_discardNow 5 = .ok (.istore_n 2, 1) := by decide +kernel
theorem dX1_discardNow_6 : decode cX1_discardNow 6 = .ok (.aload_n 0, 1) := by decide +kernel
theorem dX1_discardNow_7 : decode cX1_discardNow 7 = .ok (.getfield 21, 3) := by decide +kernel
theorem dX1_discardNow_10 : decode cX1_discardNow 10 = .ok (.iload_n 1, 1) := by decide +kernel
theorem dX1_discardNow_11 : decode cX1_discardNow 11 = .ok (.invokevirtual 261, 3) := by decide +kernel
theorem dX1_discardNow_14 : decode cX1_discardNow 14 = .ok (.aload_n 0, 1) := by decide +kernel
theorem dX1_discardNow_15 : decode cX1_discardNow 15 = .ok (.invokevirtual 245, 3) := by decide +kernel
theorem dX1_discardNow_18 : decode cX1_discardNow 18 = .ok (.pop, 1) := by decide +kernel
theorem dX1_discardNow_19 : decode cX1_discardNow 19 = .ok (.iload_n 2, 1) := by decide +kernel
theorem dX1_discardNow_20 : decode cX1_discardNow 20 = .ok (.ireturn, 1) := by decide +kernel
theorem dX1_countEdited_0 : decode cX1_countEdited 0 = .ok (.aload_n 0, 1) := by decide +kernel
theorem dX1_countEdited_1 : decode cX1_countEdited 1 = .ok (.iload_n 1, 1) := by decide +kernel
theorem dX1_countEdited_2 : decode cX1_countEdited 2 = .ok (.invokevirtual 249, 3) := by decide +kernel
theorem dX1_countEdited_5 : decode cX1_countEdited 5 = .ok (.istore_n 2, 1) := by decide +kernel
theorem dX1_countEdited_6 : decode cX1_countEdited 6 = .ok (.iconst 0, 1) := by decide +kernel
theorem dX1_countEdited_7 : decode cX1_countEdited 7 = .ok (.istore_n 3, 1) := by decide +kernel
theorem dX1_countEdited_8 : decode cX1_countEdited 8 = .ok (.iconst 0, 1) := by decide +kernel
theorem dX1_countEdited_9 : decode cX1_countEdited 9 = .ok (.istore 4, 2) := by decide +kernel
theorem dX1_countEdited_11 : decode cX1_countEdited 11 = .ok (.iload 4, 2) := by decide +kernel
theorem dX1_countEdited_13 : decode cX1_countEdited 13 = .ok (.bipush 120, 2) := by decide +kernel
theorem dX1_countEdited_15 : decode cX1_countEdited 15 = .ok (.if_icmp .ge 47, 3) := by decide +kernel
theorem dX1_countEdited_18 : decode cX1_countEdited 18 = .ok (.iload_n 2, 1) := by decide +kernel
theorem dX1_countEdited_19 : decode cX1_countEdited 19 = .ok (.iload 4, 2) := by decide +kernel
theorem dX1_countEdited_21 : decode cX1_countEdited 21 = .ok (.bipush 6, 2) := by decide +kernel
theorem dX1_countEdited_23 : decode cX1_countEdited 23 = .ok (.idiv, 1) := by decide +kernel
theorem dX1_countEdited_24 : decode cX1_countEdited 24 = .ok (.invokestatic 173, 3) := by decide +kernel
theorem dX1_countEdited_27 : decode cX1_countEdited 27 = .ok (.ifCond .eq 29, 3) := by decide +kernel
theorem dX1_countEdited_30 : decode cX1_countEdited 30 = .ok (.aload_n 0, 1) := by decide +kernel
theorem dX1_countEdited_31 : decode cX1_countEdited 31 = .ok (.getfield 21, 3) := by decide +kernel
theorem dX1_countEdited_34 : decode cX1_countEdited 34 = .ok (.iload_n 1, 1) := by decide +kernel
theorem dX1_countEdited_35 : decode cX1_countEdited 35 = .ok (.iload 4, 2) := by decide +kernel
theorem dX1_countEdited_37 : decode cX1_countEdited 37 = .ok (.invokevirtual 264, 3) := by decide +kernel
theorem dX1_countEdited_40 : decode cX1_countEdited 40 = .ok (.aload_n 0, 1) := by decide +kernel
theorem dX1_countEdited_41 : decode cX1_countEdited 41 = .ok (.getfield 21, 3) := by decide +kernel
theorem dX1_countEdited_44 : decode cX1_countEdited 44 = .ok (.iload_n 1, 1) := by decide +kernel
theorem dX1_countEdited_45 : decode cX1_countEdited 45 = .ok (.iload 4, 2) := by decide +kernel
theorem dX1_countEdited_47 : decode cX1_countEdited 47 = .ok (.invokevirtual 267, 3) := by decide +kernel
theorem dX1_countEdited_50 : decode cX1_countEdited 50 = .ok (.if_icmp .eq 6, 3) := by decide +kernel
theorem dX1_countEdited_53 : decode cX1_countEdited 53 = .ok (.iinc 3 1, 3) := by decide +kernel
theorem dX1_countEdited_56 : decode cX1_countEdited 56 = .ok (.iinc 4 1, 3) := by decide +kernel
theorem dX1_countEdited_59 : decode cX1_countEdited 59 = .ok (.goto (-48), 3) := by decide +kernel
theorem dX1_countEdited_62 : decode cX1_countEdited 62 = .ok (.iload_n 3, 1) := by decide +kernel
theorem dX1_countEdited_63 : decode cX1_countEdited 63 = .ok (.ireturn, 1) := by decide +kernel
theorem dX1_editFault_0 : decode cX1_editFault 0 = .ok (.aload_n 0, 1) := by decide +kernel
theorem dX1_editFault_1 : decode cX1_editFault 1 = .ok (.iload_n 1, 1) := by decide +kernel
theorem dX1_editFault_2 : decode cX1_editFault 2 = .ok (.iload_n 2, 1) := by decide +kernel
theorem dX1_editFault_3 : decode cX1_editFault 3 = .ok (.iload_n 3, 1) := by decide +kernel
theorem dX1_editFault_4 : decode cX1_editFault 4 = .ok (.invokevirtual 270, 3) := by decide +kernel
theorem dX1_editFault_7 : decode cX1_editFault 7 = .ok (.iload 4, 2) := by decide +kernel
theorem dX1_editFault_9 : decode cX1_editFault 9 = .ok (.iconst 0, 1) := by decide +kernel
theorem dX1_editFault_10 : decode cX1_editFault 10 = .ok (.sipush 999, 3) := by decide +kernel
theorem dX1_editFault_13 : decode cX1_editFault 13 = .ok (.invokestatic 126, 3) := by decide +kernel
theorem dX1_editFault_16 : decode cX1_editFault 16 = .ok (.aload_n 0, 1) := by decide +kernel
theorem dX1_editFault_17 : decode cX1_editFault 17 = .ok (.getfield 21, 3) := by decide +kernel
theorem dX1_editFault_20 : decode cX1_editFault 20 = .ok (.iload_n 1, 1) := by decide +kernel
theorem dX1_editFault_21 : decode cX1_editFault 21 = .ok (.invokevirtual 235, 3) := by decide +kernel
theorem dX1_editFault_24 : decode cX1_editFault 24 = .ok (.ifCond .ne 7, 3) := by decide +kernel
theorem dX1_editFault_27 : decode cX1_editFault 27 = .ok (.iconst 1, 1) := by decide +kernel
theorem dX1_editFault_28 : decode cX1_editFault 28 = .ok (.goto 4, 3) := by decide +kernel
theorem dX1_editFault_31 : decode cX1_editFault 31 = .ok (.iconst 0, 1) := by decide +kernel
theorem dX1_editFault_32 : decode cX1_editFault 32 = .ok (.invokestatic 94, 3) := by decide +kernel
theorem dX1_editFault_35 : decode cX1_editFault 35 = .ok (.ireturn, 1) := by decide +kernel
theorem dX1_editNow_0 : decode cX1_editNow 0 = .ok (.iload_n 2, 1) := by decide +kernel
theorem dX1_editNow_1 : decode cX1_editNow 1 = .ok (.iload_n 3, 1) := by decide +kernel
theorem dX1_editNow_2 : decode cX1_editNow 2 = .ok (.invokestatic 130, 3) := by decide +kernel
theorem dX1_editNow_5 : decode cX1_editNow 5 = .ok (.istore 5, 2) := by decide +kernel
theorem dX1_editNow_7 : decode cX1_editNow 7 = .ok (.aload_n 0, 1) := by decide +kernel
theorem dX1_editNow_8 : decode cX1_editNow 8 = .ok (.getfield 21, 3) := by decide +kernel
theorem dX1_editNow_11 : decode cX1_editNow 11 = .ok (.iload_n 1, 1) := by decide +kernel
theorem dX1_editNow_12 : decode cX1_editNow 12 = .ok (.iload 5, 2) := by decide +kernel
theorem dX1_editNow_14 : decode cX1_editNow 14 = .ok (.invokevirtual 264, 3) := by decide +kernel
theorem dX1_editNow_17 : decode cX1_editNow 17 = .ok (.istore 6, 2) := by decide +kernel
theorem dX1_editNow_19 : decode cX1_editNow 19 = .ok (.aload_n 0, 1) := by decide +kernel
theorem dX1_editNow_20 : decode cX1_editNow 20 = .ok (.getfield 21, 3) := by decide +kernel
theorem dX1_editNow_23 : decode cX1_editNow 23 = .ok (.iload_n 1, 1) := by decide +kernel
theorem dX1_editNow_24 : decode cX1_editNow 24 = .ok (.iload 5, 2) := by decide +kernel
theorem dX1_editNow_26 : decode cX1_editNow 26 = .ok (.iload 4, 2) := by decide +kernel
theorem dX1_editNow_28 : decode cX1_editNow 28 = .ok (.invokevirtual 273, 3) := by decide +kernel
theorem dX1_editNow_31 : decode cX1_editNow 31 = .ok (.iload 6, 2) := by decide +kernel
theorem dX1_editNow_33 : decode cX1_editNow 33 = .ok (.ireturn, 1) := by decide +kernel
theorem dX1_holdersOf_0 : decode cX1_holdersOf 0 = .ok (.iconst 0, 1) := by decide +kernel
theorem dX1_holdersOf_1 : decode cX1_holdersOf 1 = .ok (.istore_n 2, 1) := by decide +kernel
theorem dX1_holdersOf_2 : decode cX1_holdersOf 2 = .ok (.iconst 0, 1) := by decide +kernel
theorem dX1_holdersOf_3 : decode cX1_holdersOf 3 = .ok (.istore_n 3, 1) := by decide +kernel
theorem dX1_holdersOf_4 : decode cX1_holdersOf 4 = .ok (.iload_n 3, 1) := by decide +kernel
theorem dX1_holdersOf_5 : decode cX1_holdersOf 5 = .ok (.bipush 10, 2) := by decide +kernel
theorem dX1_holdersOf_7 : decode cX1_holdersOf 7 = .ok (.if_icmp .ge 38, 3) := by decide +kernel
theorem dX1_holdersOf_10 : decode cX1_holdersOf 10 = .ok (.aload_n 0, 1) := by decide +kernel
theorem dX1_holdersOf_11 : decode cX1_holdersOf 11 = .ok (.getfield 21, 3) := by decide +kernel
theorem dX1_holdersOf_14 : decode cX1_holdersOf 14 = .ok (.iload_n 3, 1) := by decide +kernel
theorem dX1_holdersOf_15 : decode cX1_holdersOf 15 = .ok (.invokevirtual 190, 3) := by decide +kernel
theorem dX1_holdersOf_18 : decode cX1_holdersOf 18 = .ok (.ifCond .eq 21, 3) := by decide +kernel
theorem dX1_holdersOf_21 : decode cX1_holdersOf 21 = .ok (.aload_n 0, 1) := by decide +kernel
theorem dX1_holdersOf_22 : decode cX1_holdersOf 22 = .ok (.iload_n 3, 1) := by decide +kernel
theorem dX1_holdersOf_23 : decode cX1_holdersOf 23 = .ok (.invokevirtual 249, 3) := by decide +kernel
theorem dX1_holdersOf_26 : decode cX1_holdersOf 26 = .ok (.iload_n 1, 1) := by decide +kernel
theorem dX1_holdersOf_27 : decode cX1_holdersOf 27 = .ok (.invokestatic 173, 3) := by decide +kernel
theorem dX1_holdersOf_30 : decode cX1_holdersOf 30 = .ok (.ifCond .eq 9, 3) := by decide +kernel
theorem dX1_holdersOf_33 : decode cX1_holdersOf 33 = .ok (.iload_n 2, 1) := by decide +kernel
theorem dX1_holdersOf_34 : decode cX1_holdersOf 34 = .ok (.iconst 1, 1) := by decide +kernel
theorem dX1_holdersOf_35 : decode cX1_holdersOf 35 = .ok (.iload_n 3, 1) := by decide +kernel
theorem dX1_holdersOf_36 : decode cX1_holdersOf 36 = .ok (.ishl, 1) := by decide +kernel
theorem dX1_holdersOf_37 : decode cX1_holdersOf 37 = .ok (.ior, 1) := by decide +kernel
theorem dX1_holdersOf_38 : decode cX1_holdersOf 38 = .ok (.istore_n 2, 1) := by decide +kernel
theorem dX1_holdersOf_39 : decode cX1_holdersOf 39 = .ok (.iinc 3 1, 3) := by decide +kernel
theorem dX1_holdersOf_42 : decode cX1_holdersOf 42 = .ok (.goto (-38), 3) := by decide +kernel
theorem dX1_holdersOf_45 : decode cX1_holdersOf 45 = .ok (.iload_n 2, 1) := by decide +kernel
theorem dX1_holdersOf_46 : decode cX1_holdersOf 46 = .ok (.ireturn, 1) := by decide +kernel
theorem dX1_giveBackFault_0 : decode cX1_giveBackFault 0 = .ok (.aload_n 0, 1) := by decide +kernel
theorem dX1_giveBackFault_1 : decode cX1_giveBackFault 1 = .ok (.getfield 21, 3) := by decide +kernel
theorem dX1_giveBackFault_4 : decode cX1_giveBackFault 4 = .ok (.iload_n 1, 1) := by decide +kernel
theorem dX1_giveBackFault_5 : decode cX1_giveBackFault 5 = .ok (.invokevirtual 190, 3) := by decide +kernel
theorem dX1_giveBackFault_8 : decode cX1_giveBackFault 8 = .ok (.ifCond .ne 31, 3) := by decide +kernel
theorem dX1_giveBackFault_11 : decode cX1_giveBackFault 11 = .ok (.aload_n 0, 1) := by decide +kernel
theorem dX1_giveBackFault_12 : decode cX1_giveBackFault 12 = .ok (.aload_n 0, 1) := by decide +kernel
theorem dX1_giveBackFault_13 : decode cX1_giveBackFault 13 = .ok (.getfield 21, 3) := by decide +kernel
theorem dX1_giveBackFault_16 : decode cX1_giveBackFault 16 = .ok (.iload_n 1, 1) := by decide +kernel
theorem dX1_giveBackFault_17 : decode cX1_giveBackFault 17 = .ok (.iconst 1, 1) := by decide +kernel
theorem dX1_giveBackFault_18 : decode cX1_giveBackFault 18 = .ok (.invokevirtual 193, 3) := by decide +kernel
theorem dX1_giveBackFault_21 : decode cX1_giveBackFault 21 = .ok (.invokevirtual 170, 3) := by decide +kernel
theorem dX1_giveBackFault_24 : decode cX1_giveBackFault 24 = .ok (.ifCond .ne 19, 3) := by decide +kernel
theorem dX1_giveBackFault_27 : decode cX1_giveBackFault 27 = .ok (.iload_n 2, 1) := by decide +kernel
theorem dX1_giveBackFault_28 : decode cX1_giveBackFault 28 = .ok (.ifCond .ne 11, 3) := by decide +kernel
theorem dX1_giveBackFault_31 : decode cX1_giveBackFault 31 = .ok (.aload_n 0, 1) := by decide +kernel
theorem dX1_giveBackFault_32 : decode cX1_giveBackFault 32 = .ok (.iload_n 1, 1) := by decide +kernel
theorem dX1_giveBackFault_33 : decode cX1_giveBackFault 33 = .ok (.invokevirtual 276, 3) := by decide +kernel
theorem dX1_giveBackFault_36 : decode cX1_giveBackFault 36 = .ok (.ifCond .gt 7, 3) := by decide +kernel
theorem dX1_giveBackFault_39 : decode cX1_giveBackFault 39 = .ok (.iconst 1, 1) := by decide +kernel
theorem dX1_giveBackFault_40 : decode cX1_giveBackFault 40 = .ok (.goto 4, 3) := by decide +kernel
theorem dX1_giveBackFault_43 : decode cX1_giveBackFault 43 = .ok (.iconst 0, 1) := by decide +kernel
theorem dX1_giveBackFault_44 : decode cX1_giveBackFault 44 = .ok (.istore_n 3, 1) := by decide +kernel
theorem dX1_giveBackFault_45 : decode cX1_giveBackFault 45 = .ok (.aload_n 0, 1) := by decide +kernel
theorem dX1_giveBackFault_46 : decode cX1_giveBackFault 46 = .ok (.getfield 21, 3) := by decide +kernel
theorem dX1_giveBackFault_49 : decode cX1_giveBackFault 49 = .ok (.iload_n 1, 1) := by decide +kernel
theorem dX1_giveBackFault_50 : decode cX1_giveBackFault 50 = .ok (.invokevirtual 248, 3) := by decide +kernel
theorem dX1_giveBackFault_53 : decode cX1_giveBackFault 53 = .ok (.iload_n 2, 1) := by decide +kernel
theorem dX1_giveBackFault_54 : decode cX1_giveBackFault 54 = .ok (.iconst 0, 1) := by decide +kernel
theorem dX1_giveBackFault_55 : decode cX1_giveBackFault 55 = .ok (.iconst 2, 1) := by decide +kernel
theorem dX1_giveBackFault_56 : decode cX1_giveBackFault 56 = .ok (.invokestatic 126, 3) := by decide +kernel
theorem dX1_giveBackFault_59 : decode cX1_giveBackFault 59 = .ok (.iload_n 3, 1) := by decide +kernel
theorem dX1_giveBackFault_60 : decode cX1_giveBackFault 60 = .ok (.invokestatic 94, 3) := by decide +kernel
theorem dX1_giveBackFault_63 : decode cX1_giveBackFault 63 = .ok (.ireturn, 1) := by decide +kernel
theorem dX1_countConflicts_0 : decode cX1_countConflicts 0 = .ok (.aload_n 0, 1) := by decide +kernel
theorem dX1_countConflicts_1 : decode cX1_countConflicts 1 = .ok (.getfield 21, 3) := by decide +kernel
theorem dX1_countConflicts_4 : decode cX1_countConflicts 4 = .ok (.iload_n 1, 1) := by decide +kernel
theorem dX1_countConflicts_5 : decode cX1_countConflicts 5 = .ok (.invokevirtual 190, 3) := by decide +kernel
theorem dX1_countConflicts_8 : decode cX1_countConflicts 8 = .ok (.ifCond .eq 5, 3) := by decide +kernel
theorem dX1_countConflicts_11 : decode cX1_countConflicts 11 = .ok (.iconst 0, 1) := by decide +kernel
theorem dX1_countConflicts_12 : decode cX1_countConflicts 12 = .ok (.ireturn, 1) := by decide +kernel
theorem dX1_countConflicts_13 : decode cX1_countConflicts 13 = .ok (.aload_n 0, 1) := by decide +kernel
theorem dX1_countConflicts_14 : decode cX1_countConflicts 14 = .ok (.iload_n 1, 1) := by decide +kernel
theorem dX1_countConflicts_15 : decode cX1_countConflicts 15 = .ok (.invokevirtual 249, 3) := by decide +kernel
theorem dX1_countConflicts_18 : decode cX1_countConflicts 18 = .ok (.istore_n 2, 1) := by decide +kernel
theorem dX1_countConflicts_19 : decode cX1_countConflicts 19 = .ok (.iconst 0, 1) := by decide +kernel
theorem dX1_countConflicts_20 : decode cX1_countConflicts 20 = .ok (.istore_n 3, 1) := by decide +kernel
theorem dX1_countConflicts_21 : decode cX1_countConflicts 21 = .ok (.iconst 0, 1) := by decide +kernel
theorem dX1_countConflicts_22 : decode cX1_countConflicts 22 = .ok (.istore 4, 2) := by decide +kernel
theorem dX1_countConflicts_24 : decode cX1_countConflicts 24 = .ok (.iload 4, 2) := by decide +kernel
theorem dX1_countConflicts_26 : decode cX1_countConflicts 26 = .ok (.bipush 120, 2) := by decide +kernel
theorem dX1_countConflicts_28 : decode cX1_countConflicts 28 = .ok (.if_icmp .ge 34, 3) := by decide +kernel
theorem dX1_countConflicts_31 : decode cX1_countConflicts 31 = .ok (.iload_n 2, 1) := by decide +kernel
theorem dX1_countConflicts_32 : decode cX1_countConflicts 32 = .ok (.iload 4, 2) := by decide +kernel
theorem dX1_countConflicts_34 : decode cX1_countConflicts 34 = .ok (.bipush 6, 2) := by decide +kernel
theorem dX1_countConflicts_36 : decode cX1_countConflicts 36 = .ok (.idiv, 1) := by decide +kernel
theorem dX1_countConflicts_37 : decode cX1_countConflicts 37 = .ok (.invokestatic 173, 3) := by decide +kernel
theorem dX1_countConflicts_40 : decode cX1_countConflicts 40 = .ok (.ifCond .eq 16, 3) := by decide +kernel
theorem dX1_countConflicts_43 : decode cX1_countConflicts 43 = .ok (.aload_n 0, 1) := by decide +kernel
theorem dX1_countConflicts_44 : decode cX1_countConflicts 44 = .ok (.iload_n 1, 1) := by decide +kernel
theorem dX1_countConflicts_45 : decode cX1_countConflicts 45 = .ok (.iload 4, 2) := by decide +kernel
theorem dX1_countConflicts_47 : decode cX1_countConflicts 47 = .ok (.invokevirtual 279, 3) := by decide +kernel
theorem dX1_countConflicts_50 : decode cX1_countConflicts 50 = .ok (.ifCond .eq 6, 3) := by decide +kernel
theorem dX1_countConflicts_53 : decode cX1_countConflicts 53 = .ok (.iinc 3 1, 3) := by decide +kernel
theorem dX1_countConflicts_56 : decode cX1_countConflicts 56 = .ok (.iinc 4 1, 3) := by decide +kernel
theorem dX1_countConflicts_59 : decode cX1_countConflicts 59 = .ok (.goto (-35), 3) := by decide +kernel
theorem dX1_countConflicts_62 : decode cX1_countConflicts 62 = .ok (.iload_n 3, 1) := by decide +kernel
theorem dX1_countConflicts_63 : decode cX1_countConflicts 63 = .ok (.ireturn, 1) := by decide +kernel
theorem dX1_isConflict_0 : decode cX1_isConflict 0 = .ok (.aload_n 0, 1) := by decide +kernel
theorem dX1_isConflict_1 : decode cX1_isConflict 1 = .ok (.getfield 21, 3) := by decide +kernel
theorem dX1_isConflict_4 : decode cX1_isConflict 4 = .ok (.iload_n 1, 1) := by decide +kernel
theorem dX1_isConflict_5 : decode cX1_isConflict 5 = .ok (.iload_n 2, 1) := by decide +kernel
theorem dX1_isConflict_6 : decode cX1_isConflict 6 = .ok (.invokevirtual 267, 3) := by decide +kernel
theorem dX1_isConflict_9 : decode cX1_isConflict 9 = .ok (.istore_n 3, 1) := by decide +kernel
theorem dX1_isConflict_10 : decode cX1_isConflict 10 = .ok (.aload_n 0, 1) := by decide +kernel
theorem dX1_isConflict_11 : decode cX1_isConflict 11 = .ok (.getfield 21, 3) := by decide +kernel
theorem dX1_isConflict_14 : decode cX1_isConflict 14 = .ok (.iload_n 1, 1) := by decide +kernel
theorem dX1_isConflict_15 : decode cX1_isConflict 15 = .ok (.iload_n 2, 1) := by decide +kernel
theorem dX1_isConflict_16 : decode cX1_isConflict 16 = .ok (.invokevirtual 264, 3) := by decide +kernel
theorem dX1_isConflict_19 : decode cX1_isConflict 19 = .ok (.istore 4, 2) := by decide +kernel
theorem dX1_isConflict_21 : decode cX1_isConflict 21 = .ok (.aload_n 0, 1) := by decide +kernel
theorem dX1_isConflict_22 : decode cX1_isConflict 22 = .ok (.getfield 12, 3) := by decide +kernel
theorem dX1_isConflict_25 : decode cX1_isConflict 25 = .ok (.iload_n 2, 1) := by decide +kernel
theorem dX1_isConflict_26 : decode cX1_isConflict 26 = .ok (.invokevirtual 134, 3) := by decide +kernel
theorem dX1_isConflict_29 : decode cX1_isConflict 29 = .ok (.istore 5, 2) := by decide +kernel
theorem dX1_isConflict_31 : decode cX1_isConflict 31 = .ok (.iload 4, 2) := by decide +kernel
theorem dX1_isConflict_33 : decode cX1_isConflict 33 = .ok (.iload_n 3, 1) := by decide +kernel
theorem dX1_isConflict_34 : decode cX1_isConflict 34 = .ok (.if_icmp .eq 20, 3) := by decide +kernel
theorem dX1_isConflict_37 : decode cX1_isConflict 37 = .ok (.iload 5, 2) := by decide +kernel
theorem dX1_isConflict_39 : decode cX1_isConflict 39 = .ok (.iload_n 3, 1) := by decide +kernel
theorem dX1_isConflict_40 : decode cX1_isConflict 40 = .ok (.if_icmp .eq 14, 3) := by decide +kernel
theorem dX1_isConflict_43 : decode cX1_isConflict 43 = .ok (.iload 5, 2) := by decide +kernel
theorem dX1_isConflict_45 : decode cX1_isConflict 45 = .ok (.iload 4, 2) := by decide +kernel
theorem dX1_isConflict_47 : decode cX1_isConflict 47 = .ok (.if_icmp .eq 7, 3) := by decide +kernel
theorem dX1_isConflict_50 : decode cX1_isConflict 50 = .ok (.iconst 1, 1) := by decide +kernel
theorem dX1_isConflict_51 : decode cX1_isConflict 51 = .ok (.goto 4, 3) := by decide +kernel
theorem dX1_isConflict_54 : decode cX1_isConflict 54 = .ok (.iconst 0, 1) := by decide +kernel
theorem dX1_isConflict_55 : decode cX1_isConflict 55 = .ok (.ireturn, 1) := by decide +kernel
theorem dX1_giveBackNow_0 : decode cX1_giveBackNow 0 = .ok (.aload_n 0, 1) := by decide +kernel
theorem dX1_giveBackNow_1 : decode cX1_giveBackNow 1 = .ok (.invokevirtual 137, 3) := by decide +kernel
theorem dX1_giveBackNow_4 : decode cX1_giveBackNow 4 = .ok (.aload_n 0, 1) := by decide +kernel
theorem dX1_giveBackNow_5 : decode cX1_giveBackNow 5 = .ok (.getfield 21, 3) := by decide +kernel
theorem dX1_giveBackNow_8 : decode cX1_giveBackNow 8 = .ok (.iload_n 1, 1) := by decide +kernel
theorem dX1_giveBackNow_9 : decode cX1_giveBackNow 9 = .ok (.invokevirtual 235, 3) := by decide +kernel
theorem dX1_giveBackNow_12 : decode cX1_giveBackNow 12 = .ok (.ifCond .ne 9, 3) := by decide +kernel
theorem dX1_giveBackNow_15 : decode cX1_giveBackNow 15 = .ok (.aload_n 0, 1) := by decide +kernel
theorem dX1_giveBackNow_16 : decode cX1_giveBackNow 16 = .ok (.iload_n 1, 1) := by decide +kernel
theorem dX1_giveBackNow_17 : decode cX1_giveBackNow 17 = .ok (.iload_n 2, 1) := by decide +kernel
theorem dX1_giveBackNow_18 : decode cX1_giveBackNow 18 = .ok (.invokevirtual 282, 3) := by decide +kernel
theorem dX1_giveBackNow_21 : decode cX1_giveBackNow 21 = .ok (.aload_n 0, 1) := by decide +kernel
theorem dX1_giveBackNow_22 : decode cX1_giveBackNow 22 = .ok (.aload_n 0, 1) := by decide +kernel
theorem dX1_giveBackNow_23 : decode cX1_giveBackNow 23 = .ok (.getfield 21, 3) := by decide +kernel
theorem dX1_giveBackNow_26 : decode cX1_giveBackNow 26 = .ok (.iload_n 1, 1) := by decide +kernel
theorem dX1_giveBackNow_27 : decode cX1_giveBackNow 27 = .ok (.iconst 0, 1) := by decide +kernel
theorem dX1_giveBackNow_28 : decode cX1_giveBackNow 28 = .ok (.invokevirtual 193, 3) := by decide +kernel
theorem dX1_giveBackNow_31 : decode cX1_giveBackNow 31 = .ok (.invokevirtual 144, 3) := by decide +kernel
theorem dX1_giveBackNow_34 : decode cX1_giveBackNow 34 = .ok (.istore_n 3, 1) := by decide +kernel
theorem dX1_giveBackNow_35 : decode cX1_giveBackNow 35 = .ok (.aload_n 0, 1) := by decide +kernel
theorem dX1_giveBackNow_36 : decode cX1_giveBackNow 36 = .ok (.getfield 21, 3) := by decide +kernel
theorem dX1_giveBackNow_39 : decode cX1_giveBackNow 39 = .ok (.iload_n 1, 1) := by decide +kernel
theorem dX1_giveBackNow_40 : decode cX1_giveBackNow 40 = .ok (.invokevirtual 261, 3) := by decide +kernel
theorem dX1_giveBackNow_43 : decode cX1_giveBackNow 43 = .ok (.aload_n 0, 1) := by decide +kernel
theorem dX1_giveBackNow_44 : decode cX1_giveBackNow 44 = .ok (.invokevirtual 245, 3) := by decide +kernel
theorem dX1_giveBackNow_47 : decode cX1_giveBackNow 47 = .ok (.pop, 1) := by decide +kernel
theorem dX1_giveBackNow_48 : decode cX1_giveBackNow 48 = .ok (.iload_n 3, 1) := by decide +kernel
theorem dX1_giveBackNow_49 : decode cX1_giveBackNow 49 = .ok (.ireturn, 1) := by decide +kernel
theorem dX1_wantReturned_0 : decode cX1_wantReturned 0 = .ok (.aload_n 0, 1) := by decide +kernel
theorem dX1_wantReturned_1 : decode cX1_wantReturned 1 = .ok (.iload_n 1, 1) := by decide +kernel
theorem dX1_wantReturned_2 : decode cX1_wantReturned 2 = .ok (.invokevirtual 249, 3) := by decide +kernel
theorem dX1_wantReturned_5 : decode cX1_wantReturned 5 = .ok (.istore_n 3, 1) := by decide +kernel
theorem dX1_wantReturned_6 : decode cX1_wantReturned 6 = .ok (.iconst 0, 1) := by decide +kernel
theorem dX1_wantReturned_7 : decode cX1_wantReturned 7 = .ok (.istore 4, 2) := by decide +kernel
theorem dX1_wantReturned_9 : decode cX1_wantReturned 9 = .ok (.iload 4, 2) := by decide +kernel
theorem dX1_wantReturned_11 : decode cX1_wantReturned 11 = .ok (.bipush 120, 2) := by decide +kernel
theorem dX1_wantReturned_13 : decode cX1_wantReturned 13 = .ok (.if_icmp .ge 35, 3) := by decide +kernel
theorem dX1_wantReturned_16 : decode cX1_wantReturned 16 = .ok (.iload_n 3, 1) := by decide +kernel
theorem dX1_wantReturned_17 : decode cX1_wantReturned 17 = .ok (.iload 4, 2) := by decide +kernel
theorem dX1_wantReturned_19 : decode cX1_wantReturned 19 = .ok (.bipush 6, 2) := by decide +kernel
theorem dX1_wantReturned_21 : decode cX1_wantReturned 21 = .ok (.idiv, 1) := by decide +kernel
theorem dX1_wantReturned_22 : decode cX1_wantReturned 22 = .ok (.invokestatic 173, 3) := by decide +kernel
theorem dX1_wantReturned_25 : decode cX1_wantReturned 25 = .ok (.ifCond .eq 17, 3) := by decide +kernel
theorem dX1_wantReturned_28 : decode cX1_wantReturned 28 = .ok (.aload_n 0, 1) := by decide +kernel
theorem dX1_wantReturned_29 : decode cX1_wantReturned 29 = .ok (.iload 4, 2) := by decide +kernel
theorem dX1_wantReturned_31 : decode cX1_wantReturned 31 = .ok (.aload_n 0, 1) := by decide +kernel
theorem dX1_wantReturned_32 : decode cX1_wantReturned 32 = .ok (.iload_n 1, 1) := by decide +kernel
theorem dX1_wantReturned_33 : decode cX1_wantReturned 33 = .ok (.iload 4, 2) := by decide +kernel
theorem dX1_wantReturned_35 : decode cX1_wantReturned 35 = .ok (.iload_n 2, 1) := by decide +kernel
theorem dX1_wantReturned_36 : decode cX1_wantReturned 36 = .ok (.invokevirtual 285, 3) := by decide +kernel
theorem dX1_wantReturned_39 : decode cX1_wantReturned 39 = .ok (.invokevirtual 140, 3) := by decide +kernel
theorem dX1_wantReturned_42 : decode cX1_wantReturned 42 = .ok (.iinc 4 1, 3) := by decide +kernel
theorem dX1_wantReturned_45 : decode cX1_wantReturned 45 = .ok (.goto (-36), 3) := by decide +kernel
theorem dX1_wantReturned_48 : decode cX1_wantReturned 48 = .ok (.return_, 1) := by decide +kernel
theorem dX1_returnedValue_0 : decode cX1_returnedValue 0 = .ok (.aload_n 0, 1) := by decide +kernel
theorem dX1_returnedValue_1 : decode cX1_returnedValue 1 = .ok (.getfield 21, 3) := by decide +kernel
theorem dX1_returnedValue_4 : decode cX1_returnedValue 4 = .ok (.iload_n 1, 1) := by decide +kernel
theorem dX1_returnedValue_5 : decode cX1_returnedValue 5 = .ok (.iload_n 2, 1) := by decide +kernel
theorem dX1_returnedValue_6 : decode cX1_returnedValue 6 = .ok (.invokevirtual 264, 3) := by decide +kernel
theorem dX1_returnedValue_9 : decode cX1_returnedValue 9 = .ok (.istore 4, 2) := by decide +kernel
theorem dX1_returnedValue_11 : decode cX1_returnedValue 11 = .ok (.aload_n 0, 1) := by decide +kernel
theorem dX1_returnedValue_12 : decode cX1_returnedValue 12 = .ok (.getfield 21, 3) := by decide +kernel
theorem dX1_returnedValue_15 : decode cX1_returnedValue 15 = .ok (.iload_n 1, 1) := by decide +kernel
theorem dX1_returnedValue_16 : decode cX1_returnedValue 16 = .ok (.invokevirtual 190, 3) := by decide +kernel
theorem dX1_returnedValue_19 : decode cX1_returnedValue 19 = .ok (.ifCond .eq 6, 3) := by decide +kernel
theorem dX1_returnedValue_22 : decode cX1_returnedValue 22 = .ok (.iload 4, 2) := by decide +kernel
theorem dX1_returnedValue_24 : decode cX1_returnedValue 24 = .ok (.ireturn, 1) := by decide +kernel
theorem dX1_returnedValue_25 : decode cX1_returnedValue 25 = .ok (.iload 4, 2) := by decide +kernel
theorem dX1_returnedValue_27 : decode cX1_returnedValue 27 = .ok (.aload_n 0, 1) := by decide +kernel
theorem dX1_returnedValue_28 : decode cX1_returnedValue 28 = .ok (.getfield 21, 3) := by decide +kernel
theorem dX1_returnedValue_31 : decode cX1_returnedValue 31 = .ok (.iload_n 1, 1) := by decide +kernel
theorem dX1_returnedValue_32 : decode cX1_returnedValue 32 = .ok (.iload_n 2, 1) := by decide +kernel
theorem dX1_returnedValue_33 : decode cX1_returnedValue 33 = .ok (.invokevirtual 267, 3) := by decide +kernel
theorem dX1_returnedValue_36 : decode cX1_returnedValue 36 = .ok (.if_icmp .eq 17, 3) := by decide +kernel
theorem dX1_returnedValue_39 : decode cX1_returnedValue 39 = .ok (.aload_n 0, 1) := by decide +kernel
theorem dX1_returnedValue_40 : decode cX1_returnedValue 40 = .ok (.iload_n 1, 1) := by decide +kernel
theorem dX1_returnedValue_41 : decode cX1_returnedValue 41 = .ok (.iload_n 2, 1) := by decide +kernel
theorem dX1_returnedValue_42 : decode cX1_returnedValue 42 = .ok (.invokevirtual 279, 3) := by decide +kernel
theorem dX1_returnedValue_45 : decode cX1_returnedValue 45 = .ok (.ifCond .eq 12, 3) := by decide +kernel
theorem dX1_returnedValue_48 : decode cX1_returnedValue 48 = .ok (.iload_n 3, 1) := by decide +kernel
theorem dX1_returnedValue_49 : decode cX1_returnedValue 49 = .ok (.iconst 1, 1) := by decide +kernel
theorem dX1_returnedValue_50 : decode cX1_returnedValue 50 = .ok (.if_icmp .eq 7, 3) := by decide +kernel
theorem dX1_returnedValue_53 : decode cX1_returnedValue 53 = .ok (.iconst 1, 1) := by decide +kernel
theorem dX1_returnedValue_54 : decode cX1_returnedValue 54 = .ok (.goto 4, 3) := by decide +kernel
theorem dX1_returnedValue_57 : decode cX1_returnedValue 57 = .ok (.iconst 0, 1) := by decide +kernel
theorem dX1_returnedValue_58 : decode cX1_returnedValue 58 = .ok (.istore 5, 2) := by decide +kernel
theorem dX1_returnedValue_60 : decode cX1_returnedValue 60 = .ok (.iload 5, 2) := by decide +kernel
theorem dX1_returnedValue_62 : decode cX1_returnedValue 62 = .ok (.ifCond .eq 14, 3) := by decide +kernel
theorem dX1_returnedValue_65 : decode cX1_returnedValue 65 = .ok (.aload_n 0, 1) := by decide +kernel
theorem dX1_returnedValue_66 : decode cX1_returnedValue 66 = .ok (.getfield 12, 3) := by decide +kernel
theorem dX1_returnedValue_69 : decode cX1_returnedValue 69 = .ok (.iload_n 2, 1) := by decide +kernel
theorem dX1_returnedValue_70 : decode cX1_returnedValue 70 = .ok (.invokevirtual 134, 3) := by decide +kernel
theorem dX1_returnedValue_73 : decode cX1_returnedValue 73 = .ok (.goto 5, 3) := by decide +kernel
theorem dX1_returnedValue_76 : decode cX1_returnedValue 76 = .ok (.iload 4, 2) := by decide +kernel
theorem dX1_returnedValue_78 : decode cX1_returnedValue 78 = .ok (.ireturn, 1) := by decide +kernel
theorem dX1_passFault_0 : decode cX1_passFault 0 = .ok (.iconst 1, 1) := by decide +kernel
theorem dX1_passFault_1 : decode cX1_passFault 1 = .ok (.iload_n 1, 1) := by decide +kernel
theorem dX1_passFault_2 : decode cX1_passFault 2 = .ok (.iconst 0, 1) := by decide +kernel
theorem dX1_passFault_3 : decode cX1_passFault 3 = .ok (.sipush 1000, 3) := by decide +kernel
theorem dX1_passFault_6 : decode cX1_passFault 6 = .ok (.invokestatic 126, 3) := by decide +kernel
theorem dX1_passFault_9 : decode cX1_passFault 9 = .ok (.iconst 1, 1) := by decide +kernel
theorem dX1_passFault_10 : decode cX1_passFault 10 = .ok (.invokestatic 94, 3) := by decide +kernel
theorem dX1_passFault_13 : decode cX1_passFault 13 = .ok (.ireturn, 1) := by decide +kernel
theorem dX1_passTicks_0 : decode cX1_passTicks 0 = .ok (.iconst 0, 1) := by decide +kernel
theorem dX1_passTicks_1 : decode cX1_passTicks 1 = .ok (.istore_n 3, 1) := by decide +kernel
theorem dX1_passTicks_2 : decode cX1_passTicks 2 = .ok (.iload_n 1, 1) := by decide +kernel
theorem dX1_passTicks_3 : decode cX1_passTicks 3 = .ok (.istore 4, 2) := by decide +kernel
theorem dX1_passTicks_5 : decode cX1_passTicks 5 = .ok (.iconst 0, 1) := by decide +kernel
theorem dX1_passTicks_6 : decode cX1_passTicks 6 = .ok (.istore 5, 2) := by decide +kernel
theorem dX1_passTicks_8 : decode cX1_passTicks 8 = .ok (.iload 5, 2) := by decide +kernel
theorem dX1_passTicks_10 : decode cX1_passTicks 10 = .ok (.iload_n 1, 1) := by decide +kernel
theorem dX1_passTicks_11 : decode cX1_passTicks 11 = .ok (.if_icmp .ge 96, 3) := by decide +kernel
theorem dX1_passTicks_14 : decode cX1_passTicks 14 = .ok (.iload 4, 2) := by decide +kernel
theorem dX1_passTicks_16 : decode cX1_passTicks 16 = .ok (.ifCond .le 91, 3) := by decide +kernel
theorem dX1_passTicks_19 : decode cX1_passTicks 19 = .ok (.iload_n 2, 1) := by decide +kernel
theorem dX1_passTicks_20 : decode cX1_passTicks 20 = .ok (.iconst (-1), 1) := by decide +kernel
theorem dX1_passTicks_21 : decode cX1_passTicks 21 = .ok (.if_icmp .eq 16, 3) := by decide +kernel
theorem dX1_passTicks_24 : decode cX1_passTicks 24 = .ok (.aload_n 0, 1) := by decide +kernel
theorem dX1_passTicks_25 : decode cX1_passTicks 25 = .ok (.getfield 28, 3) := by decide +kernel
theorem dX1_passTicks_28 : decode cX1_passTicks 28 = .ok (.iload_n 2, 1) := by decide +kernel
theorem dX1_passTicks_29 : decode cX1_passTicks 29 = .ok (.invokevirtual 180, 3) := by decide +kernel
theorem dX1_passTicks_32 : decode cX1_passTicks 32 = .ok (.iconst (-1), 1) := by decide +kernel
theorem dX1_passTicks_33 : decode cX1_passTicks 33 = .ok (.if_icmp .ne 4, 3) := by decide +kernel
theorem dX1_passTicks_36 : decode cX1_passTicks 36 = .ok (.return_, 1) := by decide +kernel
theorem dX1_passTicks_37 : decode cX1_passTicks 37 = .ok (.iload_n 3, 1) := by decide +kernel
theorem dX1_passTicks_38 : decode cX1_passTicks 38 = .ok (.ifCond .eq 12, 3) := by decide +kernel
theorem dX1_passTicks_41 : decode cX1_passTicks 41 = .ok (.aload_n 0, 1) := by decide +kernel
theorem dX1_passTicks_42 : decode cX1_passTicks 42 = .ok (.iload 4, 2) := by decide +kernel
theorem dX1_passTicks_44 : decode cX1_passTicks 44 = .ok (.invokevirtual 289, 3) := by decide +kernel
theorem dX1_passTicks_47 : decode cX1_passTicks 47 = .ok (.goto 4, 3) := by decide +kernel
theorem dX1_passTicks_50 : decode cX1_passTicks 50 = .ok (.iconst 1, 1) := by decide +kernel
theorem dX1_passTicks_51 : decode cX1_passTicks 51 = .ok (.istore 6, 2) := by decide +kernel
theorem dX1_passTicks_53 : decode cX1_passTicks 53 = .ok (.aload_n 0, 1) := by decide +kernel
theorem dX1_passTicks_54 : decode cX1_passTicks 54 = .ok (.iload 6, 2) := by decide +kernel
theorem dX1_passTicks_56 : decode cX1_passTicks 56 = .ok (.iconst 1, 1) := by decide +kernel
theorem dX1_passTicks_57 : decode cX1_passTicks 57 = .ok (.isub, 1) := by decide +kernel
theorem dX1_passTicks_58 : decode cX1_passTicks 58 = .ok (.invokevirtual 292, 3) := by decide +kernel
theorem dX1_passTicks_61 : decode cX1_passTicks 61 = .ok (.aload_n 0, 1) := by decide +kernel
theorem dX1_passTicks_62 : decode cX1_passTicks 62 = .ok (.dup, 1) := by decide +kernel
theorem dX1_passTicks_63 : decode cX1_passTicks 63 = .ok (.getfield 63, 3) := by decide +kernel
theorem dX1_passTicks_66 : decode cX1_passTicks 66 = .ok (.iload 6, 2) := by decide +kernel
theorem dX1_passTicks_68 : decode cX1_passTicks 68 = .ok (.iadd, 1) := by decide +kernel
theorem dX1_passTicks_69 : decode cX1_passTicks 69 = .ok (.putfield 63, 3) := by decide +kernel
theorem dX1_passTicks_72 : decode cX1_passTicks 72 = .ok (.aload_n 0, 1) := by decide +kernel
theorem dX1_passTicks_73 : decode cX1_passTicks 73 = .ok (.invokevirtual 295, 3) := by decide +kernel
theorem dX1_passTicks_76 : decode cX1_passTicks 76 = .ok (.aload_n 0, 1) := by decide +kernel
theorem dX1_passTicks_77 : decode cX1_passTicks 77 = .ok (.invokevirtual 245, 3) := by decide +kernel
theorem dX1_passTicks_80 : decode cX1_passTicks 80 = .ok (.ifCond .ne 7, 3) := by decide +kernel
theorem dX1_passTicks_83 : decode cX1_passTicks 83 = .ok (.iconst 1, 1) := by decide +kernel
theorem dX1_passTicks_84 : decode cX1_passTicks 84 = .ok (.goto 4, 3) := by decide +kernel
theorem dX1_passTicks_87 : decode cX1_passTicks 87 = .ok (.iconst 0, 1) := by decide +kernel
theorem dX1_passTicks_88 : decode cX1_passTicks 88 = .ok (.istore_n 3, 1) := by decide +kernel
theorem dX1_passTicks_89 : decode cX1_passTicks 89 = .ok (.aload_n 0, 1) := by decide +kernel
theorem dX1_passTicks_90 : decode cX1_passTicks 90 = .ok (.iconst 1, 1) := by decide +kernel
theorem dX1_passTicks_91 : decode cX1_passTicks 91 = .ok (.invokevirtual 292, 3) := by decide +kernel
theorem dX1_passTicks_94 : decode cX1_passTicks 94 = .ok (.iload 4, 2) := by decide +kernel
theorem dX1_passTicks_96 : decode cX1_passTicks 96 = .ok (.iload 6, 2) := by decide +kernel
theorem dX1_passTicks_98 : decode cX1_passTicks 98 = .ok (.isub, 1) := by decide +kernel
theorem dX1_passTicks_99 : decode cX1_passTicks 99 = .ok (.istore 4, 2) := by decide +kernel
theorem dX1_passTicks_101 : decode cX1_passTicks 101 = .ok (.iinc 5 1, 3) := by decide +kernel
theorem dX1_passTicks_104 : decode cX1_passTicks 104 = .ok (.goto (-96), 3) := by decide +kernel
theorem dX1_passTicks_107 : decode cX1_passTicks 107 = .ok (.return_, 1) := by decide +kernel
theorem dX1_ticksToExpiry_0 : decode cX1_ticksToExpiry 0 = .ok (.iload_n 1, 1) := by decide +kernel
theorem dX1_ticksToExpiry_1 : decode cX1_ticksToExpiry 1 = .ok (.istore_n 2, 1) := by decide +kernel
theorem dX1_ticksToExpiry_2 : decode cX1_ticksToExpiry 2 = .ok (.iconst 0, 1) := by decide +kernel
theorem dX1_ticksToExpiry_3 : decode cX1_ticksToExpiry 3 = .ok (.istore_n 3, 1) := by decide +kernel
theorem dX1_ticksToExpiry_4 : decode cX1_ticksToExpiry 4 = .ok (.iload_n 3, 1) := by decide +kernel
theorem dX1_ticksToExpiry_5 : decode cX1_ticksToExpiry 5 = .ok (.bipush 10, 2) := by decide +kernel
theorem dX1_ticksToExpiry_7 : decode cX1_ticksToExpiry 7 = .ok (.if_icmp .ge 39, 3) := by decide +kernel
theorem dX1_ticksToExpiry_10 : decode cX1_ticksToExpiry 10 = .ok (.aload_n 0, 1) := by decide +kernel
theorem dX1_ticksToExpiry_11 : decode cX1_ticksToExpiry 11 = .ok (.getfield 21, 3) := by decide +kernel
theorem dX1_ticksToExpiry_14 : decode cX1_ticksToExpiry 14 = .ok (.iload_n 3, 1) := by decide +kernel
theorem dX1_ticksToExpiry_15 : decode cX1_ticksToExpiry 15 = .ok (.invokevirtual 190, 3) := by decide +kernel
theorem dX1_ticksToExpiry_18 : decode cX1_ticksToExpiry 18 = .ok (.ifCond .eq 22, 3) := by decide +kernel
theorem dX1_ticksToExpiry_21 : decode cX1_ticksToExpiry 21 = .ok (.iload_n 2, 1) := by decide +kernel
theorem dX1_ticksToExpiry_22 : decode cX1_ticksToExpiry 22 = .ok (.aload_n 0, 1) := by decide +kernel
theorem dX1_ticksToExpiry_23 : decode cX1_ticksToExpiry 23 = .ok (.getfield 21, 3) := by decide +kernel
theorem dX1_ticksToExpiry_26 : decode cX1_ticksToExpiry 26 = .ok (.iload_n 3, 1) := by decide +kernel
theorem dX1_ticksToExpiry_27 : decode cX1_ticksToExpiry 27 = .ok (.iconst 2, 1) := by decide +kernel
theorem dX1_ticksToExpiry_28 : decode cX1_ticksToExpiry 28 = .ok (.invokevirtual 193, 3) := by decide +kernel
theorem dX1_ticksToExpiry_31 : decode cX1_ticksToExpiry 31 = .ok (.aload_n 0, 1) := by decide +kernel
theorem dX1_ticksToExpiry_32 : decode cX1_ticksToExpiry 32 = .ok (.getfield 63, 3) := by decide +kernel
theorem dX1_ticksToExpiry_35 : decode cX1_ticksToExpiry 35 = .ok (.isub, 1) := by decide +kernel
theorem dX1_ticksToExpiry_36 : decode cX1_ticksToExpiry 36 = .ok (.invokestatic 298, 3) := by decide +kernel
theorem dX1_ticksToExpiry_39 : decode cX1_ticksToExpiry 39 = .ok (.istore_n 2, 1) := by decide +kernel
theorem dX1_ticksToExpiry_40 : decode cX1_ticksToExpiry 40 = .ok (.iinc 3 1, 3) := by decide +kernel
theorem dX1_ticksToExpiry_43 : decode cX1_ticksToExpiry 43 = .ok (.goto (-39), 3) := by decide +kernel
theorem dX1_ticksToExpiry_46 : decode cX1_ticksToExpiry 46 = .ok (.iconst 1, 1) := by decide +kernel
theorem dX1_ticksToExpiry_47 : decode cX1_ticksToExpiry 47 = .ok (.iload_n 2, 1) := by decide +kernel
theorem dX1_ticksToExpiry_48 : decode cX1_ticksToExpiry 48 = .ok (.invokestatic 303, 3) := by decide +kernel
theorem dX1_ticksToExpiry_51 : decode cX1_ticksToExpiry 51 = .ok (.ireturn, 1) := by decide +kernel
theorem dX1_loseExpired_0 : decode cX1_loseExpired 0 = .ok (.iconst 0, 1) := by decide +kernel
theorem dX1_loseExpired_1 : decode cX1_loseExpired 1 = .ok (.istore_n 1, 1) := by decide +kernel
theorem dX1_loseExpired_2 : decode cX1_loseExpired 2 = .ok (.iload_n 1, 1) := by decide +kernel
theorem dX1_loseExpired_3 : decode cX1_loseExpired 3 = .ok (.bipush 10, 2) := by decide +kernel
theorem dX1_loseExpired_5 : decode cX1_loseExpired 5 = .ok (.if_icmp .ge 44, 3) := by decide +kernel
theorem dX1_loseExpired_8 : decode cX1_loseExpired 8 = .ok (.aload_n 0, 1) := by decide +kernel
theorem dX1_loseExpired_9 : decode cX1_loseExpired 9 = .ok (.getfield 21, 3) := by decide +kernel
theorem dX1_loseExpired_12 : decode cX1_loseExpired 12 = .ok (.iload_n 1, 1) := by decide +kernel
theorem dX1_loseExpired_13 : decode cX1_loseExpired 13 = .ok (.invokevirtual 190, 3) := by decide +kernel
theorem dX1_loseExpired_16 : decode cX1_loseExpired 16 = .ok (.ifCond .eq 27, 3) := by decide +kernel
theorem dX1_loseExpired_19 : decode cX1_loseExpired 19 = .ok (.aload_n 0, 1) := by decide +kernel
theorem dX1_loseExpired_20 : decode cX1_loseExpired 20 = .ok (.getfield 21, 3) := by decide +kernel
theorem dX1_loseExpired_23 : decode cX1_loseExpired 23 = .ok (.iload_n 1, 1) := by decide +kernel
theorem dX1_loseExpired_24 : decode cX1_loseExpired 24 = .ok (.iconst 2, 1) := by decide +kernel
theorem dX1_loseExpired_25 : decode cX1_loseExpired 25 = .ok (.invokevirtual 193, 3) := by decide +kernel
theorem dX1_loseExpired_28 : decode cX1_loseExpired 28 = .ok (.aload_n 0, 1) := by decide +kernel
theorem dX1_loseExpired_29 : decode cX1_loseExpired 29 = .ok (.getfield 63, 3) := by decide +kernel
theorem dX1_loseExpired_32 : decode cX1_loseExpired 32 = .ok (.if_icmp .ne 11, 3) := by decide +kernel
theorem dX1_loseExpired_35 : decode cX1_loseExpired 35 = .ok (.aload_n 0, 1) := by decide +kernel
theorem dX1_loseExpired_36 : decode cX1_loseExpired 36 = .ok (.getfield 21, 3) := by decide +kernel
theorem dX1_loseExpired_39 : decode cX1_loseExpired 39 = .ok (.iload_n 1, 1) := by decide +kernel
theorem dX1_loseExpired_40 : decode cX1_loseExpired 40 = .ok (.invokevirtual 255, 3) := by decide +kernel
theorem dX1_loseExpired_43 : decode cX1_loseExpired 43 = .ok (.iinc 1 1, 3) := by decide +kernel
theorem dX1_loseExpired_46 : decode cX1_loseExpired 46 = .ok (.goto (-44), 3) := by decide +kernel
theorem dX1_loseExpired_49 : decode cX1_loseExpired 49 = .ok (.return_, 1) := by decide +kernel
theorem dX1_countUse_0 : decode cX1_countUse 0 = .ok (.iconst 0, 1) := by decide +kernel
theorem dX1_countUse_1 : decode cX1_countUse 1 = .ok (.istore_n 2, 1) := by decide +kernel
theorem dX1_countUse_2 : decode cX1_countUse 2 = .ok (.iload_n 2, 1) := by decide +kernel
theorem dX1_countUse_3 : decode cX1_countUse 3 = .ok (.bipush 10, 2) := by decide +kernel
theorem dX1_countUse_5 : decode cX1_countUse 5 = .ok (.if_icmp .ge 47, 3) := by decide +kernel
theorem dX1_countUse_8 : decode cX1_countUse 8 = .ok (.aload_n 0, 1) := by decide +kernel
theorem dX1_countUse_9 : decode cX1_countUse 9 = .ok (.getfield 21, 3) := by decide +kernel
theorem dX1_countUse_12 : decode cX1_countUse 12 = .ok (.iload_n 2, 1) := by decide +kernel
theorem dX1_countUse_13 : decode cX1_countUse 13 = .ok (.iconst 0, 1) := by decide +kernel
theorem dX1_countUse_14 : decode cX1_countUse 14 = .ok (.invokevirtual 193, 3) := by decide +kernel
theorem dX1_countUse_17 : decode cX1_countUse 17 = .ok (.istore_n 3, 1) := by decide +kernel
theorem dX1_countUse_18 : decode cX1_countUse 18 = .ok (.aload_n 0, 1) := by decide +kernel
theorem dX1_countUse_19 : decode cX1_countUse 19 = .ok (.getfield 21, 3) := by decide +kernel
theorem dX1_countUse_22 : decode cX1_countUse 22 = .ok (.iload_n 2, 1) := by decide +kernel
theorem dX1_countUse_23 : decode cX1_countUse 23 = .ok (.invokevirtual 190, 3) := by decide +kernel
theorem dX1_countUse_26 : decode cX1_countUse 26 = .ok (.ifCond .eq 20, 3) := by decide +kernel
theorem dX1_countUse_29 : decode cX1_countUse 29 = .ok (.iload_n 3, 1) := by decide +kernel
theorem dX1_countUse_30 : decode cX1_countUse 30 = .ok (.invokestatic 187, 3) := by decide +kernel
theorem dX1_countUse_33 : decode cX1_countUse 33 = .ok (.ifCond .eq 13, 3) := by decide +kernel
theorem dX1_countUse_36 : decode cX1_countUse 36 = .ok (.aload_n 0, 1) := by decide +kernel
theorem dX1_countUse_37 : decode cX1_countUse 37 = .ok (.getfield 39, 3) := by decide +kernel
theorem dX1_countUse_40 : decode cX1_countUse 40 = .ok (.iload_n 3, 1) := by decide +kernel
theorem dX1_countUse_41 : decode cX1_countUse 41 = .ok (.dup2, 1) := by decide +kernel
theorem dX1_countUse_42 : decode cX1_countUse 42 = .ok (.iaload, 1) := by decide +kernel
theorem dX1_countUse_43 : decode cX1_countUse 43 = .ok (.iload_n 1, 1) := by decide +kernel
theorem dX1_countUse_44 : decode cX1_countUse 44 = .ok (.iadd, 1) := by decide +kernel
theorem dX1_countUse_45 : decode cX1_countUse 45 = .ok (.iastore, 1) := by decide +kernel
theorem dX1_countUse_46 : decode cX1_countUse 46 = .ok (.iinc 2 1, 3) := by decide +kernel
theorem dX1_countUse_49 : decode cX1_countUse 49 = .ok (.goto (-47), 3) := by decide +kernel
theorem dX1_countUse_52 : decode cX1_countUse 52 = .ok (.return_, 1) := by decide +kernel
theorem dX1_heldTicksOf_0 : decode cX1_heldTicksOf 0 = .ok (.iload_n 1, 1) := by decide +kernel
theorem dX1_heldTicksOf_1 : decode cX1_heldTicksOf 1 = .ok (.invokestatic 187, 3) := by decide +kernel
theorem dX1_heldTicksOf_4 : decode cX1_heldTicksOf 4 = .ok (.ifCond .eq 12, 3) := by decide +kernel
theorem dX1_heldTicksOf_7 : decode cX1_heldTicksOf 7 = .ok (.aload_n 0, 1) := by decide +kernel
theorem dX1_heldTicksOf_8 : decode cX1_heldTicksOf 8 = .ok (.getfield 39, 3) := by decide +kernel
theorem dX1_heldTicksOf_11 : decode cX1_heldTicksOf 11 = .ok (.iload_n 1, 1) := by decide +kernel
theorem dX1_heldTicksOf_12 : decode cX1_heldTicksOf 12 = .ok (.iaload, 1) := by decide +kernel
theorem dX1_heldTicksOf_13 : decode cX1_heldTicksOf 13 = .ok (.goto 4, 3) := by decide +kernel
theorem dX1_heldTicksOf_16 : decode cX1_heldTicksOf 16 = .ok (.iconst 0, 1) := by decide +kernel
theorem dX1_heldTicksOf_17 : decode cX1_heldTicksOf 17 = .ok (.ireturn, 1) := by decide +kernel
theorem dX2_init_0 : decode cX2_init 0 = .ok (.aload_n 0, 1) := by decide +kernel
theorem dX2_init_1 : decode cX2_init 1 = .ok (.invokespecial 3, 3) := by decide +kernel
theorem dX2_init_4 : decode cX2_init 4 = .ok (.aload_n 0, 1) := by decide +kernel
theorem dX2_init_5 : decode cX2_init 5 = .ok (.sipush 900, 3) := by decide +kernel
theorem dX2_init_8 : decode cX2_init 8 = .ok (.newarray .int, 2) := by decide +kernel
theorem dX2_init_10 : decode cX2_init 10 = .ok (.putfield 11, 3) := by decide +kernel
theorem dX2_init_13 : decode cX2_init 13 = .ok (.return_, 1) := by decide +kernel
theorem dX2_copyFrom_0 : decode cX2_copyFrom 0 = .ok (.aload_n 1, 1) := by decide +kernel
theorem dX2_copyFrom_1 : decode cX2_copyFrom 1 = .ok (.getfield 11, 3) := by decide +kernel
theorem dX2_copyFrom_4 : decode cX2_copyFrom 4 = .ok (.aload_n 0, 1) := by decide +kernel
theorem dX2_copyFrom_5 : decode cX2_copyFrom 5 = .ok (.getfield 11, 3) := by decide +kernel
theorem dX2_copyFrom_8 : decode cX2_copyFrom 8 = .ok (.invokestatic 15, 3) := by decide +kernel
theorem dX2_copyFrom_11 : decode cX2_copyFrom 11 = .ok (.aload_n 0, 1) := by decide +kernel
theorem dX2_copyFrom_12 : decode cX2_copyFrom 12 = .ok (.aload_n 1, 1) := by decide +kernel
theorem dX2_copyFrom_13 : decode cX2_copyFrom 13 = .ok (.getfield 19, 3) := by decide +kernel
theorem dX2_copyFrom_16 : decode cX2_copyFrom 16 = .ok (.putfield 19, 3) := by decide +kernel
theorem dX2_copyFrom_19 : decode cX2_copyFrom 19 = .ok (.aload_n 0, 1) := by decide +kernel
theorem dX2_copyFrom_20 : decode cX2_copyFrom 20 = .ok (.aload_n 1, 1) := by decide +kernel
theorem dX2_copyFrom_21 : decode cX2_copyFrom 21 = .ok (.getfield 23, 3) := by decide +kernel
theorem dX2_copyFrom_24 : decode cX2_copyFrom 24 = .ok (.putfield 23, 3) := by decide +kernel
theorem dX2_copyFrom_27 : decode cX2_copyFrom 27 = .ok (.return_, 1) := by decide +kernel
theorem dX2_indexOf_0 : decode cX2_indexOf 0 = .ok (.iload_n 1, 1) := by decide +kernel
theorem dX2_indexOf_1 : decode cX2_indexOf 1 = .ok (.ifCond .lt 24, 3) := by decide +kernel
theorem dX2_indexOf_4 : decode cX2_indexOf 4 = .ok (.iload_n 1, 1) := by decide +kernel
theorem dX2_indexOf_5 : decode cX2_indexOf 5 = .ok (.sipush 150, 3) := by decide +kernel
theorem dX2_indexOf_8 : decode cX2_indexOf 8 = .ok (.if_icmp .ge 17, 3) := by decide +kernel
theorem dX2_indexOf_11 : decode cX2_indexOf 11 = .ok (.iload_n 2, 1) := by decide +kernel
theorem dX2_indexOf_12 : decode cX2_indexOf 12 = .ok (.ifCond .lt 13, 3) := by decide +kernel
theorem dX2_indexOf_15 : decode cX2_indexOf 15 = .ok (.iload_n 2, 1) := by decide +kernel
theorem dX2_indexOf_16 : decode cX2_indexOf 16 = .ok (.bipush 6, 2) := by decide +kernel
theorem dX2_indexOf_18 : decode cX2_indexOf 18 = .ok (.if_icmp .ge 7, 3) := by decide +kernel
theorem dX2_indexOf_21 : decode cX2_indexOf 21 = .ok (.iconst 1, 1) := by decide +kernel
theorem dX2_indexOf_22 : decode cX2_indexOf 22 = .ok (.goto 4, 3) := by decide +kernel
theorem dX2_indexOf_25 : decode cX2_indexOf 25 = .ok (.iconst 0, 1) := by decide +kernel
theorem dX2_indexOf_26 : decode cX2_indexOf 26 = .ok (.istore_n 3, 1) := by decide +kernel
theorem dX2_indexOf_27 : decode cX2_indexOf 27 = .ok (.iload_n 3, 1) := by decide +kernel
theorem dX2_indexOf_28 : decode cX2_indexOf 28 = .ok (.ifCond .eq 21, 3) := by decide +kernel
theorem dX2_indexOf_31 : decode cX2_indexOf 31 = .ok (.aload_n 0, 1) := by decide +kernel
theorem dX2_indexOf_32 : decode cX2_indexOf 32 = .ok (.getfield 19, 3) := by decide +kernel
theorem dX2_indexOf_35 : decode cX2_indexOf 35 = .ok (.iload_n 1, 1) := by decide +kernel
theorem dX2_indexOf_36 : decode cX2_indexOf 36 = .ok (.iadd, 1) := by decide +kernel
theorem dX2_indexOf_37 : decode cX2_indexOf 37 = .ok (.sipush 150, 3) := by decide +kernel
theorem dX2_indexOf_40 : decode cX2_indexOf 40 = .ok (.irem, 1) := by decide +kernel
theorem dX2_indexOf_41 : decode cX2_indexOf 41 = .ok (.bipush 6, 2) := by decide +kernel
theorem dX2_indexOf_43 : decode cX2_indexOf 43 = .ok (.imul, 1) := by decide +kernel
theorem dX2_indexOf_44 : decode cX2_indexOf 44 = .ok (.iload_n 2, 1) := by decide +kernel
theorem dX2_indexOf_45 : decode cX2_indexOf 45 = .ok (.iadd, 1) := by decide +kernel
theorem dX2_indexOf_46 : decode cX2_indexOf 46 = .ok (.goto 4, 3) := by decide +kernel
theorem dX2_indexOf_49 : decode cX2_indexOf 49 = .ok (.iconst (-1), 1) := by decide +kernel
theorem dX2_indexOf_50 : decode cX2_indexOf 50 = .ok (.ireturn, 1) := by decide +kernel
theorem dX2_fact_0 : decode cX2_fact 0 = .ok (.aload_n 0, 1) := by decide +kernel
theorem dX2_fact_1 : decode cX2_fact 1 = .ok (.iload_n 1, 1) := by decide +kernel
theorem dX2_fact_2 : decode cX2_fact 2 = .ok (.iload_n 2, 1) := by decide +kernel
theorem dX2_fact_3 : decode cX2_fact 3 = .ok (.invokevirtual 26, 3) := by decide +kernel
theorem dX2_fact_6 : decode cX2_fact 6 = .ok (.istore_n 3, 1) := by decide +kernel
theorem dX2_fact_7 : decode cX2_fact 7 = .ok (.iload_n 3, 1) := by decide +kernel
theorem dX2_fact_8 : decode cX2_fact 8 = .ok (.ifCond .lt 19, 3) := by decide +kernel
theorem dX2_fact_11 : decode cX2_fact 11 = .ok (.iload_n 3, 1) := by decide +kernel
theorem dX2_fact_12 : decode cX2_fact 12 = .ok (.sipush 900, 3) := by decide +kernel
theorem dX2_fact_15 : decode cX2_fact 15 = .ok (.if_icmp .ge 12, 3) := by decide +kernel
theorem dX2_fact_18 : decode cX2_fact 18 = .ok (.aload_n 0, 1) := by decide +kernel
theorem dX2_fact_19 : decode cX2_fact 19 = .ok (.getfield 11, 3) := by decide +kernel
theorem dX2_fact_22 : decode cX2_fact 22 = .ok (.iload_n 3, 1) := by decide +kernel
theorem dX2_fact_23 : decode cX2_fact 23 = .ok (.iaload, 1) := by decide +kernel
theorem dX2_fact_24 : decode cX2_fact 24 = .ok (.goto 4, 3) := by decide +kernel
theorem dX2_fact_27 : decode cX2_fact 27 = .ok (.iconst 0, 1) := by decide +kernel
theorem dX2_fact_28 : decode cX2_fact 28 = .ok (.ireturn, 1) := by decide +kernel
theorem dX2_setFact_0 : decode cX2_setFact 0 = .ok (.aload_n 0, 1) := by decide +kernel
theorem dX2_setFact_1 : decode cX2_setFact 1 = .ok (.iload_n 1, 1) := by decide +kernel
theorem dX2_setFact_2 : decode cX2_setFact 2 = .ok (.iload_n 2, 1) := by decide +kernel
theorem dX2_setFact_3 : decode cX2_setFact 3 = .ok (.invokevirtual 26, 3) := by decide +kernel
theorem dX2_setFact_6 : decode cX2_setFact 6 = .ok (.istore 4, 2) := by decide +kernel
theorem dX2_setFact_8 : decode cX2_setFact 8 = .ok (.iload 4, 2) := by decide +kernel
theorem dX2_setFact_10 : decode cX2_setFact 10 = .ok (.ifCond .lt 19, 3) := by decide +kernel
theorem dX2_setFact_13 : decode cX2_setFact 13 = .ok (.iload 4, 2) := by decide +kernel
theorem dX2_setFact_15 : decode cX2_setFact 15 = .ok (.sipush 900, 3) := by decide +kernel
theorem dX2_setFact_18 : decode cX2_setFact 18 = .ok (.if_icmp .ge 11, 3) := by decide +kernel
theorem dX2_setFact_21 : decode cX2_setFact 21 = .ok (.aload_n 0, 1) := by decide +kernel
theorem dX2_setFact_22 : decode cX2_setFact 22 = .ok (.getfield 11, 3) := by decide +kernel
theorem dX2_setFact_25 : decode cX2_setFact 25 = .ok (.iload 4, 2) := by decide +kernel
theorem dX2_setFact_27 : decode cX2_setFact 27 = .ok (.iload_n 3, 1) := by decide +kernel
theorem dX2_setFact_28 : decode cX2_setFact 28 = .ok (.iastore, 1) := by decide +kernel
theorem dX2_setFact_29 : decode cX2_setFact 29 = .ok (.return_, 1) := by decide +kernel
theorem dX2_add_0 : decode cX2_add 0 = .ok (.aload_n 0, 1) := by decide +kernel
theorem dX2_add_1 : decode cX2_add 1 = .ok (.getfield 23, 3) := by decide +kernel
theorem dX2_add_4 : decode cX2_add 4 = .ok (.sipush 150, 3) := by decide +kernel
theorem dX2_add_7 : decode cX2_add 7 = .ok (.if_icmp .lt 24, 3) := by decide +kernel
theorem dX2_add_10 : decode cX2_add 10 = .ok (.aload_n 0, 1) := by decide +kernel
theorem dX2_add_11 : decode cX2_add 11 = .ok (.aload_n 0, 1) := by decide +kernel
theorem dX2_add_12 : decode cX2_add 12 = .ok (.getfield 19, 3) := by decide +kernel
theorem dX2_add_15 : decode cX2_add 15 = .ok (.iconst 1, 1) := by decide +kernel
theorem dX2_add_16 : decode cX2_add 16 = .ok (.iadd, 1) := by decide +kernel
theorem dX2_add_17 : decode cX2_add 17 = .ok (.sipush 150, 3) := by decide +kernel
theorem dX2_add_20 : decode cX2_add 20 = .ok (.irem, 1) := by decide +kernel
theorem dX2_add_21 : decode cX2_add 21 = .ok (.putfield 19, 3) := by decide +kernel
theorem dX2_add_24 : decode cX2_add 24 = .ok (.aload_n 0, 1) := by decide +kernel
theorem dX2_add_25 : decode cX2_add 25 = .ok (.sipush 149, 3) := by decide +kernel
theorem dX2_add_28 : decode cX2_add 28 = .ok (.putfield 23, 3) := by decide +kernel
theorem dX2_add_31 : decode cX2_add 31 = .ok (.aload_n 0, 1) := by decide +kernel
theorem dX2_add_32 : decode cX2_add 32 = .ok (.aload_n 0, 1) := by decide +kernel
theorem dX2_add_33 : decode cX2_add 33 = .ok (.getfield 23, 3) := by decide +kernel
theorem dX2_add_36 : decode cX2_add 36 = .ok (.iconst 0, 1) := by decide +kernel
theorem dX2_add_37 : decode cX2_add 37 = .ok (.iload_n 1, 1) := by decide +kernel
theorem dX2_add_38 : decode cX2_add 38 = .ok (.invokevirtual 30, 3) := by decide +kernel
theorem dX2_add_41 : decode cX2_add 41 = .ok (.aload_n 0, 1) := by decide +kernel
theorem dX2_add_42 : decode cX2_add 42 = .ok (.aload_n 0, 1) := by decide +kernel
theorem dX2_add_43 : decode cX2_add 43 = .ok (.getfield 23, 3) := by decide +kernel
theorem dX2_add_46 : decode cX2_add 46 = .ok (.iconst 1, 1) := by decide +kernel
theorem dX2_add_47 : decode cX2_add 47 = .ok (.iload_n 2, 1) := by decide +kernel
theorem dX2_add_48 : decode cX2_add 48 = .ok (.bipush 6, 2) := by decide +kernel
theorem dX2_add_50 : decode cX2_add 50 = .ok (.idiv, 1) := by decide +kernel
theorem dX2_add_51 : decode cX2_add 51 = .ok (.invokevirtual 30, 3) := by decide +kernel
theorem dX2_add_54 : decode cX2_add 54 = .ok (.aload_n 0, 1) := by decide +kernel
theorem dX2_add_55 : decode cX2_add 55 = .ok (.aload_n 0, 1) := by decide +kernel
theorem dX2_add_56 : decode cX2_add 56 = .ok (.getfield 23, 3) := by decide +kernel
theorem dX2_add_59 : decode cX2_add 59 = .ok (.iconst 2, 1) := by decide +kernel
theorem dX2_add_60 : decode cX2_add 60 = .ok (.iload_n 2, 1) := by decide +kernel
theorem dX2_add_61 : decode cX2_add 61 = .ok (.bipush 6, 2) := by decide +kernel
theorem dX2_add_63 : decode cX2_add 63 = .ok (.irem, 1) := by decide +kernel
theorem dX2_add_64 : decode cX2_add 64 = .ok (.invokevirtual 30, 3) := by decide +kernel
theorem dX2_add_67 : decode cX2_add 67 = .ok (.aload_n 0, 1) := by decide +kernel
theorem dX2_add_68 : decode cX2_add 68 = .ok (.aload_n 0, 1) := by decide +kernel
theorem dX2_add_69 : decode cX2_add 69 = .ok (.getfield 23, 3) := by decide +kernel
theorem dX2_add_72 : decode cX2_add 72 = .ok (.iconst 3, 1) := by decide +kernel
theorem dX2_add_73 : decode cX2_add 73 = .ok (.iload_n 3, 1) := by decide +kernel
theorem dX2_add_74 : decode cX2_add 74 = .ok (.invokevirtual 30, 3) := by decide +kernel
theorem dX2_add_77 : decode cX2_add 77 = .ok (.aload_n 0, 1) := by decide +kernel
theorem dX2_add_78 : decode cX2_add 78 = .ok (.aload_n 0, 1) := by decide +kernel
theorem dX2_add_79 : decode cX2_add 79 = .ok (.getfield 23, 3) := by decide +kernel
theorem dX2_add_82 : decode cX2_add 82 = .ok (.iconst 4, 1) := by decide +kernel
theorem dX2_add_83 : decode cX2_add 83 = .ok (.iload 4, 2) := by decide +kernel
theorem dX2_add_85 : decode cX2_add 85 = .ok (.invokevirtual 30, 3) := by decide +kernel
theorem dX2_add_88 : decode cX2_add 88 = .ok (.aload_n 0, 1) := by decide +kernel
theorem dX2_add_89 : decode cX2_add 89 = .ok (.aload_n 0, 1) := by decide +kernel
theorem dX2_add_90 : decode cX2_add 90 = .ok (.getfield 23, 3) := by decide +kernel
theorem dX2_add_93 : decode cX2_add 93 = .ok (.iconst 5, 1) := by decide +kernel
theorem dX2_add_94 : decode cX2_add 94 = .ok (.iload 5, 2) := by decide +kernel
theorem dX2_add_96 : decode cX2_add 96 = .ok (.invokevirtual 30, 3) := by decide +kernel
theorem dX2_add_99 : decode cX2_add 99 = .ok (.aload_n 0, 1) := by decide +kernel
theorem dX2_add_100 : decode cX2_add 100 = .ok (.dup, 1) := by decide +kernel
theorem dX2_add_101 : decode cX2_add 101 = .ok (.getfield 23, 3) := by decide +kernel
theorem dX2_add_104 : decode cX2_add 104 = .ok (.iconst 1, 1) := by decide +kernel
theorem dX2_add_105 : decode cX2_add 105 = .ok (.iadd, 1) := by decide +kernel
theorem dX2_add_106 : decode cX2_add 106 = .ok (.putfield 23, 3) := by decide +kernel
theorem dX2_add_109 : decode cX2_add 109 = .ok (.return_, 1) := by decide +kernel
theorem dX2_removeOf_0 : decode cX2_removeOf 0 = .ok (.iconst 0, 1) := by decide +kernel
theorem dX2_removeOf_1 : decode cX2_removeOf 1 = .ok (.istore_n 2, 1) := by decide +kernel
theorem dX2_removeOf_2 : decode cX2_removeOf 2 = .ok (.iconst 0, 1) := by decide +kernel
theorem dX2_removeOf_3 : decode cX2_removeOf 3 = .ok (.istore_n 3, 1) := by decide +kernel
theorem dX2_removeOf_4 : decode cX2_removeOf 4 = .ok (.iload_n 3, 1) := by decide +kernel
theorem dX2_removeOf_5 : decode cX2_removeOf 5 = .ok (.aload_n 0, 1) := by decide +kernel
theorem dX2_removeOf_6 : decode cX2_removeOf 6 = .ok (.getfield 23, 3) := by decide +kernel
theorem dX2_removeOf_9 : decode cX2_removeOf 9 = .ok (.if_icmp .ge 55, 3) := by decide +kernel
theorem dX2_removeOf_12 : decode cX2_removeOf 12 = .ok (.iload_n 1, 1) := by decide +kernel
theorem dX2_removeOf_13 : decode cX2_removeOf 13 = .ok (.aload_n 0, 1) := by decide +kernel
theorem dX2_removeOf_14 : decode cX2_removeOf 14 = .ok (.iload_n 3, 1) := by decide +kernel
theorem dX2_removeOf_15 : decode cX2_removeOf 15 = .ok (.iconst 1, 1) := by decide +kernel
theorem dX2_removeOf_16 : decode cX2_removeOf 16 = .ok (.invokevirtual 34, 3) := by decide +kernel
theorem dX2_removeOf_19 : decode cX2_removeOf 19 = .ok (.invokestatic 37, 3) := by decide +kernel
theorem dX2_removeOf_22 : decode cX2_removeOf 22 = .ok (.ifCond .ne 36, 3) := by decide +kernel
theorem dX2_removeOf_25 : decode cX2_removeOf 25 = .ok (.iconst 0, 1) := by decide +kernel
theorem dX2_removeOf_26 : decode cX2_removeOf 26 = .ok (.istore 4, 2) := by decide +kernel
theorem dX2_removeOf_28 : decode cX2_removeOf 28 = .ok (.iload 4, 2) := by decide +kernel
theorem dX2_removeOf_30 : decode cX2_removeOf 30 = .ok (.bipush 6, 2) := by decide +kernel
theorem dX2_removeOf_32 : decode cX2_removeOf 32 = .ok (.if_icmp .ge 23, 3) := by decide +kernel
theorem dX2_removeOf_35 : decode cX2_removeOf 35 = .ok (.aload_n 0, 1) := by decide +kernel
theorem dX2_removeOf_36 : decode cX2_removeOf 36 = .ok (.iload_n 2, 1) := by decide +kernel
theorem dX2_removeOf_37 : decode cX2_removeOf 37 = .ok (.iload 4, 2) := by decide +kernel
theorem dX2_removeOf_39 : decode cX2_removeOf 39 = .ok (.aload_n 0, 1) := by decide +kernel
theorem dX2_removeOf_40 : decode cX2_removeOf 40 = .ok (.iload_n 3, 1) := by decide +kernel
theorem dX2_removeOf_41 : decode cX2_removeOf 41 = .ok (.iload 4, 2) := by decide +kernel
theorem dX2_removeOf_43 : decode cX2_removeOf 43 = .ok (.invokevirtual 34, 3) := by decide +kernel
theorem dX2_removeOf_46 : decode cX2_removeOf 46 = .ok (.invokevirtual 30, 3) := by decide +kernel
theorem dX2_removeOf_49 : decode cX2_removeOf 49 = .ok (.iinc 4 1, 3) := by decide +kernel
theorem dX2_removeOf_52 : decode cX2_removeOf 52 = .ok (.goto (-24), 3) := by decide +kernel
theorem dX2_removeOf_55 : decode cX2_removeOf 55 = .ok (.iinc 2 1, 3) := by decide +kernel
theorem dX2_removeOf_58 : decode cX2_removeOf 58 = .ok (.iinc 3 1, 3) := by decide +kernel
theorem dX2_removeOf_61 : decode cX2_removeOf 61 = .ok (.goto (-57), 3) := by decide +kernel
theorem dX2_removeOf_64 : decode cX2_removeOf 64 = .ok (.aload_n 0, 1) := by decide +kernel
theorem dX2_removeOf_65 : decode cX2_removeOf 65 = .ok (.iload_n 2, 1) := by decide +kernel
theorem dX2_removeOf_66 : decode cX2_removeOf 66 = .ok (.putfield 23, 3) := by decide +kernel
theorem dX2_removeOf_69 : decode cX2_removeOf 69 = .ok (.return_, 1) := by decide +kernel
theorem dX2_latestUserOf_0 : decode cX2_latestUserOf 0 = .ok (.aload_n 0, 1) := by decide +kernel
theorem dX2_latestUserOf_1 : decode cX2_latestUserOf 1 = .ok (.getfield 23, 3) := by decide +kernel
theorem dX2_latestUserOf_4 : decode cX2_latestUserOf 4 = .ok (.iconst 1, 1) := by decide +kernel
theorem dX2_latestUserOf_5 : decode cX2_latestUserOf 5 = .ok (.isub, 1) := by decide +kernel
theorem dX2_latestUserOf_6 : decode cX2_latestUserOf 6 = .ok (.istore_n 3, 1) := by decide +kernel
theorem dX2_latestUserOf_7 : decode cX2_latestUserOf 7 = .ok (.iload_n 3, 1) := by decide +kernel
theorem dX2_latestUserOf_8 : decode cX2_latestUserOf 8 = .ok (.ifCond .lt 36, 3) := by decide +kernel
theorem dX2_latestUserOf_11 : decode cX2_latestUserOf 11 = .ok (.aload_n 0, 1) := by decide +kernel
theorem dX2_latestUserOf_12 : decode cX2_latestUserOf 12 = .ok (.iload_n 3, 1) := by decide +kernel
theorem dX2_latestUserOf_13 : decode cX2_latestUserOf 13 = .ok (.iconst 1, 1) := by decide +kernel
theorem dX2_latestUserOf_14 : decode cX2_latestUserOf 14 = .ok (.invokevirtual 34, 3) := by decide +kernel
theorem dX2_latestUserOf_17 : decode cX2_latestUserOf 17 = .ok (.iload_n 1, 1) := by decide +kernel
theorem dX2_latestUserOf_18 : decode cX2_latestUserOf 18 = .ok (.if_icmp .ne 20, 3) := by decide +kernel
theorem dX2_latestUserOf_21 : decode cX2_latestUserOf 21 = .ok (.aload_n 0, 1) := by decide +kernel
theorem dX2_latestUserOf_22 : decode cX2_latestUserOf 22 = .ok (.iload_n 3, 1) := by decide +kernel
theorem dX2_latestUserOf_23 : decode cX2_latestUserOf 23 = .ok (.iconst 2, 1) := by decide +kernel
theorem dX2_latestUserOf_24 : decode cX2_latestUserOf 24 = .ok (.invokevirtual 34, 3) := by decide +kernel
theorem dX2_latestUserOf_27 : decode cX2_latestUserOf 27 = .ok (.iload_n 2, 1) := by decide +kernel
theorem dX2_latestUserOf_28 : decode cX2_latestUserOf 28 = .ok (.if_icmp .ne 10, 3) := by decide +kernel
theorem dX2_latestUserOf_31 : decode cX2_latestUserOf 31 = .ok (.aload_n 0, 1) := by decide +kernel
theorem dX2_latestUserOf_32 : decode cX2_latestUserOf 32 = .ok (.iload_n 3, 1) := by decide +kernel
theorem dX2_latestUserOf_33 : decode cX2_latestUserOf 33 = .ok (.iconst 5, 1) := by decide +kernel
theorem dX2_latestUserOf_34 : decode cX2_latestUserOf 34 = .ok (.invokevirtual 34, 3) := by decide +kernel
theorem dX2_latestUserOf_37 : decode cX2_latestUserOf 37 = .ok (.ireturn, 1) := by decide +kernel
theorem dX2_latestUserOf_38 : decode cX2_latestUserOf 38 = .ok (.iinc 3 (-1), 3) := by decide +kernel
theorem dX2_latestUserOf_41 : decode cX2_latestUserOf 41 = .ok (.goto (-34), 3) := by decide +kernel
theorem dX2_latestUserOf_44 : decode cX2_latestUserOf 44 = .ok (.iconst (-1), 1) := by decide +kernel
theorem dX2_latestUserOf_45 : decode cX2_latestUserOf 45 = .ok (.ireturn, 1) := by decide +kernel
theorem dX2_turnBack_0 : decode cX2_turnBack 0 = .ok (.aload_n 0, 1) := by decide +kernel
theorem dX2_turnBack_1 : decode cX2_turnBack 1 = .ok (.getfield 23, 3) := by decide +kernel
theorem dX2_turnBack_4 : decode cX2_turnBack 4 = .ok (.iconst 1, 1) := by decide +kernel
theorem dX2_turnBack_5 : decode cX2_turnBack 5 = .ok (.isub, 1) := by decide +kernel
theorem dX2_turnBack_6 : decode cX2_turnBack 6 = .ok (.istore_n 3, 1) := by decide +kernel
theorem dX2_turnBack_7 : decode cX2_turnBack 7 = .ok (.iload_n 3, 1) := by decide +kernel
theorem dX2_turnBack_8 : decode cX2_turnBack 8 = .ok (.ifCond .lt 59, 3) := by decide +kernel
theorem dX2_turnBack_11 : decode cX2_turnBack 11 = .ok (.aload_n 0, 1) := by decide +kernel
theorem dX2_turnBack_12 : decode cX2_turnBack 12 = .ok (.iload_n 3, 1) := by decide +kernel
theorem dX2_turnBack_13 : decode cX2_turnBack 13 = .ok (.iconst 1, 1) := by decide +kernel
theorem dX2_turnBack_14 : decode cX2_turnBack 14 = .ok (.invokevirtual 34, 3) := by decide +kernel
theorem dX2_turnBack_17 : decode cX2_turnBack 17 = .ok (.aload_n 0, 1) := by decide +kernel
theorem dX2_turnBack_18 : decode cX2_turnBack 18 = .ok (.iload_n 3, 1) := by decide +kernel
theorem dX2_turnBack_19 : decode cX2_turnBack 19 = .ok (.iconst 2, 1) := by decide +kernel
theorem dX2_turnBack_20 : decode cX2_turnBack 20 = .ok (.invokevirtual 34, 3) := by decide +kernel
theorem dX2_turnBack_23 : decode cX2_turnBack 23 = .ok (.invokestatic 41, 3) := by decide +kernel
theorem dX2_turnBack_26 : decode cX2_turnBack 26 = .ok (.istore 4, 2) := by decide +kernel
theorem dX2_turnBack_28 : decode cX2_turnBack 28 = .ok (.aload_n 0, 1) := by decide +kernel
theorem dX2_turnBack_29 : decode cX2_turnBack 29 = .ok (.iload_n 3, 1) := by decide +kernel
theorem dX2_turnBack_30 : decode cX2_turnBack 30 = .ok (.iconst 0, 1) := by decide +kernel
theorem dX2_turnBack_31 : decode cX2_turnBack 31 = .ok (.invokevirtual 34, 3) := by decide +kernel
theorem dX2_turnBack_34 : decode cX2_turnBack 34 = .ok (.iload_n 1, 1) := by decide +kernel
theorem dX2_turnBack_35 : decode cX2_turnBack 35 = .ok (.if_icmp .le 26, 3) := by decide +kernel
theorem dX2_turnBack_38 : decode cX2_turnBack 38 = .ok (.iload 4, 2) := by decide +kernel
theorem dX2_turnBack_40 : decode cX2_turnBack 40 = .ok (.iconst 0, 1) := by decide +kernel
theorem dX2_turnBack_41 : decode cX2_turnBack 41 = .ok (.aload_n 2, 1) := by decide +kernel
theorem dX2_turnBack_42 : decode cX2_turnBack 42 = .ok (.arraylength, 1) := by decide +kernel
theorem dX2_turnBack_43 : decode cX2_turnBack 43 = .ok (.iconst 1, 1) := by decide +kernel
theorem dX2_turnBack_44 : decode cX2_turnBack 44 = .ok (.isub, 1) := by decide +kernel
theorem dX2_turnBack_45 : decode cX2_turnBack 45 = .ok (.invokestatic 44, 3) := by decide +kernel
theorem dX2_turnBack_48 : decode cX2_turnBack 48 = .ok (.ifCond .eq 13, 3) := by decide +kernel
theorem dX2_turnBack_51 : decode cX2_turnBack 51 = .ok (.aload_n 2, 1) := by decide +kernel
theorem dX2_turnBack_52 : decode cX2_turnBack 52 = .ok (.iload 4, 2) := by decide +kernel
theorem dX2_turnBack_54 : decode cX2_turnBack 54 = .ok (.aload_n 0, 1) := by decide +kernel
theorem dX2_turnBack_55 : decode cX2_turnBack 55 = .ok (.iload_n 3, 1) := by decide +kernel
theorem dX2_turnBack_56 : decode cX2_turnBack 56 = .ok (.iconst 3, 1) := by decide +kernel
theorem dX2_turnBack_57 : decode cX2_turnBack 57 = .ok (.invokevirtual 34, 3) := by decide +kernel
theorem dX2_turnBack_60 : decode cX2_turnBack 60 = .ok (.iastore, 1) := by decide +kernel
theorem dX2_turnBack_61 : decode cX2_turnBack 61 = .ok (.iinc 3 (-1), 3) := by decide +kernel
theorem dX2_turnBack_64 : decode cX2_turnBack 64 = .ok (.goto (-57), 3) := by decide +kernel
theorem dX2_turnBack_67 : decode cX2_turnBack 67 = .ok (.return_, 1) := by decide +kernel
theorem dX3_init_0 : decode cX3_init 0 = .ok (.aload_n 0, 1) := by decide +kernel
theorem dX3_init_1 : decode cX3_init 1 = .ok (.invokespecial 3, 3) := by decide +kernel
theorem dX3_init_4 : decode cX3_init 4 = .ok (.aload_n 0, 1) := by decide +kernel
theorem dX3_init_5 : decode cX3_init 5 = .ok (.bipush 120, 2) := by decide +kernel
theorem dX3_init_7 : decode cX3_init 7 = .ok (.newarray .int, 2) := by decide +kernel
theorem dX3_init_9 : decode cX3_init 9 = .ok (.putfield 9, 3) := by decide +kernel
theorem dX3_init_12 : decode cX3_init 12 = .ok (.aload_n 0, 1) := by decide +kernel
theorem dX3_init_13 : decode cX3_init 13 = .ok (.bipush 30, 2) := by decide +kernel
theorem dX3_init_15 : decode cX3_init 15 = .ok (.newarray .int, 2) := by decide +kernel
theorem dX3_init_17 : decode cX3_init 17 = .ok (.putfield 15, 3) := by decide +kernel
theorem dX3_init_20 : decode cX3_init 20 = .ok (.aload_n 0, 1) := by decide +kernel
theorem dX3_init_21 : decode cX3_init 21 = .ok (.bipush 120, 2) := by decide +kernel
theorem dX3_init_23 : decode cX3_init 23 = .ok (.newarray .int, 2) := by decide +kernel
theorem dX3_init_25 : decode cX3_init 25 = .ok (.putfield 18, 3) := by decide +kernel
theorem dX3_init_28 : decode cX3_init 28 = .ok (.return_, 1) := by decide +kernel
theorem dX3_put_0 : decode cX3_put 0 = .ok (.aload_n 0, 1) := by decide +kernel
theorem dX3_put_1 : decode cX3_put 1 = .ok (.getfield 21, 3) := by decide +kernel
theorem dX3_put_4 : decode cX3_put 4 = .ok (.iconst 0, 1) := by decide +kernel
theorem dX3_put_5 : decode cX3_put 5 = .ok (.bipush 119, 2) := by decide +kernel
theorem dX3_put_7 : decode cX3_put 7 = .ok (.invokestatic 25, 3) := by decide +kernel
theorem dX3_put_10 : decode cX3_put 10 = .ok (.ifCond .eq 23, 3) := by decide +kernel
theorem dX3_put_13 : decode cX3_put 13 = .ok (.aload_n 0, 1) := by decide +kernel
theorem dX3_put_14 : decode cX3_put 14 = .ok (.getfield 9, 3) := by decide +kernel
theorem dX3_put_17 : decode cX3_put 17 = .ok (.aload_n 0, 1) := by decide +kernel
theorem dX3_put_18 : decode cX3_put 18 = .ok (.getfield 21, 3) := by decide +kernel
theorem dX3_put_21 : decode cX3_put 21 = .ok (.iload_n 1, 1) := by decide +kernel
theorem dX3_put_22 : decode cX3_put 22 = .ok (.iastore, 1) := by decide +kernel
theorem dX3_put_23 : decode cX3_put 23 = .ok (.aload_n 0, 1) := by decide +kernel
theorem dX3_put_24 : decode cX3_put 24 = .ok (.dup, 1) := by decide +kernel
theorem dX3_put_25 : decode cX3_put 25 = .ok (.getfield 21, 3) := by decide +kernel
theorem dX3_put_28 : decode cX3_put 28 = .ok (.iconst 1, 1) := by decide +kernel
theorem dX3_put_29 : decode cX3_put 29 = .ok (.iadd, 1) := by decide +kernel
theorem dX3_put_30 : decode cX3_put 30 = .ok (.putfield 21, 3) := by decide +kernel
theorem dX3_put_33 : decode cX3_put 33 = .ok (.aload_n 0, 1) := by decide +kernel
theorem dX3_put_34 : decode cX3_put 34 = .ok (.getfield 21, 3) := by decide +kernel
theorem dX3_put_37 : decode cX3_put 37 = .ok (.ireturn, 1) := by decide +kernel
theorem dX3_parse_0 : decode cX3_parse 0 = .ok (.aload_n 0, 1) := by decide +kernel
theorem dX3_parse_1 : decode cX3_parse 1 = .ok (.iconst 0, 1) := by decide +kernel
theorem dX3_parse_2 : decode cX3_parse 2 = .ok (.putfield 29, 3) := by decide +kernel
theorem dX3_parse_5 : decode cX3_parse 5 = .ok (.aload_n 0, 1) := by decide +kernel
theorem dX3_parse_6 : decode cX3_parse 6 = .ok (.iconst 0, 1) := by decide +kernel
theorem dX3_parse_7 : decode cX3_parse 7 = .ok (.putfield 32, 3) := by decide +kernel
theorem dX3_parse_10 : decode cX3_parse 10 = .ok (.iconst 0, 1) := by decide +kernel
theorem dX3_parse_11 : decode cX3_parse 11 = .ok (.istore_n 1, 1) := by decide +kernel
theorem dX3_parse_12 : decode cX3_parse 12 = .ok (.iload_n 1, 1) := by decide +kernel
theorem dX3_parse_13 : decode cX3_parse 13 = .ok (.aload_n 0, 1) := by decide +kernel
theorem dX3_parse_14 : decode cX3_parse 14 = .ok (.getfield 21, 3) := by decide +kernel
theorem dX3_parse_17 : decode cX3_parse 17 = .ok (.if_icmp .ge 30, 3) := by decide +kernel
theorem dX3_parse_20 : decode cX3_parse 20 = .ok (.iload_n 1, 1) := by decide +kernel
theorem dX3_parse_21 : decode cX3_parse 21 = .ok (.bipush 120, 2) := by decide +kernel
theorem dX3_parse_23 : decode cX3_parse 23 = .ok (.if_icmp .ge 24, 3) := by decide +kernel
theorem dX3_parse_26 : decode cX3_parse 26 = .ok (.aload_n 0, 1) := by decide +kernel
theorem dX3_parse_27 : decode cX3_parse 27 = .ok (.aload_n 0, 1) := by decide +kernel
theorem dX3_parse_28 : decode cX3_parse 28 = .ok (.getfield 9, 3) := by decide +kernel
theorem dX3_parse_31 : decode cX3_parse 31 = .ok (.iload_n 1, 1) := by decide +kernel
theorem dX3_parse_32 : decode cX3_parse 32 = .ok (.iaload, 1) := by decide +kernel
theorem dX3_parse_33 : decode cX3_parse 33 = .ok (.invokevirtual 35, 3) := by decide +kernel
theorem dX3_parse_36 : decode cX3_parse 36 = .ok (.ifCond .ne 5, 3) := by decide +kernel
theorem dX3_parse_39 : decode cX3_parse 39 = .ok (.iload_n 1, 1) := by decide +kernel
theorem dX3_parse_40 : decode cX3_parse 40 = .ok (.ireturn, 1) := by decide +kernel
theorem dX3_parse_41 : decode cX3_parse 41 = .ok (.iinc 1 1, 3) := by decide +kernel
theorem dX3_parse_44 : decode cX3_parse 44 = .ok (.goto (-32), 3) := by decide +kernel
theorem dX3_parse_47 : decode cX3_parse 47 = .ok (.aload_n 0, 1) := by decide +kernel
theorem dX3_parse_48 : decode cX3_parse 48 = .ok (.getfield 32, 3) := by decide +kernel
theorem dX3_parse_51 : decode cX3_parse 51 = .ok (.ifCond .ne 7, 3) := by decide +kernel
theorem dX3_parse_54 : decode cX3_parse 54 = .ok (.iconst (-1), 1) := by decide +kernel
theorem dX3_parse_55 : decode cX3_parse 55 = .ok (.goto 7, 3) := by decide +kernel
theorem dX3_parse_58 : decode cX3_parse 58 = .ok (.aload_n 0, 1) := by decide +kernel
theorem dX3_parse_59 : decode cX3_parse 59 = .ok (.getfield 21, 3) := by decide +kernel
theorem dX3_parse_62 : decode cX3_parse 62 = .ok (.ireturn, 1) := by decide +kernel
theorem dX3_takes_0 : decode cX3_takes 0 = .ok (.aload_n 0, 1) := by decide +kernel
theorem dX3_takes_1 : decode cX3_takes 1 = .ok (.getfield 32, 3) := by decide +kernel
theorem dX3_takes_4 : decode cX3_takes 4 = .ok (.tableswitch 65 0 2 #[28, 34, 40], 28) := by decide +kernel
theorem dX3_takes_32 : decode cX3_takes 32 = .ok (.aload_n 0, 1) := by decide +kernel
theorem dX3_takes_33 : decode cX3_takes 33 = .ok (.iload_n 1, 1) := by decide +kernel
theorem dX3_takes_34 : decode cX3_takes 34 = .ok (.invokevirtual 39, 3) := by decide +kernel
theorem dX3_takes_37 : decode cX3_takes 37 = .ok (.ireturn, 1) := by decide +kernel
theorem dX3_takes_38 : decode cX3_takes 38 = .ok (.aload_n 0, 1) := by decide +kernel
theorem dX3_takes_39 : decode cX3_takes 39 = .ok (.iload_n 1, 1) := by decide +kernel
theorem dX3_takes_40 : decode cX3_takes 40 = .ok (.invokevirtual 42, 3) := by decide +kernel
theorem dX3_takes_43 : decode cX3_takes 43 = .ok (.ireturn, 1) := by decide +kernel
theorem dX3_takes_44 : decode cX3_takes 44 = .ok (.iload_n 1, 1) := by decide +kernel
theorem dX3_takes_45 : decode cX3_takes 45 = .ok (.bipush 48, 2) := by decide +kernel
theorem dX3_takes_47 : decode cX3_takes 47 = .ok (.bipush 57, 2) := by decide +kernel
theorem dX3_takes_49 : decode cX3_takes 49 = .ok (.invokestatic 25, 3) := by decide +kernel
theorem dX3_takes_52 : decode cX3_takes 52 = .ok (.ifCond .eq 15, 3) := by decide +kernel
theorem dX3_takes_55 : decode cX3_takes 55 = .ok (.aload_n 0, 1) := by decide +kernel
theorem dX3_takes_56 : decode cX3_takes 56 = .ok (.iload_n 1, 1) := by decide +kernel
theorem dX3_takes_57 : decode cX3_takes 57 = .ok (.invokevirtual 45, 3) := by decide +kernel
theorem dX3_takes_60 : decode cX3_takes 60 = .ok (.ifCond .eq 7, 3) := by decide +kernel
theorem dX3_takes_63 : decode cX3_takes 63 = .ok (.iconst 1, 1) := by decide +kernel
theorem dX3_takes_64 : decode cX3_takes 64 = .ok (.goto 4, 3) := by decide +kernel
theorem dX3_takes_67 : decode cX3_takes 67 = .ok (.iconst 0, 1) := by decide +kernel
theorem dX3_takes_68 : decode cX3_takes 68 = .ok (.ireturn, 1) := by decide +kernel
theorem dX3_takes_69 : decode cX3_takes 69 = .ok (.aload_n 0, 1) := by decide +kernel
theorem dX3_takes_70 : decode cX3_takes 70 = .ok (.iload_n 1, 1) := by decide +kernel
theorem dX3_takes_71 : decode cX3_takes 71 = .ok (.invokevirtual 48, 3) := by decide +kernel
theorem dX3_takes_74 : decode cX3_takes 74 = .ok (.ireturn, 1) := by decide +kernel
theorem dX3_takesLetter_0 : decode cX3_takesLetter 0 = .ok (.iload_n 1, 1) := by decide +kernel
theorem dX3_takesLetter_1 : decode cX3_takesLetter 1 = .ok (.invokestatic 51, 3) := by decide +kernel
theorem dX3_takesLetter_4 : decode cX3_takesLetter 4 = .ok (.ifCond .eq 16, 3) := by decide +kernel
theorem dX3_takesLetter_7 : decode cX3_takesLetter 7 = .ok (.aload_n 0, 1) := by decide +kernel
theorem dX3_takesLetter_8 : decode cX3_takesLetter 8 = .ok (.getfield 29, 3) := by decide +kernel
theorem dX3_takesLetter_11 : decode cX3_takesLetter 11 = .ok (.iconst 0, 1) := by decide +kernel
theorem dX3_takesLetter_12 : decode cX3_takesLetter 12 = .ok (.bipush 29, 2) := by decide +kernel
theorem dX3_takesLetter_14 : decode cX3_takesLetter 14 = .ok (.invokestatic 25, 3) := by decide +kernel
theorem dX3_takesLetter_17 : decode cX3_takesLetter 17 = .ok (.ifCond .ne 5, 3) := by decide +kernel
theorem dX3_takesLetter_20 : decode cX3_takesLetter 20 = .ok (.iconst 0, 1) := by decide +kernel
theorem dX3_takesLetter_21 : decode cX3_takesLetter 21 = .ok (.ireturn, 1) := by decide +kernel
theorem dX3_takesLetter_22 : decode cX3_takesLetter 22 = .ok (.aload_n 0, 1) := by decide +kernel
theorem dX3_takesLetter_23 : decode cX3_takesLetter 23 = .ok (.getfield 15, 3) := by decide +kernel
theorem dX3_takesLetter_26 : decode cX3_takesLetter 26 = .ok (.aload_n 0, 1) := by decide +kernel
theorem dX3_takesLetter_27 : decode cX3_takesLetter 27 = .ok (.getfield 29, 3) := by decide +kernel
theorem dX3_takesLetter_30 : decode cX3_takesLetter 30 = .ok (.iload_n 1, 1) := by decide +kernel
theorem dX3_takesLetter_31 : decode cX3_takesLetter 31 = .ok (.iastore, 1) := by decide +kernel
theorem dX3_takesLetter_32 : decode cX3_takesLetter 32 = .ok (.aload_n 0, 1) := by decide +kernel
theorem dX3_takesLetter_33 : decode cX3_takesLetter 33 = .ok (.iconst 0, 1) := by decide +kernel
theorem dX3_takesLetter_34 : decode cX3_takesLetter 34 = .ok (.putfield 55, 3) := by decide +kernel
theorem dX3_takesLetter_37 : decode cX3_takesLetter 37 = .ok (.aload_n 0, 1) := by decide +kernel
theorem dX3_takesLetter_38 : decode cX3_takesLetter 38 = .ok (.iconst 1, 1) := by decide +kernel
theorem dX3_takesLetter_39 : decode cX3_takesLetter 39 = .ok (.putfield 32, 3) := by decide +kernel
theorem dX3_takesLetter_42 : decode cX3_takesLetter 42 = .ok (.iconst 1, 1) := by decide +kernel
theorem dX3_takesLetter_43 : decode cX3_takesLetter 43 = .ok (.ireturn, 1) := by decide +kernel
theorem dX3_numbersAfter_0 : decode cX3_numbersAfter 0 = .ok (.iload_n 0, 1) := by decide +kernel
theorem dX3_numbersAfter_1 : decode cX3_numbersAfter 1 = .ok (.tableswitch 91 98 113 #[87, 91, 85, 81, 91, 83, 91, 91, 91, 91, 91, 91, 91, 91, 89, 79], 79) := by decide +kernel
theorem dX3_numbersAfter_80 : decode cX3_numbersAfter 80 = .ok (.iconst 4, 1) := by decide +kernel
theorem dX3_numbersAfter_81 : decode cX3_numbersAfter 81 = .ok (.ireturn, 1) := by decide +kernel
theorem dX3_numbersAfter_82 : decode cX3_numbersAfter 82 = .ok (.iconst 4, 1) := by decide +kernel
theorem dX3_numbersAfter_83 : decode cX3_numbersAfter 83 = .ok (.ireturn, 1) := by decide +kernel
theorem dX3_numbersAfter_84 : decode cX3_numbersAfter 84 = .ok (.iconst 2, 1) := by decide +kernel
theorem dX3_numbersAfter_85 : decode cX3_numbersAfter 85 = .ok (.ireturn, 1) := by decide +kernel
theorem dX3_numbersAfter_86 : decode cX3_numbersAfter 86 = .ok (.iconst 1, 1) := by decide +kernel
theorem dX3_numbersAfter_87 : decode cX3_numbersAfter 87 = .ok (.ireturn, 1) := by decide +kernel
theorem dX3_numbersAfter_88 : decode cX3_numbersAfter 88 = .ok (.iconst 1, 1) := by decide +kernel
theorem dX3_numbersAfter_89 : decode cX3_numbersAfter 89 = .ok (.ireturn, 1) := by decide +kernel
theorem dX3_numbersAfter_90 : decode cX3_numbersAfter 90 = .ok (.iconst 1, 1) := by decide +kernel
theorem dX3_numbersAfter_91 : decode cX3_numbersAfter 91 = .ok (.ireturn, 1) := by decide +kernel
theorem dX3_numbersAfter_92 : decode cX3_numbersAfter 92 = .ok (.iconst 0, 1) := by decide +kernel
theorem dX3_numbersAfter_93 : decode cX3_numbersAfter 93 = .ok (.ireturn, 1) := by decide +kernel
theorem dX3_takesSpace_0 : decode cX3_takesSpace 0 = .ok (.iload_n 1, 1) := by decide +kernel
theorem dX3_takesSpace_1 : decode cX3_takesSpace 1 = .ok (.bipush 32, 2) := by decide +kernel
theorem dX3_takesSpace_3 : decode cX3_takesSpace 3 = .ok (.if_icmp .eq 5, 3) := by decide +kernel
theorem dX3_takesSpace_6 : decode cX3_takesSpace 6 = .ok (.iconst 0, 1) := by decide +kernel
theorem dX3_takesSpace_7 : decode cX3_takesSpace 7 = .ok (.ireturn, 1) := by decide +kernel
theorem dX3_takesSpace_8 : decode cX3_takesSpace 8 = .ok (.aload_n 0, 1) := by decide +kernel
theorem dX3_takesSpace_9 : decode cX3_takesSpace 9 = .ok (.aload_n 0, 1) := by decide +kernel
theorem dX3_takesSpace_10 : decode cX3_takesSpace 10 = .ok (.getfield 29, 3) := by decide +kernel
theorem dX3_takesSpace_13 : decode cX3_takesSpace 13 = .ok (.aload_n 0, 1) := by decide +kernel
theorem dX3_takesSpace_14 : decode cX3_takesSpace 14 = .ok (.getfield 55, 3) := by decide +kernel
theorem dX3_takesSpace_17 : decode cX3_takesSpace 17 = .ok (.iconst 0, 1) := by decide +kernel
theorem dX3_takesSpace_18 : decode cX3_takesSpace 18 = .ok (.invokevirtual 58, 3) := by decide +kernel
theorem dX3_takesSpace_21 : decode cX3_takesSpace 21 = .ok (.aload_n 0, 1) := by decide +kernel
theorem dX3_takesSpace_22 : decode cX3_takesSpace 22 = .ok (.dup, 1) := by decide +kernel
theorem dX3_takesSpace_23 : decode cX3_takesSpace 23 = .ok (.getfield 55, 3) := by decide +kernel
theorem dX3_takesSpace_26 : decode cX3_takesSpace 26 = .ok (.iconst 1, 1) := by decide +kernel
theorem dX3_takesSpace_27 : decode cX3_takesSpace 27 = .ok (.iadd, 1) := by decide +kernel
theorem dX3_takesSpace_28 : decode cX3_takesSpace 28 = .ok (.putfield 55, 3) := by decide +kernel
theorem dX3_takesSpace_31 : decode cX3_takesSpace 31 = .ok (.aload_n 0, 1) := by decide +kernel
theorem dX3_takesSpace_32 : decode cX3_takesSpace 32 = .ok (.iconst 0, 1) := by decide +kernel
theorem dX3_takesSpace_33 : decode cX3_takesSpace 33 = .ok (.putfield 62, 3) := by decide +kernel
theorem dX3_takesSpace_36 : decode cX3_takesSpace 36 = .ok (.aload_n 0, 1) := by decide +kernel
theorem dX3_takesSpace_37 : decode cX3_takesSpace 37 = .ok (.iconst 2, 1) := by decide +kernel
theorem dX3_takesSpace_38 : decode cX3_takesSpace 38 = .ok (.putfield 32, 3) := by decide +kernel
theorem dX3_takesSpace_41 : decode cX3_takesSpace 41 = .ok (.iconst 1, 1) := by decide +kernel
theorem dX3_takesSpace_42 : decode cX3_takesSpace 42 = .ok (.ireturn, 1) := by decide +kernel
theorem dX3_takesDigit_0 : decode cX3_takesDigit 0 = .ok (.aload_n 0, 1) := by decide +kernel
theorem dX3_takesDigit_1 : decode cX3_takesDigit 1 = .ok (.getfield 62, 3) := by decide +kernel
theorem dX3_takesDigit_4 : decode cX3_takesDigit 4 = .ok (.iconst 4, 1) := by decide +kernel
theorem dX3_takesDigit_5 : decode cX3_takesDigit 5 = .ok (.if_icmp .lt 5, 3) := by decide +kernel
theorem dX3_takesDigit_8 : decode cX3_takesDigit 8 = .ok (.iconst 0, 1) := by decide +kernel
theorem dX3_takesDigit_9 : decode cX3_takesDigit 9 = .ok (.ireturn, 1) := by decide +kernel
theorem dX3_takesDigit_10 : decode cX3_takesDigit 10 = .ok (.aload_n 0, 1) := by decide +kernel
theorem dX3_takesDigit_11 : decode cX3_takesDigit 11 = .ok (.aload_n 0, 1) := by decide +kernel
theorem dX3_takesDigit_12 : decode cX3_takesDigit 12 = .ok (.getfield 29, 3) := by decide +kernel
theorem dX3_takesDigit_15 : decode cX3_takesDigit 15 = .ok (.aload_n 0, 1) := by decide +kernel
theorem dX3_takesDigit_16 : decode cX3_takesDigit 16 = .ok (.getfield 55, 3) := by decide +kernel
theorem dX3_takesDigit_19 : decode cX3_takesDigit 19 = .ok (.iconst 1, 1) := by decide +kernel
theorem dX3_takesDigit_20 : decode cX3_takesDigit 20 = .ok (.isub, 1) := by decide +kernel
theorem dX3_takesDigit_21 : decode cX3_takesDigit 21 = .ok (.aload_n 0, 1) := by decide +kernel
theorem dX3_takesDigit_22 : decode cX3_takesDigit 22 = .ok (.aload_n 0, 1) := by decide +kernel
theorem dX3_takesDigit_23 : decode cX3_takesDigit 23 = .ok (.getfield 29, 3) := by decide +kernel
theorem dX3_takesDigit_26 : decode cX3_takesDigit 26 = .ok (.aload_n 0, 1) := by decide +kernel
theorem dX3_takesDigit_27 : decode cX3_takesDigit 27 = .ok (.getfield 55, 3) := by decide +kernel
theorem dX3_takesDigit_30 : decode cX3_takesDigit 30 = .ok (.iconst 1, 1) := by decide +kernel
theorem dX3_takesDigit_31 : decode cX3_takesDigit 31 = .ok (.isub, 1) := by decide +kernel
theorem dX3_takesDigit_32 : decode cX3_takesDigit 32 = .ok (.invokevirtual 65, 3) := by decide +kernel
theorem dX3_takesDigit_35 : decode cX3_takesDigit 35 = .ok (.bipush 10, 2) := by decide +kernel
theorem dX3_takesDigit_37 : decode cX3_takesDigit 37 = .ok (.imul, 1) := by decide +kernel
theorem dX3_takesDigit_38 : decode cX3_takesDigit 38 = .ok (.iload_n 1, 1) := by decide +kernel
theorem dX3_takesDigit_39 : decode cX3_takesDigit 39 = .ok (.iadd, 1) := by decide +kernel
theorem dX3_takesDigit_40 : decode cX3_takesDigit 40 = .ok (.bipush 48, 2) := by decide +kernel
theorem dX3_takesDigit_42 : decode cX3_takesDigit 42 = .ok (.isub, 1) := by decide +kernel
theorem dX3_takesDigit_43 : decode cX3_takesDigit 43 = .ok (.invokevirtual 58, 3) := by decide +kernel
theorem dX3_takesDigit_46 : decode cX3_takesDigit 46 = .ok (.aload_n 0, 1) := by decide +kernel
theorem dX3_takesDigit_47 : decode cX3_takesDigit 47 = .ok (.dup, 1) := by decide +kernel
theorem dX3_takesDigit_48 : decode cX3_takesDigit 48 = .ok (.getfield 62, 3) := by decide +kernel
theorem dX3_takesDigit_51 : decode cX3_takesDigit 51 = .ok (.iconst 1, 1) := by decide +kernel
theorem dX3_takesDigit_52 : decode cX3_takesDigit 52 = .ok (.iadd, 1) := by decide +kernel
theorem dX3_takesDigit_53 : decode cX3_takesDigit 53 = .ok (.putfield 62, 3) := by decide +kernel
theorem dX3_takesDigit_56 : decode cX3_takesDigit 56 = .ok (.aload_n 0, 1) := by decide +kernel
theorem dX3_takesDigit_57 : decode cX3_takesDigit 57 = .ok (.iconst 3, 1) := by decide +kernel
theorem dX3_takesDigit_58 : decode cX3_takesDigit 58 = .ok (.putfield 32, 3) := by decide +kernel
theorem dX3_takesDigit_61 : decode cX3_takesDigit 61 = .ok (.iconst 1, 1) := by decide +kernel
theorem dX3_takesDigit_62 : decode cX3_takesDigit 62 = .ok (.ireturn, 1) := by decide +kernel
theorem dX3_takesInNumber_0 : decode cX3_takesInNumber 0 = .ok (.iload_n 1, 1) := by decide +kernel
theorem dX3_takesInNumber_1 : decode cX3_takesInNumber 1 = .ok (.bipush 48, 2) := by decide +kernel
theorem dX3_takesInNumber_3 : decode cX3_takesInNumber 3 = .ok (.bipush 57, 2) := by decide +kernel
theorem dX3_takesInNumber_5 : decode cX3_takesInNumber 5 = .ok (.invokestatic 25, 3) := by decide +kernel
theorem dX3_takesInNumber_8 : decode cX3_takesInNumber 8 = .ok (.ifCond .eq 9, 3) := by decide +kernel
theorem dX3_takesInNumber_11 : decode cX3_takesInNumber 11 = .ok (.aload_n 0, 1) := by decide +kernel
theorem dX3_takesInNumber_12 : decode cX3_takesInNumber 12 = .ok (.iload_n 1, 1) := by decide +kernel
theorem dX3_takesInNumber_13 : decode cX3_takesInNumber 13 = .ok (.invokevirtual 45, 3) := by decide +kernel
theorem dX3_takesInNumber_16 : decode cX3_takesInNumber 16 = .ok (.ireturn, 1) := by decide +kernel
theorem dX3_takesInNumber_17 : decode cX3_takesInNumber 17 = .ok (.aload_n 0, 1) := by decide +kernel
theorem dX3_takesInNumber_18 : decode cX3_takesInNumber 18 = .ok (.getfield 55, 3) := by decide +kernel
theorem dX3_takesInNumber_21 : decode cX3_takesInNumber 21 = .ok (.aload_n 0, 1) := by decide +kernel
theorem dX3_takesInNumber_22 : decode cX3_takesInNumber 22 = .ok (.aload_n 0, 1) := by decide +kernel
theorem dX3_takesInNumber_23 : decode cX3_takesInNumber 23 = .ok (.getfield 29, 3) := by decide +kernel
theorem dX3_takesInNumber_26 : decode cX3_takesInNumber 26 = .ok (.invokevirtual 69, 3) := by decide +kernel
theorem dX3_takesInNumber_29 : decode cX3_takesInNumber 29 = .ok (.invokestatic 51, 3) := by decide +kernel
theorem dX3_takesInNumber_32 : decode cX3_takesInNumber 32 = .ok (.if_icmp .ne 7, 3) := by decide +kernel
theorem dX3_takesInNumber_35 : decode cX3_takesInNumber 35 = .ok (.iconst 1, 1) := by decide +kernel
theorem dX3_takesInNumber_36 : decode cX3_takesInNumber 36 = .ok (.goto 4, 3) := by decide +kernel
theorem dX3_takesInNumber_39 : decode cX3_takesInNumber 39 = .ok (.iconst 0, 1) := by decide +kernel
theorem dX3_takesInNumber_40 : decode cX3_takesInNumber 40 = .ok (.istore_n 2, 1) := by decide +kernel
theorem dX3_takesInNumber_41 : decode cX3_takesInNumber 41 = .ok (.iload_n 1, 1) := by decide +kernel
theorem dX3_takesInNumber_42 : decode cX3_takesInNumber 42 = .ok (.bipush 59, 2) := by decide +kernel
theorem dX3_takesInNumber_44 : decode cX3_takesInNumber 44 = .ok (.if_icmp .eq 21, 3) := by decide +kernel
theorem dX3_takesInNumber_47 : decode cX3_takesInNumber 47 = .ok (.iload_n 2, 1) := by decide +kernel
theorem dX3_takesInNumber_48 : decode cX3_takesInNumber 48 = .ok (.ifCond .ne 15, 3) := by decide +kernel
theorem dX3_takesInNumber_51 : decode cX3_takesInNumber 51 = .ok (.aload_n 0, 1) := by decide +kernel
theorem dX3_takesInNumber_52 : decode cX3_takesInNumber 52 = .ok (.iload_n 1, 1) := by decide +kernel
theorem dX3_takesInNumber_53 : decode cX3_takesInNumber 53 = .ok (.invokevirtual 42, 3) := by decide +kernel
theorem dX3_takesInNumber_56 : decode cX3_takesInNumber 56 = .ok (.ifCond .eq 7, 3) := by decide +kernel
theorem dX3_takesInNumber_59 : decode cX3_takesInNumber 59 = .ok (.iconst 1, 1) := by decide +kernel
theorem dX3_takesInNumber_60 : decode cX3_takesInNumber 60 = .ok (.goto 4, 3) := by decide +kernel
theorem dX3_takesInNumber_63 : decode cX3_takesInNumber 63 = .ok (.iconst 0, 1) := by decide +kernel
theorem dX3_takesInNumber_64 : decode cX3_takesInNumber 64 = .ok (.ireturn, 1) := by decide +kernel
theorem dX3_takesInNumber_65 : decode cX3_takesInNumber 65 = .ok (.iload_n 2, 1) := by decide +kernel
theorem dX3_takesInNumber_66 : decode cX3_takesInNumber 66 = .ok (.ifCond .eq 18, 3) := by decide +kernel
theorem dX3_takesInNumber_69 : decode cX3_takesInNumber 69 = .ok (.aload_n 0, 1) := by decide +kernel
theorem dX3_takesInNumber_70 : decode cX3_takesInNumber 70 = .ok (.dup, 1) := by decide +kernel
theorem dX3_takesInNumber_71 : decode cX3_takesInNumber 71 = .ok (.getfield 29, 3) := by decide +kernel
theorem dX3_takesInNumber_74 : decode cX3_takesInNumber 74 = .ok (.iconst 1, 1) := by decide +kernel
theorem dX3_takesInNumber_75 : decode cX3_takesInNumber 75 = .ok (.iadd, 1) := by decide +kernel
theorem dX3_takesInNumber_76 : decode cX3_takesInNumber 76 = .ok (.putfield 29, 3) := by decide +kernel
theorem dX3_takesInNumber_79 : decode cX3_takesInNumber 79 = .ok (.aload_n 0, 1) := by decide +kernel
theorem dX3_takesInNumber_80 : decode cX3_takesInNumber 80 = .ok (.iconst 0, 1) := by decide +kernel
theorem dX3_takesInNumber_81 : decode cX3_takesInNumber 81 = .ok (.putfield 32, 3) := by decide +kernel
theorem dX3_takesInNumber_84 : decode cX3_takesInNumber 84 = .ok (.iload_n 2, 1) := by decide +kernel
theorem dX3_takesInNumber_85 : decode cX3_takesInNumber 85 = .ok (.ireturn, 1) := by decide +kernel
theorem dX3_letterOf_0 : decode cX3_letterOf 0 = .ok (.iload_n 1, 1) := by decide +kernel
theorem dX3_letterOf_1 : decode cX3_letterOf 1 = .ok (.iconst 0, 1) := by decide +kernel
theorem dX3_letterOf_2 : decode cX3_letterOf 2 = .ok (.bipush 29, 2) := by decide +kernel
theorem dX3_letterOf_4 : decode cX3_letterOf 4 = .ok (.invokestatic 25, 3) := by decide +kernel
theorem dX3_letterOf_7 : decode cX3_letterOf 7 = .ok (.ifCond .eq 12, 3) := by decide +kernel
theorem dX3_letterOf_10 : decode cX3_letterOf 10 = .ok (.aload_n 0, 1) := by decide +kernel
theorem dX3_letterOf_11 : decode cX3_letterOf 11 = .ok (.getfield 15, 3) := by decide +kernel
theorem dX3_letterOf_14 : decode cX3_letterOf 14 = .ok (.iload_n 1, 1) := by decide +kernel
theorem dX3_letterOf_15 : decode cX3_letterOf 15 = .ok (.iaload, 1) := by decide +kernel
theorem dX3_letterOf_16 : decode cX3_letterOf 16 = .ok (.goto 4, 3) := by decide +kernel
theorem dX3_letterOf_19 : decode cX3_letterOf 19 = .ok (.iconst 0, 1) := by decide +kernel
theorem dX3_letterOf_20 : decode cX3_letterOf 20 = .ok (.ireturn, 1) := by decide +kernel
theorem dX3_numberOf_0 : decode cX3_numberOf 0 = .ok (.iload_n 1, 1) := by decide +kernel
theorem dX3_numberOf_1 : decode cX3_numberOf 1 = .ok (.iconst 0, 1) := by decide +kernel
theorem dX3_numberOf_2 : decode cX3_numberOf 2 = .ok (.bipush 29, 2) := by decide +kernel
theorem dX3_numberOf_4 : decode cX3_numberOf 4 = .ok (.invokestatic 25, 3) := by decide +kernel
theorem dX3_numberOf_7 : decode cX3_numberOf 7 = .ok (.ifCond .eq 16, 3) := by decide +kernel
theorem dX3_numberOf_10 : decode cX3_numberOf 10 = .ok (.iload_n 2, 1) := by decide +kernel
theorem dX3_numberOf_11 : decode cX3_numberOf 11 = .ok (.iconst 0, 1) := by decide +kernel
theorem dX3_numberOf_12 : decode cX3_numberOf 12 = .ok (.iconst 3, 1) := by decide +kernel
theorem dX3_numberOf_13 : decode cX3_numberOf 13 = .ok (.invokestatic 25, 3) := by decide +kernel
theorem dX3_numberOf_16 : decode cX3_numberOf 16 = .ok (.ifCond .eq 7, 3) := by decide +kernel
theorem dX3_numberOf_19 : decode cX3_numberOf 19 = .ok (.iconst 1, 1) := by decide +kernel
theorem dX3_numberOf_20 : decode cX3_numberOf 20 = .ok (.goto 4, 3) := by decide +kernel
theorem dX3_numberOf_23 : decode cX3_numberOf 23 = .ok (.iconst 0, 1) := by decide +kernel
theorem dX3_numberOf_24 : decode cX3_numberOf 24 = .ok (.istore_n 3, 1) := by decide +kernel
theorem dX3_numberOf_25 : decode cX3_numberOf 25 = .ok (.iload_n 3, 1) := by decide +kernel
theorem dX3_numberOf_26 : decode cX3_numberOf 26 = .ok (.ifCond .eq 16, 3) := by decide +kernel
theorem dX3_numberOf_29 : decode cX3_numberOf 29 = .ok (.aload_n 0, 1) := by decide +kernel
theorem dX3_numberOf_30 : decode cX3_numberOf 30 = .ok (.getfield 18, 3) := by decide +kernel
theorem dX3_numberOf_33 : decode cX3_numberOf 33 = .ok (.iload_n 1, 1) := by decide +kernel
theorem dX3_numberOf_34 : decode cX3_numberOf 34 = .ok (.iconst 4, 1) := by decide +kernel
theorem dX3_numberOf_35 : decode cX3_numberOf 35 = .ok (.imul, 1) := by decide +kernel
theorem dX3_numberOf_36 : decode cX3_numberOf 36 = .ok (.iload_n 2, 1) := by decide +kernel
theorem dX3_numberOf_37 : decode cX3_numberOf 37 = .ok (.iadd, 1) := by decide +kernel
theorem dX3_numberOf_38 : decode cX3_numberOf 38 = .ok (.iaload, 1) := by decide +kernel
theorem dX3_numberOf_39 : decode cX3_numberOf 39 = .ok (.goto 4, 3) := by decide +kernel
theorem dX3_numberOf_42 : decode cX3_numberOf 42 = .ok (.iconst 0, 1) := by decide +kernel
theorem dX3_numberOf_43 : decode cX3_numberOf 43 = .ok (.ireturn, 1) := by decide +kernel
theorem dX3_setNumber_0 : decode cX3_setNumber 0 = .ok (.iload_n 1, 1) := by decide +kernel
theorem dX3_setNumber_1 : decode cX3_setNumber 1 = .ok (.iconst 0, 1) := by decide +kernel
theorem dX3_setNumber_2 : decode cX3_setNumber 2 = .ok (.bipush 29, 2) := by decide +kernel
theorem dX3_setNumber_4 : decode cX3_setNumber 4 = .ok (.invokestatic 25, 3) := by decide +kernel
theorem dX3_setNumber_7 : decode cX3_setNumber 7 = .ok (.ifCond .eq 23, 3) := by decide +kernel
theorem dX3_setNumber_10 : decode cX3_setNumber 10 = .ok (.iload_n 2, 1) := by decide +kernel
theorem dX3_setNumber_11 : decode cX3_setNumber 11 = .ok (.iconst 0, 1) := by decide +kernel
theorem dX3_setNumber_12 : decode cX3_setNumber 12 = .ok (.iconst 3, 1) := by decide +kernel
theorem dX3_setNumber_13 : decode cX3_setNumber 13 = .ok (.invokestatic 25, 3) := by decide +kernel
theorem dX3_setNumber_16 : decode cX3_setNumber 16 = .ok (.ifCond .eq 14, 3) := by decide +kernel
theorem dX3_setNumber_19 : decode cX3_setNumber 19 = .ok (.aload_n 0, 1) := by decide +kernel
theorem dX3_setNumber_20 : decode cX3_setNumber 20 = .ok (.getfield 18, 3) := by decide +kernel
theorem dX3_setNumber_23 : decode cX3_setNumber 23 = .ok (.iload_n 1, 1) := by decide +kernel
theorem dX3_setNumber_24 : decode cX3_setNumber 24 = .ok (.iconst 4, 1) := by decide +kernel
theorem dX3_setNumber_25 : decode cX3_setNumber 25 = .ok (.imul, 1) := by decide +kernel
theorem dX3_setNumber_26 : decode cX3_setNumber 26 = .ok (.iload_n 2, 1) := by decide +kernel
theorem dX3_setNumber_27 : decode cX3_setNumber 27 = .ok (.iadd, 1) := by decide +kernel
theorem dX3_setNumber_28 : decode cX3_setNumber 28 = .ok (.iload_n 3, 1) := by decide +kernel
theorem dX3_setNumber_29 : decode cX3_setNumber 29 = .ok (.iastore, 1) := by decide +kernel
theorem dX3_setNumber_30 : decode cX3_setNumber 30 = .ok (.return_, 1) := by decide +kernel
theorem dX4_init_0 : decode cX4_init 0 = .ok (.aload_n 0, 1) := by decide +kernel
theorem dX4_init_1 : decode cX4_init 1 = .ok (.invokespecial 3, 3) := by decide +kernel
theorem dX4_init_4 : decode cX4_init 4 = .ok (.aload_n 0, 1) := by decide +kernel
theorem dX4_init_5 : decode cX4_init 5 = .ok (.sipush 128, 3) := by decide +kernel
theorem dX4_init_8 : decode cX4_init 8 = .ok (.newarray .int, 2) := by decide +kernel
theorem dX4_init_10 : decode cX4_init 10 = .ok (.putfield 9, 3) := by decide +kernel
theorem dX4_init_13 : decode cX4_init 13 = .ok (.return_, 1) := by decide +kernel
theorem dX4_byteAt_0 : decode cX4_byteAt 0 = .ok (.iload_n 1, 1) := by decide +kernel
theorem dX4_byteAt_1 : decode cX4_byteAt 1 = .ok (.iconst 0, 1) := by decide +kernel
theorem dX4_byteAt_2 : decode cX4_byteAt 2 = .ok (.aload_n 0, 1) := by decide +kernel
theorem dX4_byteAt_3 : decode cX4_byteAt 3 = .ok (.getfield 15, 3) := by decide +kernel
theorem dX4_byteAt_6 : decode cX4_byteAt 6 = .ok (.iconst 1, 1) := by decide +kernel
theorem dX4_byteAt_7 : decode cX4_byteAt 7 = .ok (.isub, 1) := by decide +kernel
theorem dX4_byteAt_8 : decode cX4_byteAt 8 = .ok (.invokestatic 19, 3) := by decide +kernel
theorem dX4_byteAt_11 : decode cX4_byteAt 11 = .ok (.ifCond .eq 14, 3) := by decide +kernel
theorem dX4_byteAt_14 : decode cX4_byteAt 14 = .ok (.iload_n 1, 1) := by decide +kernel
theorem dX4_byteAt_15 : decode cX4_byteAt 15 = .ok (.sipush 128, 3) := by decide +kernel
theorem dX4_byteAt_18 : decode cX4_byteAt 18 = .ok (.if_icmp .ge 7, 3) := by decide +kernel
theorem dX4_byteAt_21 : decode cX4_byteAt 21 = .ok (.iconst 1, 1) := by decide +kernel
theorem dX4_byteAt_22 : decode cX4_byteAt 22 = .ok (.goto 4, 3) := by decide +kernel
theorem dX4_byteAt_25 : decode cX4_byteAt 25 = .ok (.iconst 0, 1) := by decide +kernel
theorem dX4_byteAt_26 : decode cX4_byteAt 26 = .ok (.istore_n 2, 1) := by decide +kernel
theorem dX4_byteAt_27 : decode cX4_byteAt 27 = .ok (.iload_n 2, 1) := by decide +kernel
theorem dX4_byteAt_28 : decode cX4_byteAt 28 = .ok (.ifCond .eq 12, 3) := by decide +kernel
theorem dX4_byteAt_31 : decode cX4_byteAt 31 = .ok (.aload_n 0, 1) := by decide +kernel
theorem dX4_byteAt_32 : decode cX4_byteAt 32 = .ok (.getfield 9, 3) := by decide +kernel
theorem dX4_byteAt_35 : decode cX4_byteAt 35 = .ok (.iload_n 1, 1) := by decide +kernel
theorem dX4_byteAt_36 : decode cX4_byteAt 36 = .ok (.iaload, 1) := by decide +kernel
theorem dX4_byteAt_37 : decode cX4_byteAt 37 = .ok (.goto 4, 3) := by decide +kernel
theorem dX4_byteAt_40 : decode cX4_byteAt 40 = .ok (.iconst (-1), 1) := by decide +kernel
theorem dX4_byteAt_41 : decode cX4_byteAt 41 = .ok (.ireturn, 1) := by decide +kernel
theorem dX4_put_0 : decode cX4_put 0 = .ok (.aload_n 0, 1) := by decide +kernel
theorem dX4_put_1 : decode cX4_put 1 = .ok (.getfield 15, 3) := by decide +kernel
theorem dX4_put_4 : decode cX4_put 4 = .ok (.iconst 0, 1) := by decide +kernel
theorem dX4_put_5 : decode cX4_put 5 = .ok (.bipush 127, 2) := by decide +kernel
theorem dX4_put_7 : decode cX4_put 7 = .ok (.invokestatic 19, 3) := by decide +kernel
theorem dX4_put_10 : decode cX4_put 10 = .ok (.ifCond .eq 23, 3) := by decide +kernel
theorem dX4_put_13 : decode cX4_put 13 = .ok (.aload_n 0, 1) := by decide +kernel
theorem dX4_put_14 : decode cX4_put 14 = .ok (.getfield 9, 3) := by decide +kernel
theorem dX4_put_17 : decode cX4_put 17 = .ok (.aload_n 0, 1) := by decide +kernel
theorem dX4_put_18 : decode cX4_put 18 = .ok (.getfield 15, 3) := by decide +kernel
theorem dX4_put_21 : decode cX4_put 21 = .ok (.iload_n 1, 1) := by decide +kernel
theorem dX4_put_22 : decode cX4_put 22 = .ok (.iastore, 1) := by decide +kernel
theorem dX4_put_23 : decode cX4_put 23 = .ok (.aload_n 0, 1) := by decide +kernel
theorem dX4_put_24 : decode cX4_put 24 = .ok (.dup, 1) := by decide +kernel
theorem dX4_put_25 : decode cX4_put 25 = .ok (.getfield 15, 3) := by decide +kernel
theorem dX4_put_28 : decode cX4_put 28 = .ok (.iconst 1, 1) := by decide +kernel
theorem dX4_put_29 : decode cX4_put 29 = .ok (.iadd, 1) := by decide +kernel
theorem dX4_put_30 : decode cX4_put 30 = .ok (.putfield 15, 3) := by decide +kernel
theorem dX4_put_33 : decode cX4_put 33 = .ok (.return_, 1) := by decide +kernel
theorem dX4_putNumber_0 : decode cX4_putNumber 0 = .ok (.iload_n 1, 1) := by decide +kernel
theorem dX4_putNumber_1 : decode cX4_putNumber 1 = .ok (.bipush 10, 2) := by decide +kernel
theorem dX4_putNumber_3 : decode cX4_putNumber 3 = .ok (.if_icmp .lt 14, 3) := by decide +kernel
theorem dX4_putNumber_6 : decode cX4_putNumber 6 = .ok (.aload_n 0, 1) := by decide +kernel
theorem dX4_putNumber_7 : decode cX4_putNumber 7 = .ok (.bipush 48, 2) := by decide +kernel
theorem dX4_putNumber_9 : decode cX4_putNumber 9 = .ok (.iload_n 1, 1) := by decide +kernel
theorem dX4_putNumber_10 : decode cX4_putNumber 10 = .ok (.bipush 10, 2) := by decide +kernel
theorem dX4_putNumber_12 : decode cX4_putNumber 12 = .ok (.idiv, 1) := by decide +kernel
theorem dX4_putNumber_13 : decode cX4_putNumber 13 = .ok (.iadd, 1) := by decide +kernel
theorem dX4_putNumber_14 : decode cX4_putNumber 14 = .ok (.invokevirtual 23, 3) := by decide +kernel
theorem dX4_putNumber_17 : decode cX4_putNumber 17 = .ok (.aload_n 0, 1) := by decide +kernel
theorem dX4_putNumber_18 : decode cX4_putNumber 18 = .ok (.bipush 48, 2) := by decide +kernel
theorem dX4_putNumber_20 : decode cX4_putNumber 20 = .ok (.iload_n 1, 1) := by decide +kernel
theorem dX4_putNumber_21 : decode cX4_putNumber 21 = .ok (.bipush 10, 2) := by decide +kernel
theorem dX4_putNumber_23 : decode cX4_putNumber 23 = .ok (.irem, 1) := by decide +kernel
theorem dX4_putNumber_24 : decode cX4_putNumber 24 = .ok (.iadd, 1) := by decide +kernel
theorem dX4_putNumber_25 : decode cX4_putNumber 25 = .ok (.invokevirtual 23, 3) := by decide +kernel
theorem dX4_putNumber_28 : decode cX4_putNumber 28 = .ok (.return_, 1) := by decide +kernel
theorem dX4_putSection_0 : decode cX4_putSection 0 = .ok (.aload_n 0, 1) := by decide +kernel
theorem dX4_putSection_1 : decode cX4_putSection 1 = .ok (.iload_n 2, 1) := by decide +kernel
theorem dX4_putSection_2 : decode cX4_putSection 2 = .ok (.invokevirtual 27, 3) := by decide +kernel
theorem dX4_putSection_5 : decode cX4_putSection 5 = .ok (.aload_n 1, 1) := by decide +kernel
theorem dX4_putSection_6 : decode cX4_putSection 6 = .ok (.iload_n 2, 1) := by decide +kernel
theorem dX4_putSection_7 : decode cX4_putSection 7 = .ok (.invokevirtual 30, 3) := by decide +kernel
theorem dX4_putSection_10 : decode cX4_putSection 10 = .ok (.istore 4, 2) := by decide +kernel
theorem dX4_putSection_12 : decode cX4_putSection 12 = .ok (.iload 4, 2) := by decide +kernel
theorem dX4_putSection_14 : decode cX4_putSection 14 = .ok (.ifCond .eq 9, 3) := by decide +kernel
theorem dX4_putSection_17 : decode cX4_putSection 17 = .ok (.iload_n 3, 1) := by decide +kernel
theorem dX4_putSection_18 : decode cX4_putSection 18 = .ok (.bipush 20, 2) := by decide +kernel
theorem dX4_putSection_20 : decode cX4_putSection 20 = .ok (.if_icmp .lt 4, 3) := by decide +kernel
theorem dX4_putSection_23 : decode cX4_putSection 23 = .ok (.return_, 1) := by decide +kernel
theorem dX4_putSection_24 : decode cX4_putSection 24 = .ok (.aload_n 0, 1) := by decide +kernel
theorem dX4_putSection_25 : decode cX4_putSection 25 = .ok (.bipush 40, 2) := by decide +kernel
theorem dX4_putSection_27 : decode cX4_putSection 27 = .ok (.invokevirtual 23, 3) := by decide +kernel
theorem dX4_putSection_30 : decode cX4_putSection 30 = .ok (.iconst 0, 1) := by decide +kernel
theorem dX4_putSection_31 : decode cX4_putSection 31 = .ok (.istore 5, 2) := by decide +kernel
theorem dX4_putSection_33 : decode cX4_putSection 33 = .ok (.iload 5, 2) := by decide +kernel
theorem dX4_putSection_35 : decode cX4_putSection 35 = .ok (.iload 4, 2) := by decide +kernel
theorem dX4_putSection_37 : decode cX4_putSection 37 = .ok (.if_icmp .ge 35, 3) := by decide +kernel
theorem dX4_putSection_40 : decode cX4_putSection 40 = .ok (.iload 5, 2) := by decide +kernel
theorem dX4_putSection_42 : decode cX4_putSection 42 = .ok (.ifCond .le 9, 3) := by decide +kernel
theorem dX4_putSection_45 : decode cX4_putSection 45 = .ok (.aload_n 0, 1) := by decide +kernel
theorem dX4_putSection_46 : decode cX4_putSection 46 = .ok (.bipush 44, 2) := by decide +kernel
theorem dX4_putSection_48 : decode cX4_putSection 48 = .ok (.invokevirtual 23, 3) := by decide +kernel
theorem dX4_putSection_51 : decode cX4_putSection 51 = .ok (.aload_n 0, 1) := by decide +kernel
theorem dX4_putSection_52 : decode cX4_putSection 52 = .ok (.aload_n 1, 1) := by decide +kernel
theorem dX4_putSection_53 : decode cX4_putSection 53 = .ok (.aload_n 1, 1) := by decide +kernel
theorem dX4_putSection_54 : decode cX4_putSection 54 = .ok (.iload_n 2, 1) := by decide +kernel
theorem dX4_putSection_55 : decode cX4_putSection 55 = .ok (.iload 5, 2) := by decide +kernel
theorem dX4_putSection_57 : decode cX4_putSection 57 = .ok (.invokevirtual 36, 3) := by decide +kernel
theorem dX4_putSection_60 : decode cX4_putSection 60 = .ok (.iload_n 3, 1) := by decide +kernel
theorem dX4_putSection_61 : decode cX4_putSection 61 = .ok (.iconst 1, 1) := by decide +kernel
theorem dX4_putSection_62 : decode cX4_putSection 62 = .ok (.iadd, 1) := by decide +kernel
theorem dX4_putSection_63 : decode cX4_putSection 63 = .ok (.invokestatic 40, 3) := by decide +kernel
theorem dX4_putSection_66 : decode cX4_putSection 66 = .ok (.iinc 5 1, 3) := by decide +kernel
theorem dX4_putSection_69 : decode cX4_putSection 69 = .ok (.goto (-36), 3) := by decide +kernel
theorem dX4_putSection_72 : decode cX4_putSection 72 = .ok (.aload_n 0, 1) := by decide +kernel
theorem dX4_putSection_73 : decode cX4_putSection 73 = .ok (.bipush 41, 2) := by decide +kernel
theorem dX4_putSection_75 : decode cX4_putSection 75 = .ok (.invokevirtual 23, 3) := by decide +kernel
theorem dX4_putSection_78 : decode cX4_putSection 78 = .ok (.return_, 1) := by decide +kernel
theorem dX5_init_0 : decode cX5_init 0 = .ok (.aload_n 0, 1) := by decide +kernel
theorem dX5_init_1 : decode cX5_init 1 = .ok (.invokespecial 3, 3) := by decide +kernel
theorem dX5_init_4 : decode cX5_init 4 = .ok (.aload_n 0, 1) := by decide +kernel
theorem dX5_init_5 : decode cX5_init 5 = .ok (.bipush 32, 2) := by decide +kernel
theorem dX5_init_7 : decode cX5_init 7 = .ok (.newarray .int, 2) := by decide +kernel
theorem dX5_init_9 : decode cX5_init 9 = .ok (.putfield 11, 3) := by decide +kernel
theorem dX5_init_12 : decode cX5_init 12 = .ok (.return_, 1) := by decide +kernel
theorem dX5_copyFrom_0 : decode cX5_copyFrom 0 = .ok (.aload_n 1, 1) := by decide +kernel
theorem dX5_copyFrom_1 : decode cX5_copyFrom 1 = .ok (.getfield 11, 3) := by decide +kernel
theorem dX5_copyFrom_4 : decode cX5_copyFrom 4 = .ok (.aload_n 0, 1) := by decide +kernel
theorem dX5_copyFrom_5 : decode cX5_copyFrom 5 = .ok (.getfield 11, 3) := by decide +kernel
theorem dX5_copyFrom_8 : decode cX5_copyFrom 8 = .ok (.invokestatic 15, 3) := by decide +kernel
theorem dX5_copyFrom_11 : decode cX5_copyFrom 11 = .ok (.aload_n 0, 1) := by decide +kernel
theorem dX5_copyFrom_12 : decode cX5_copyFrom 12 = .ok (.aload_n 1, 1) := by decide +kernel
theorem dX5_copyFrom_13 : decode cX5_copyFrom 13 = .ok (.getfield 19, 3) := by decide +kernel
theorem dX5_copyFrom_16 : decode cX5_copyFrom 16 = .ok (.putfield 19, 3) := by decide +kernel
theorem dX5_copyFrom_19 : decode cX5_copyFrom 19 = .ok (.return_, 1) := by decide +kernel
theorem dX5_fact_0 : decode cX5_fact 0 = .ok (.iload_n 1, 1) := by decide +kernel
theorem dX5_fact_1 : decode cX5_fact 1 = .ok (.ifCond .lt 22, 3) := by decide +kernel
theorem dX5_fact_4 : decode cX5_fact 4 = .ok (.iload_n 1, 1) := by decide +kernel
theorem dX5_fact_5 : decode cX5_fact 5 = .ok (.bipush 8, 2) := by decide +kernel
theorem dX5_fact_7 : decode cX5_fact 7 = .ok (.if_icmp .ge 16, 3) := by decide +kernel
theorem dX5_fact_10 : decode cX5_fact 10 = .ok (.iload_n 2, 1) := by decide +kernel
theorem dX5_fact_11 : decode cX5_fact 11 = .ok (.ifCond .lt 12, 3) := by decide +kernel
theorem dX5_fact_14 : decode cX5_fact 14 = .ok (.iload_n 2, 1) := by decide +kernel
theorem dX5_fact_15 : decode cX5_fact 15 = .ok (.iconst 4, 1) := by decide +kernel
theorem dX5_fact_16 : decode cX5_fact 16 = .ok (.if_icmp .ge 7, 3) := by decide +kernel
theorem dX5_fact_19 : decode cX5_fact 19 = .ok (.iconst 1, 1) := by decide +kernel
theorem dX5_fact_20 : decode cX5_fact 20 = .ok (.goto 4, 3) := by decide +kernel
theorem dX5_fact_23 : decode cX5_fact 23 = .ok (.iconst 0, 1) := by decide +kernel
theorem dX5_fact_24 : decode cX5_fact 24 = .ok (.istore_n 3, 1) := by decide +kernel
theorem dX5_fact_25 : decode cX5_fact 25 = .ok (.iload_n 3, 1) := by decide +kernel
theorem dX5_fact_26 : decode cX5_fact 26 = .ok (.ifCond .eq 16, 3) := by decide +kernel
theorem dX5_fact_29 : decode cX5_fact 29 = .ok (.aload_n 0, 1) := by decide +kernel
theorem dX5_fact_30 : decode cX5_fact 30 = .ok (.getfield 11, 3) := by decide +kernel
theorem dX5_fact_33 : decode cX5_fact 33 = .ok (.iload_n 1, 1) := by decide +kernel
theorem dX5_fact_34 : decode cX5_fact 34 = .ok (.iconst 4, 1) := by decide +kernel
theorem dX5_fact_35 : decode cX5_fact 35 = .ok (.imul, 1) := by decide +kernel
theorem dX5_fact_36 : decode cX5_fact 36 = .ok (.iload_n 2, 1) := by decide +kernel
theorem dX5_fact_37 : decode cX5_fact 37 = .ok (.iadd, 1) := by decide +kernel
theorem dX5_fact_38 : decode cX5_fact 38 = .ok (.iaload, 1) := by decide +kernel
theorem dX5_fact_39 : decode cX5_fact 39 = .ok (.goto 4, 3) := by decide +kernel
theorem dX5_fact_42 : decode cX5_fact 42 = .ok (.iconst 0, 1) := by decide +kernel
theorem dX5_fact_43 : decode cX5_fact 43 = .ok (.ireturn, 1) := by decide +kernel
theorem dX5_setFact_0 : decode cX5_setFact 0 = .ok (.iload_n 1, 1) := by decide +kernel
theorem dX5_setFact_1 : decode cX5_setFact 1 = .ok (.ifCond .lt 29, 3) := by decide +kernel
theorem dX5_setFact_4 : decode cX5_setFact 4 = .ok (.iload_n 1, 1) := by decide +kernel
theorem dX5_setFact_5 : decode cX5_setFact 5 = .ok (.bipush 8, 2) := by decide +kernel
theorem dX5_setFact_7 : decode cX5_setFact 7 = .ok (.if_icmp .ge 23, 3) := by decide +kernel
theorem dX5_setFact_10 : decode cX5_setFact 10 = .ok (.iload_n 2, 1) := by decide +kernel
theorem dX5_setFact_11 : decode cX5_setFact 11 = .ok (.ifCond .lt 19, 3) := by decide +kernel
theorem dX5_setFact_14 : decode cX5_setFact 14 = .ok (.iload_n 2, 1) := by decide +kernel
theorem dX5_setFact_15 : decode cX5_setFact 15 = .ok (.iconst 4, 1) := by decide +kernel
theorem dX5_setFact_16 : decode cX5_setFact 16 = .ok (.if_icmp .ge 14, 3) := by decide +kernel
theorem dX5_setFact_19 : decode cX5_setFact 19 = .ok (.aload_n 0, 1) := by decide +kernel
theorem dX5_setFact_20 : decode cX5_setFact 20 = .ok (.getfield 11, 3) := by decide +kernel
theorem dX5_setFact_23 : decode cX5_setFact 23 = .ok (.iload_n 1, 1) := by decide +kernel
theorem dX5_setFact_24 : decode cX5_setFact 24 = .ok (.iconst 4, 1) := by decide +kernel
theorem dX5_setFact_25 : decode cX5_setFact 25 = .ok (.imul, 1) := by decide +kernel
theorem dX5_setFact_26 : decode cX5_setFact 26 = .ok (.iload_n 2, 1) := by decide +kernel
theorem dX5_setFact_27 : decode cX5_setFact 27 = .ok (.iadd, 1) := by decide +kernel
theorem dX5_setFact_28 : decode cX5_setFact 28 = .ok (.iload_n 3, 1) := by decide +kernel
theorem dX5_setFact_29 : decode cX5_setFact 29 = .ok (.iastore, 1) := by decide +kernel
theorem dX5_setFact_30 : decode cX5_setFact 30 = .ok (.return_, 1) := by decide +kernel
theorem dX5_isFull_0 : decode cX5_isFull 0 = .ok (.aload_n 0, 1) := by decide +kernel
theorem dX5_isFull_1 : decode cX5_isFull 1 = .ok (.getfield 19, 3) := by decide +kernel
theorem dX5_isFull_4 : decode cX5_isFull 4 = .ok (.bipush 8, 2) := by decide +kernel
theorem dX5_isFull_6 : decode cX5_isFull 6 = .ok (.if_icmp .lt 7, 3) := by decide +kernel
theorem dX5_isFull_9 : decode cX5_isFull 9 = .ok (.iconst 1, 1) := by decide +kernel
theorem dX5_isFull_10 : decode cX5_isFull 10 = .ok (.goto 4, 3) := by decide +kernel
theorem dX5_isFull_13 : decode cX5_isFull 13 = .ok (.iconst 0, 1) := by decide +kernel
theorem dX5_isFull_14 : decode cX5_isFull 14 = .ok (.ireturn, 1) := by decide +kernel
theorem dX5_placeOf_0 : decode cX5_placeOf 0 = .ok (.iconst 0, 1) := by decide +kernel
theorem dX5_placeOf_1 : decode cX5_placeOf 1 = .ok (.istore_n 2, 1) := by decide +kernel
theorem dX5_placeOf_2 : decode cX5_placeOf 2 = .ok (.iload_n 2, 1) := by decide +kernel
theorem dX5_placeOf_3 : decode cX5_placeOf 3 = .ok (.aload_n 0, 1) := by decide +kernel
theorem dX5_placeOf_4 : decode cX5_placeOf 4 = .ok (.getfield 19, 3) := by decide +kernel
theorem dX5_placeOf_7 : decode cX5_placeOf 7 = .ok (.if_icmp .ge 21, 3) := by decide +kernel
theorem dX5_placeOf_10 : decode cX5_placeOf 10 = .ok (.aload_n 0, 1) := by decide +kernel
theorem dX5_placeOf_11 : decode cX5_placeOf 11 = .ok (.iload_n 2, 1) := by decide +kernel
theorem dX5_placeOf_12 : decode cX5_placeOf 12 = .ok (.iconst 0, 1) := by decide +kernel
theorem dX5_placeOf_13 : decode cX5_placeOf 13 = .ok (.invokevirtual 23, 3) := by decide +kernel
theorem dX5_placeOf_16 : decode cX5_placeOf 16 = .ok (.iload_n 1, 1) := by decide +kernel
theorem dX5_placeOf_17 : decode cX5_placeOf 17 = .ok (.if_icmp .ne 5, 3) := by decide +kernel
theorem dX5_placeOf_20 : decode cX5_placeOf 20 = .ok (.iload_n 2, 1) := by decide +kernel
theorem dX5_placeOf_21 : decode cX5_placeOf 21 = .ok (.ireturn, 1) := by decide +kernel
theorem dX5_placeOf_22 : decode cX5_placeOf 22 = .ok (.iinc 2 1, 3) := by decide +kernel
theorem dX5_placeOf_25 : decode cX5_placeOf 25 = .ok (.goto (-23), 3) := by decide +kernel
theorem dX5_placeOf_28 : decode cX5_placeOf 28 = .ok (.iconst (-1), 1) := by decide +kernel
theorem dX5_placeOf_29 : decode cX5_placeOf 29 = .ok (.ireturn, 1) := by decide +kernel
theorem dX5_tops_0 : decode cX5_tops 0 = .ok (.iconst 0, 1) := by decide +kernel
theorem dX5_tops_1 : decode cX5_tops 1 = .ok (.istore_n 1, 1) := by decide +kernel
theorem dX5_tops_2 : decode cX5_tops 2 = .ok (.iconst 0, 1) := by decide +kernel
theorem dX5_tops_3 : decode cX5_tops 3 = .ok (.istore_n 2, 1) := by decide +kernel
theorem dX5_tops_4 : decode cX5_tops 4 = .ok (.iload_n 2, 1) := by decide +kernel
theorem dX5_tops_5 : decode cX5_tops 5 = .ok (.aload_n 0, 1) := by decide +kernel
theorem dX5_tops_6 : decode cX5_tops 6 = .ok (.getfield 19, 3) := by decide +kernel
theorem dX5_tops_9 : decode cX5_tops 9 = .ok (.if_icmp .ge 20, 3) := by decide +kernel
theorem dX5_tops_12 : decode cX5_tops 12 = .ok (.iload_n 1, 1) := by decide +kernel
theorem dX5_tops_13 : decode cX5_tops 13 = .ok (.iconst 1, 1) := by decide +kernel
theorem dX5_tops_14 : decode cX5_tops 14 = .ok (.aload_n 0, 1) := by decide +kernel
theorem dX5_tops_15 : decode cX5_tops 15 = .ok (.iload_n 2, 1) := by decide +kernel
theorem dX5_tops_16 : decode cX5_tops 16 = .ok (.iconst 1, 1) := by decide +kernel
theorem dX5_tops_17 : decode cX5_tops 17 = .ok (.invokevirtual 23, 3) := by decide +kernel
theorem dX5_tops_20 : decode cX5_tops 20 = .ok (.ishl, 1) := by decide +kernel
theorem dX5_tops_21 : decode cX5_tops 21 = .ok (.ior, 1) := by decide +kernel
theorem dX5_tops_22 : decode cX5_tops 22 = .ok (.istore_n 1, 1) := by decide +kernel
theorem dX5_tops_23 : decode cX5_tops 23 = .ok (.iinc 2 1, 3) := by decide +kernel
theorem dX5_tops_26 : decode cX5_tops 26 = .ok (.goto (-22), 3) := by decide +kernel
theorem dX5_tops_29 : decode cX5_tops 29 = .ok (.iload_n 1, 1) := by decide +kernel
theorem dX5_tops_30 : decode cX5_tops 30 = .ok (.ireturn, 1) := by decide +kernel
theorem dX5_join_0 : decode cX5_join 0 = .ok (.aload_n 0, 1) := by decide +kernel
theorem dX5_join_1 : decode cX5_join 1 = .ok (.invokevirtual 27, 3) := by decide +kernel
theorem dX5_join_4 : decode cX5_join 4 = .ok (.ifCond .eq 5, 3) := by decide +kernel
theorem dX5_join_7 : decode cX5_join 7 = .ok (.iconst (-1), 1) := by decide +kernel
theorem dX5_join_8 : decode cX5_join 8 = .ok (.ireturn, 1) := by decide +kernel
theorem dX5_join_9 : decode cX5_join 9 = .ok (.aload_n 0, 1) := by decide +kernel
theorem dX5_join_10 : decode cX5_join 10 = .ok (.aload_n 0, 1) := by decide +kernel
theorem dX5_join_11 : decode cX5_join 11 = .ok (.getfield 19, 3) := by decide +kernel
theorem dX5_join_14 : decode cX5_join 14 = .ok (.iconst 0, 1) := by decide +kernel
theorem dX5_join_15 : decode cX5_join 15 = .ok (.iload_n 1, 1) := by decide +kernel
theorem dX5_join_16 : decode cX5_join 16 = .ok (.invokevirtual 31, 3) := by decide +kernel
theorem dX5_join_19 : decode cX5_join 19 = .ok (.aload_n 0, 1) := by decide +kernel
theorem dX5_join_20 : decode cX5_join 20 = .ok (.aload_n 0, 1) := by decide +kernel
theorem dX5_join_21 : decode cX5_join 21 = .ok (.getfield 19, 3) := by decide +kernel
theorem dX5_join_24 : decode cX5_join 24 = .ok (.iconst 1, 1) := by decide +kernel
theorem dX5_join_25 : decode cX5_join 25 = .ok (.iload_n 2, 1) := by decide +kernel
theorem dX5_join_26 : decode cX5_join 26 = .ok (.invokevirtual 31, 3) := by decide +kernel
theorem dX5_join_29 : decode cX5_join 29 = .ok (.aload_n 0, 1) := by decide +kernel
theorem dX5_join_30 : decode cX5_join 30 = .ok (.aload_n 0, 1) := by decide +kernel
theorem dX5_join_31 : decode cX5_join 31 = .ok (.getfield 19, 3) := by decide +kernel
theorem dX5_join_34 : decode cX5_join 34 = .ok (.iconst 2, 1) := by decide +kernel
