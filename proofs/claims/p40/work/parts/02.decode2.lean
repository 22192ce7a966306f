theorem dX5_join_35 : decode cX5_join 35 = .ok (.iload_n 3, 1) := by decide +kernel
theorem dX5_join_36 : decode cX5_join 36 = .ok (.invokevirtual 31, 3) := by decide +kernel
theorem dX5_join_39 : decode cX5_join 39 = .ok (.aload_n 0, 1) := by decide +kernel
theorem dX5_join_40 : decode cX5_join 40 = .ok (.aload_n 0, 1) := by decide +kernel
theorem dX5_join_41 : decode cX5_join 41 = .ok (.getfield 19, 3) := by decide +kernel
theorem dX5_join_44 : decode cX5_join 44 = .ok (.iconst 3, 1) := by decide +kernel
theorem dX5_join_45 : decode cX5_join 45 = .ok (.iload 4, 2) := by decide +kernel
theorem dX5_join_47 : decode cX5_join 47 = .ok (.ifCond .eq 7, 3) := by decide +kernel
theorem dX5_join_50 : decode cX5_join 50 = .ok (.iconst 1, 1) := by decide +kernel
theorem dX5_join_51 : decode cX5_join 51 = .ok (.goto 4, 3) := by decide +kernel
theorem dX5_join_54 : decode cX5_join 54 = .ok (.iconst 0, 1) := by decide +kernel
theorem dX5_join_55 : decode cX5_join 55 = .ok (.invokevirtual 31, 3) := by decide +kernel
theorem dX5_join_58 : decode cX5_join 58 = .ok (.aload_n 0, 1) := by decide +kernel
theorem dX5_join_59 : decode cX5_join 59 = .ok (.dup, 1) := by decide +kernel
theorem dX5_join_60 : decode cX5_join 60 = .ok (.getfield 19, 3) := by decide +kernel
theorem dX5_join_63 : decode cX5_join 63 = .ok (.iconst 1, 1) := by decide +kernel
theorem dX5_join_64 : decode cX5_join 64 = .ok (.iadd, 1) := by decide +kernel
theorem dX5_join_65 : decode cX5_join 65 = .ok (.putfield 19, 3) := by decide +kernel
theorem dX5_join_68 : decode cX5_join 68 = .ok (.aload_n 0, 1) := by decide +kernel
theorem dX5_join_69 : decode cX5_join 69 = .ok (.getfield 19, 3) := by decide +kernel
theorem dX5_join_72 : decode cX5_join 72 = .ok (.iconst 1, 1) := by decide +kernel
theorem dX5_join_73 : decode cX5_join 73 = .ok (.isub, 1) := by decide +kernel
theorem dX5_join_74 : decode cX5_join 74 = .ok (.ireturn, 1) := by decide +kernel
theorem dX5_leave_0 : decode cX5_leave 0 = .ok (.iload_n 1, 1) := by decide +kernel
theorem dX5_leave_1 : decode cX5_leave 1 = .ok (.iconst 0, 1) := by decide +kernel
theorem dX5_leave_2 : decode cX5_leave 2 = .ok (.aload_n 0, 1) := by decide +kernel
theorem dX5_leave_3 : decode cX5_leave 3 = .ok (.getfield 19, 3) := by decide +kernel
theorem dX5_leave_6 : decode cX5_leave 6 = .ok (.iconst 1, 1) := by decide +kernel
theorem dX5_leave_7 : decode cX5_leave 7 = .ok (.isub, 1) := by decide +kernel
theorem dX5_leave_8 : decode cX5_leave 8 = .ok (.invokestatic 35, 3) := by decide +kernel
theorem dX5_leave_11 : decode cX5_leave 11 = .ok (.ifCond .ne 4, 3) := by decide +kernel
theorem dX5_leave_14 : decode cX5_leave 14 = .ok (.return_, 1) := by decide +kernel
theorem dX5_leave_15 : decode cX5_leave 15 = .ok (.iload_n 1, 1) := by decide +kernel
theorem dX5_leave_16 : decode cX5_leave 16 = .ok (.iconst 1, 1) := by decide +kernel
theorem dX5_leave_17 : decode cX5_leave 17 = .ok (.iadd, 1) := by decide +kernel
theorem dX5_leave_18 : decode cX5_leave 18 = .ok (.istore_n 2, 1) := by decide +kernel
theorem dX5_leave_19 : decode cX5_leave 19 = .ok (.iload_n 2, 1) := by decide +kernel
theorem dX5_leave_20 : decode cX5_leave 20 = .ok (.aload_n 0, 1) := by decide +kernel
theorem dX5_leave_21 : decode cX5_leave 21 = .ok (.getfield 19, 3) := by decide +kernel
theorem dX5_leave_24 : decode cX5_leave 24 = .ok (.if_icmp .ge 36, 3) := by decide +kernel
theorem dX5_leave_27 : decode cX5_leave 27 = .ok (.iconst 0, 1) := by decide +kernel
theorem dX5_leave_28 : decode cX5_leave 28 = .ok (.istore_n 3, 1) := by decide +kernel
theorem dX5_leave_29 : decode cX5_leave 29 = .ok (.iload_n 3, 1) := by decide +kernel
theorem dX5_leave_30 : decode cX5_leave 30 = .ok (.iconst 4, 1) := by decide +kernel
theorem dX5_leave_31 : decode cX5_leave 31 = .ok (.if_icmp .ge 23, 3) := by decide +kernel
theorem dX5_leave_34 : decode cX5_leave 34 = .ok (.aload_n 0, 1) := by decide +kernel
theorem dX5_leave_35 : decode cX5_leave 35 = .ok (.iload_n 2, 1) := by decide +kernel
theorem dX5_leave_36 : decode cX5_leave 36 = .ok (.iconst 1, 1) := by decide +kernel
theorem dX5_leave_37 : decode cX5_leave 37 = .ok (.isub, 1) := by decide +kernel
theorem dX5_leave_38 : decode cX5_leave 38 = .ok (.iload_n 3, 1) := by decide +kernel
theorem dX5_leave_39 : decode cX5_leave 39 = .ok (.aload_n 0, 1) := by decide +kernel
theorem dX5_leave_40 : decode cX5_leave 40 = .ok (.iload_n 2, 1) := by decide +kernel
theorem dX5_leave_41 : decode cX5_leave 41 = .ok (.iload_n 3, 1) := by decide +kernel
theorem dX5_leave_42 : decode cX5_leave 42 = .ok (.invokevirtual 23, 3) := by decide +kernel
theorem dX5_leave_45 : decode cX5_leave 45 = .ok (.invokevirtual 31, 3) := by decide +kernel
theorem dX5_leave_48 : decode cX5_leave 48 = .ok (.iinc 3 1, 3) := by decide +kernel
theorem dX5_leave_51 : decode cX5_leave 51 = .ok (.goto (-22), 3) := by decide +kernel
theorem dX5_leave_54 : decode cX5_leave 54 = .ok (.iinc 2 1, 3) := by decide +kernel
theorem dX5_leave_57 : decode cX5_leave 57 = .ok (.goto (-38), 3) := by decide +kernel
theorem dX5_leave_60 : decode cX5_leave 60 = .ok (.aload_n 0, 1) := by decide +kernel
theorem dX5_leave_61 : decode cX5_leave 61 = .ok (.dup, 1) := by decide +kernel
theorem dX5_leave_62 : decode cX5_leave 62 = .ok (.getfield 19, 3) := by decide +kernel
theorem dX5_leave_65 : decode cX5_leave 65 = .ok (.iconst 1, 1) := by decide +kernel
theorem dX5_leave_66 : decode cX5_leave 66 = .ok (.isub, 1) := by decide +kernel
theorem dX5_leave_67 : decode cX5_leave 67 = .ok (.putfield 19, 3) := by decide +kernel
theorem dX5_leave_70 : decode cX5_leave 70 = .ok (.return_, 1) := by decide +kernel
theorem dX6_init_0 : decode cX6_init 0 = .ok (.aload_n 0, 1) := by decide +kernel
theorem dX6_init_1 : decode cX6_init 1 = .ok (.invokespecial 3, 3) := by decide +kernel
theorem dX6_init_4 : decode cX6_init 4 = .ok (.aload_n 0, 1) := by decide +kernel
theorem dX6_init_5 : decode cX6_init 5 = .ok (.iconst 4, 1) := by decide +kernel
theorem dX6_init_6 : decode cX6_init 6 = .ok (.anewarray 9, 3) := by decide +kernel
theorem dX6_init_9 : decode cX6_init 9 = .ok (.putfield 11, 3) := by decide +kernel
theorem dX6_init_12 : decode cX6_init 12 = .ok (.iconst 0, 1) := by decide +kernel
theorem dX6_init_13 : decode cX6_init 13 = .ok (.istore_n 1, 1) := by decide +kernel
theorem dX6_init_14 : decode cX6_init 14 = .ok (.iload_n 1, 1) := by decide +kernel
theorem dX6_init_15 : decode cX6_init 15 = .ok (.iconst 4, 1) := by decide +kernel
theorem dX6_init_16 : decode cX6_init 16 = .ok (.if_icmp .ge 22, 3) := by decide +kernel
theorem dX6_init_19 : decode cX6_init 19 = .ok (.aload_n 0, 1) := by decide +kernel
theorem dX6_init_20 : decode cX6_init 20 = .ok (.getfield 11, 3) := by decide +kernel
theorem dX6_init_23 : decode cX6_init 23 = .ok (.iload_n 1, 1) := by decide +kernel
theorem dX6_init_24 : decode cX6_init 24 = .ok (.new 9, 3) := by decide +kernel
theorem dX6_init_27 : decode cX6_init 27 = .ok (.dup, 1) := by decide +kernel
theorem dX6_init_28 : decode cX6_init 28 = .ok (.invokespecial 17, 3) := by decide +kernel
theorem dX6_init_31 : decode cX6_init 31 = .ok (.aastore, 1) := by decide +kernel
theorem dX6_init_32 : decode cX6_init 32 = .ok (.iinc 1 1, 3) := by decide +kernel
theorem dX6_init_35 : decode cX6_init 35 = .ok (.goto (-21), 3) := by decide +kernel
theorem dX6_init_38 : decode cX6_init 38 = .ok (.return_, 1) := by decide +kernel
theorem dX6_push_0 : decode cX6_push 0 = .ok (.aload_n 0, 1) := by decide +kernel
theorem dX6_push_1 : decode cX6_push 1 = .ok (.getfield 18, 3) := by decide +kernel
theorem dX6_push_4 : decode cX6_push 4 = .ok (.iconst 4, 1) := by decide +kernel
theorem dX6_push_5 : decode cX6_push 5 = .ok (.if_icmp .lt 7, 3) := by decide +kernel
theorem dX6_push_8 : decode cX6_push 8 = .ok (.aload_n 0, 1) := by decide +kernel
theorem dX6_push_9 : decode cX6_push 9 = .ok (.invokevirtual 22, 3) := by decide +kernel
theorem dX6_push_12 : decode cX6_push 12 = .ok (.aload_n 0, 1) := by decide +kernel
theorem dX6_push_13 : decode cX6_push 13 = .ok (.getfield 18, 3) := by decide +kernel
theorem dX6_push_16 : decode cX6_push 16 = .ok (.ifCond .lt 23, 3) := by decide +kernel
theorem dX6_push_19 : decode cX6_push 19 = .ok (.aload_n 0, 1) := by decide +kernel
theorem dX6_push_20 : decode cX6_push 20 = .ok (.getfield 18, 3) := by decide +kernel
theorem dX6_push_23 : decode cX6_push 23 = .ok (.iconst 4, 1) := by decide +kernel
theorem dX6_push_24 : decode cX6_push 24 = .ok (.if_icmp .ge 15, 3) := by decide +kernel
theorem dX6_push_27 : decode cX6_push 27 = .ok (.aload_n 0, 1) := by decide +kernel
theorem dX6_push_28 : decode cX6_push 28 = .ok (.getfield 11, 3) := by decide +kernel
theorem dX6_push_31 : decode cX6_push 31 = .ok (.aload_n 0, 1) := by decide +kernel
theorem dX6_push_32 : decode cX6_push 32 = .ok (.getfield 18, 3) := by decide +kernel
theorem dX6_push_35 : decode cX6_push 35 = .ok (.aaload, 1) := by decide +kernel
theorem dX6_push_36 : decode cX6_push 36 = .ok (.ifnonnull 4, 3) := by decide +kernel
theorem dX6_push_39 : decode cX6_push 39 = .ok (.return_, 1) := by decide +kernel
theorem dX6_push_40 : decode cX6_push 40 = .ok (.aload_n 0, 1) := by decide +kernel
theorem dX6_push_41 : decode cX6_push 41 = .ok (.getfield 11, 3) := by decide +kernel
theorem dX6_push_44 : decode cX6_push 44 = .ok (.aload_n 0, 1) := by decide +kernel
theorem dX6_push_45 : decode cX6_push 45 = .ok (.getfield 18, 3) := by decide +kernel
theorem dX6_push_48 : decode cX6_push 48 = .ok (.aaload, 1) := by decide +kernel
theorem dX6_push_49 : decode cX6_push 49 = .ok (.aload_n 1, 1) := by decide +kernel
theorem dX6_push_50 : decode cX6_push 50 = .ok (.invokevirtual 25, 3) := by decide +kernel
theorem dX6_push_53 : decode cX6_push 53 = .ok (.aload_n 0, 1) := by decide +kernel
theorem dX6_push_54 : decode cX6_push 54 = .ok (.dup, 1) := by decide +kernel
theorem dX6_push_55 : decode cX6_push 55 = .ok (.getfield 18, 3) := by decide +kernel
theorem dX6_push_58 : decode cX6_push 58 = .ok (.iconst 1, 1) := by decide +kernel
theorem dX6_push_59 : decode cX6_push 59 = .ok (.iadd, 1) := by decide +kernel
theorem dX6_push_60 : decode cX6_push 60 = .ok (.putfield 18, 3) := by decide +kernel
theorem dX6_push_63 : decode cX6_push 63 = .ok (.return_, 1) := by decide +kernel
theorem dX6_dropOldest_0 : decode cX6_dropOldest 0 = .ok (.aload_n 0, 1) := by decide +kernel
theorem dX6_dropOldest_1 : decode cX6_dropOldest 1 = .ok (.getfield 11, 3) := by decide +kernel
theorem dX6_dropOldest_4 : decode cX6_dropOldest 4 = .ok (.iconst 0, 1) := by decide +kernel
theorem dX6_dropOldest_5 : decode cX6_dropOldest 5 = .ok (.aaload, 1) := by decide +kernel
theorem dX6_dropOldest_6 : decode cX6_dropOldest 6 = .ok (.astore_n 1, 1) := by decide +kernel
theorem dX6_dropOldest_7 : decode cX6_dropOldest 7 = .ok (.iconst 1, 1) := by decide +kernel
theorem dX6_dropOldest_8 : decode cX6_dropOldest 8 = .ok (.istore_n 2, 1) := by decide +kernel
theorem dX6_dropOldest_9 : decode cX6_dropOldest 9 = .ok (.iload_n 2, 1) := by decide +kernel
theorem dX6_dropOldest_10 : decode cX6_dropOldest 10 = .ok (.iconst 4, 1) := by decide +kernel
theorem dX6_dropOldest_11 : decode cX6_dropOldest 11 = .ok (.if_icmp .ge 23, 3) := by decide +kernel
theorem dX6_dropOldest_14 : decode cX6_dropOldest 14 = .ok (.aload_n 0, 1) := by decide +kernel
theorem dX6_dropOldest_15 : decode cX6_dropOldest 15 = .ok (.getfield 11, 3) := by decide +kernel
theorem dX6_dropOldest_18 : decode cX6_dropOldest 18 = .ok (.iload_n 2, 1) := by decide +kernel
theorem dX6_dropOldest_19 : decode cX6_dropOldest 19 = .ok (.iconst 1, 1) := by decide +kernel
theorem dX6_dropOldest_20 : decode cX6_dropOldest 20 = .ok (.isub, 1) := by decide +kernel
theorem dX6_dropOldest_21 : decode cX6_dropOldest 21 = .ok (.aload_n 0, 1) := by decide +kernel
theorem dX6_dropOldest_22 : decode cX6_dropOldest 22 = .ok (.getfield 11, 3) := by decide +kernel
theorem dX6_dropOldest_25 : decode cX6_dropOldest 25 = .ok (.iload_n 2, 1) := by decide +kernel
theorem dX6_dropOldest_26 : decode cX6_dropOldest 26 = .ok (.aaload, 1) := by decide +kernel
theorem dX6_dropOldest_27 : decode cX6_dropOldest 27 = .ok (.aastore, 1) := by decide +kernel
theorem dX6_dropOldest_28 : decode cX6_dropOldest 28 = .ok (.iinc 2 1, 3) := by decide +kernel
theorem dX6_dropOldest_31 : decode cX6_dropOldest 31 = .ok (.goto (-22), 3) := by decide +kernel
theorem dX6_dropOldest_34 : decode cX6_dropOldest 34 = .ok (.aload_n 0, 1) := by decide +kernel
theorem dX6_dropOldest_35 : decode cX6_dropOldest 35 = .ok (.getfield 11, 3) := by decide +kernel
theorem dX6_dropOldest_38 : decode cX6_dropOldest 38 = .ok (.iconst 3, 1) := by decide +kernel
theorem dX6_dropOldest_39 : decode cX6_dropOldest 39 = .ok (.aload_n 1, 1) := by decide +kernel
theorem dX6_dropOldest_40 : decode cX6_dropOldest 40 = .ok (.aastore, 1) := by decide +kernel
theorem dX6_dropOldest_41 : decode cX6_dropOldest 41 = .ok (.aload_n 0, 1) := by decide +kernel
theorem dX6_dropOldest_42 : decode cX6_dropOldest 42 = .ok (.iconst 3, 1) := by decide +kernel
theorem dX6_dropOldest_43 : decode cX6_dropOldest 43 = .ok (.putfield 18, 3) := by decide +kernel
theorem dX6_dropOldest_46 : decode cX6_dropOldest 46 = .ok (.return_, 1) := by decide +kernel
theorem dX6_pop_0 : decode cX6_pop 0 = .ok (.aload_n 0, 1) := by decide +kernel
theorem dX6_pop_1 : decode cX6_pop 1 = .ok (.getfield 18, 3) := by decide +kernel
theorem dX6_pop_4 : decode cX6_pop 4 = .ok (.ifCond .le 25, 3) := by decide +kernel
theorem dX6_pop_7 : decode cX6_pop 7 = .ok (.aload_n 0, 1) := by decide +kernel
theorem dX6_pop_8 : decode cX6_pop 8 = .ok (.getfield 18, 3) := by decide +kernel
theorem dX6_pop_11 : decode cX6_pop 11 = .ok (.iconst 4, 1) := by decide +kernel
theorem dX6_pop_12 : decode cX6_pop 12 = .ok (.if_icmp .gt 17, 3) := by decide +kernel
theorem dX6_pop_15 : decode cX6_pop 15 = .ok (.aload_n 0, 1) := by decide +kernel
theorem dX6_pop_16 : decode cX6_pop 16 = .ok (.getfield 11, 3) := by decide +kernel
theorem dX6_pop_19 : decode cX6_pop 19 = .ok (.aload_n 0, 1) := by decide +kernel
theorem dX6_pop_20 : decode cX6_pop 20 = .ok (.getfield 18, 3) := by decide +kernel
theorem dX6_pop_23 : decode cX6_pop 23 = .ok (.iconst 1, 1) := by decide +kernel
theorem dX6_pop_24 : decode cX6_pop 24 = .ok (.isub, 1) := by decide +kernel
theorem dX6_pop_25 : decode cX6_pop 25 = .ok (.aaload, 1) := by decide +kernel
theorem dX6_pop_26 : decode cX6_pop 26 = .ok (.ifnonnull 4, 3) := by decide +kernel
theorem dX6_pop_29 : decode cX6_pop 29 = .ok (.return_, 1) := by decide +kernel
theorem dX6_pop_30 : decode cX6_pop 30 = .ok (.aload_n 0, 1) := by decide +kernel
theorem dX6_pop_31 : decode cX6_pop 31 = .ok (.dup, 1) := by decide +kernel
theorem dX6_pop_32 : decode cX6_pop 32 = .ok (.getfield 18, 3) := by decide +kernel
theorem dX6_pop_35 : decode cX6_pop 35 = .ok (.iconst 1, 1) := by decide +kernel
theorem dX6_pop_36 : decode cX6_pop 36 = .ok (.isub, 1) := by decide +kernel
theorem dX6_pop_37 : decode cX6_pop 37 = .ok (.putfield 18, 3) := by decide +kernel
theorem dX6_pop_40 : decode cX6_pop 40 = .ok (.aload_n 1, 1) := by decide +kernel
theorem dX6_pop_41 : decode cX6_pop 41 = .ok (.aload_n 0, 1) := by decide +kernel
theorem dX6_pop_42 : decode cX6_pop 42 = .ok (.getfield 11, 3) := by decide +kernel
theorem dX6_pop_45 : decode cX6_pop 45 = .ok (.aload_n 0, 1) := by decide +kernel
theorem dX6_pop_46 : decode cX6_pop 46 = .ok (.getfield 18, 3) := by decide +kernel
theorem dX6_pop_49 : decode cX6_pop 49 = .ok (.aaload, 1) := by decide +kernel
theorem dX6_pop_50 : decode cX6_pop 50 = .ok (.invokevirtual 25, 3) := by decide +kernel
theorem dX6_pop_53 : decode cX6_pop 53 = .ok (.return_, 1) := by decide +kernel
theorem dX7_init_0 : decode cX7_init 0 = .ok (.aload_n 0, 1) := by decide +kernel
theorem dX7_init_1 : decode cX7_init 1 = .ok (.invokespecial 3, 3) := by decide +kernel
theorem dX7_init_4 : decode cX7_init 4 = .ok (.aload_n 0, 1) := by decide +kernel
theorem dX7_init_5 : decode cX7_init 5 = .ok (.bipush 20, 2) := by decide +kernel
theorem dX7_init_7 : decode cX7_init 7 = .ok (.newarray .int, 2) := by decide +kernel
theorem dX7_init_9 : decode cX7_init 9 = .ok (.putfield 9, 3) := by decide +kernel
theorem dX7_init_12 : decode cX7_init 12 = .ok (.aload_n 0, 1) := by decide +kernel
theorem dX7_init_13 : decode cX7_init 13 = .ok (.bipush 20, 2) := by decide +kernel
theorem dX7_init_15 : decode cX7_init 15 = .ok (.newarray .int, 2) := by decide +kernel
theorem dX7_init_17 : decode cX7_init 17 = .ok (.putfield 15, 3) := by decide +kernel
theorem dX7_init_20 : decode cX7_init 20 = .ok (.aload_n 0, 1) := by decide +kernel
theorem dX7_init_21 : decode cX7_init 21 = .ok (.bipush 20, 2) := by decide +kernel
theorem dX7_init_23 : decode cX7_init 23 = .ok (.newarray .int, 2) := by decide +kernel
theorem dX7_init_25 : decode cX7_init 25 = .ok (.putfield 18, 3) := by decide +kernel
theorem dX7_init_28 : decode cX7_init 28 = .ok (.aload_n 0, 1) := by decide +kernel
theorem dX7_init_29 : decode cX7_init 29 = .ok (.bipush 120, 2) := by decide +kernel
theorem dX7_init_31 : decode cX7_init 31 = .ok (.newarray .int, 2) := by decide +kernel
theorem dX7_init_33 : decode cX7_init 33 = .ok (.putfield 21, 3) := by decide +kernel
theorem dX7_init_36 : decode cX7_init 36 = .ok (.aload_n 0, 1) := by decide +kernel
theorem dX7_init_37 : decode cX7_init 37 = .ok (.bipush 20, 2) := by decide +kernel
theorem dX7_init_39 : decode cX7_init 39 = .ok (.newarray .int, 2) := by decide +kernel
theorem dX7_init_41 : decode cX7_init 41 = .ok (.putfield 24, 3) := by decide +kernel
theorem dX7_init_44 : decode cX7_init 44 = .ok (.aload_n 0, 1) := by decide +kernel
theorem dX7_init_45 : decode cX7_init 45 = .ok (.bipush 20, 2) := by decide +kernel
theorem dX7_init_47 : decode cX7_init 47 = .ok (.newarray .int, 2) := by decide +kernel
theorem dX7_init_49 : decode cX7_init 49 = .ok (.putfield 27, 3) := by decide +kernel
theorem dX7_init_52 : decode cX7_init 52 = .ok (.aload_n 0, 1) := by decide +kernel
theorem dX7_init_53 : decode cX7_init 53 = .ok (.getfield 9, 3) := by decide +kernel
theorem dX7_init_56 : decode cX7_init 56 = .ok (.bipush (-2), 2) := by decide +kernel
theorem dX7_init_58 : decode cX7_init 58 = .ok (.invokestatic 30, 3) := by decide +kernel
theorem dX7_init_61 : decode cX7_init 61 = .ok (.aload_n 0, 1) := by decide +kernel
theorem dX7_init_62 : decode cX7_init 62 = .ok (.getfield 9, 3) := by decide +kernel
theorem dX7_init_65 : decode cX7_init 65 = .ok (.iconst 0, 1) := by decide +kernel
theorem dX7_init_66 : decode cX7_init 66 = .ok (.iconst (-1), 1) := by decide +kernel
theorem dX7_init_67 : decode cX7_init 67 = .ok (.iastore, 1) := by decide +kernel
theorem dX7_init_68 : decode cX7_init 68 = .ok (.aload_n 0, 1) := by decide +kernel
theorem dX7_init_69 : decode cX7_init 69 = .ok (.getfield 24, 3) := by decide +kernel
theorem dX7_init_72 : decode cX7_init 72 = .ok (.iconst 0, 1) := by decide +kernel
theorem dX7_init_73 : decode cX7_init 73 = .ok (.iconst 1, 1) := by decide +kernel
theorem dX7_init_74 : decode cX7_init 74 = .ok (.iastore, 1) := by decide +kernel
theorem dX7_init_75 : decode cX7_init 75 = .ok (.aload_n 0, 1) := by decide +kernel
theorem dX7_init_76 : decode cX7_init 76 = .ok (.getfield 27, 3) := by decide +kernel
theorem dX7_init_79 : decode cX7_init 79 = .ok (.iconst 0, 1) := by decide +kernel
theorem dX7_init_80 : decode cX7_init 80 = .ok (.iconst 1, 1) := by decide +kernel
theorem dX7_init_81 : decode cX7_init 81 = .ok (.iastore, 1) := by decide +kernel
theorem dX7_init_82 : decode cX7_init 82 = .ok (.aload_n 0, 1) := by decide +kernel
theorem dX7_init_83 : decode cX7_init 83 = .ok (.iconst 1, 1) := by decide +kernel
theorem dX7_init_84 : decode cX7_init 84 = .ok (.putfield 36, 3) := by decide +kernel
theorem dX7_init_87 : decode cX7_init 87 = .ok (.return_, 1) := by decide +kernel
theorem dX7_copyFrom_0 : decode cX7_copyFrom 0 = .ok (.aload_n 1, 1) := by decide +kernel
theorem dX7_copyFrom_1 : decode cX7_copyFrom 1 = .ok (.getfield 9, 3) := by decide +kernel
theorem dX7_copyFrom_4 : decode cX7_copyFrom 4 = .ok (.aload_n 0, 1) := by decide +kernel
theorem dX7_copyFrom_5 : decode cX7_copyFrom 5 = .ok (.getfield 9, 3) := by decide +kernel
theorem dX7_copyFrom_8 : decode cX7_copyFrom 8 = .ok (.invokestatic 40, 3) := by decide +kernel
theorem dX7_copyFrom_11 : decode cX7_copyFrom 11 = .ok (.aload_n 1, 1) := by decide +kernel
theorem dX7_copyFrom_12 : decode cX7_copyFrom 12 = .ok (.getfield 15, 3) := by decide +kernel
theorem dX7_copyFrom_15 : decode cX7_copyFrom 15 = .ok (.aload_n 0, 1) := by decide +kernel
theorem dX7_copyFrom_16 : decode cX7_copyFrom 16 = .ok (.getfield 15, 3) := by decide +kernel
theorem dX7_copyFrom_19 : decode cX7_copyFrom 19 = .ok (.invokestatic 40, 3) := by decide +kernel
theorem dX7_copyFrom_22 : decode cX7_copyFrom 22 = .ok (.aload_n 1, 1) := by decide +kernel
theorem dX7_copyFrom_23 : decode cX7_copyFrom 23 = .ok (.getfield 18, 3) := by decide +kernel
theorem dX7_copyFrom_26 : decode cX7_copyFrom 26 = .ok (.aload_n 0, 1) := by decide +kernel
theorem dX7_copyFrom_27 : decode cX7_copyFrom 27 = .ok (.getfield 18, 3) := by decide +kernel
theorem dX7_copyFrom_30 : decode cX7_copyFrom 30 = .ok (.invokestatic 40, 3) := by decide +kernel
theorem dX7_copyFrom_33 : decode cX7_copyFrom 33 = .ok (.aload_n 1, 1) := by decide +kernel
theorem dX7_copyFrom_34 : decode cX7_copyFrom 34 = .ok (.getfield 21, 3) := by decide +kernel
theorem dX7_copyFrom_37 : decode cX7_copyFrom 37 = .ok (.aload_n 0, 1) := by decide +kernel
theorem dX7_copyFrom_38 : decode cX7_copyFrom 38 = .ok (.getfield 21, 3) := by decide +kernel
theorem dX7_copyFrom_41 : decode cX7_copyFrom 41 = .ok (.invokestatic 40, 3) := by decide +kernel
theorem dX7_copyFrom_44 : decode cX7_copyFrom 44 = .ok (.aload_n 1, 1) := by decide +kernel
theorem dX7_copyFrom_45 : decode cX7_copyFrom 45 = .ok (.getfield 24, 3) := by decide +kernel
theorem dX7_copyFrom_48 : decode cX7_copyFrom 48 = .ok (.aload_n 0, 1) := by decide +kernel
theorem dX7_copyFrom_49 : decode cX7_copyFrom 49 = .ok (.getfield 24, 3) := by decide +kernel
theorem dX7_copyFrom_52 : decode cX7_copyFrom 52 = .ok (.invokestatic 40, 3) := by decide +kernel
theorem dX7_copyFrom_55 : decode cX7_copyFrom 55 = .ok (.aload_n 1, 1) := by decide +kernel
theorem dX7_copyFrom_56 : decode cX7_copyFrom 56 = .ok (.getfield 27, 3) := by decide +kernel
theorem dX7_copyFrom_59 : decode cX7_copyFrom 59 = .ok (.aload_n 0, 1) := by decide +kernel
theorem dX7_copyFrom_60 : decode cX7_copyFrom 60 = .ok (.getfield 27, 3) := by decide +kernel
theorem dX7_copyFrom_63 : decode cX7_copyFrom 63 = .ok (.invokestatic 40, 3) := by decide +kernel
theorem dX7_copyFrom_66 : decode cX7_copyFrom 66 = .ok (.aload_n 0, 1) := by decide +kernel
theorem dX7_copyFrom_67 : decode cX7_copyFrom 67 = .ok (.aload_n 1, 1) := by decide +kernel
theorem dX7_copyFrom_68 : decode cX7_copyFrom 68 = .ok (.getfield 36, 3) := by decide +kernel
theorem dX7_copyFrom_71 : decode cX7_copyFrom 71 = .ok (.putfield 36, 3) := by decide +kernel
theorem dX7_copyFrom_74 : decode cX7_copyFrom 74 = .ok (.return_, 1) := by decide +kernel
theorem dX7_has_0 : decode cX7_has 0 = .ok (.iload_n 1, 1) := by decide +kernel
theorem dX7_has_1 : decode cX7_has 1 = .ok (.ifCond .lt 24, 3) := by decide +kernel
theorem dX7_has_4 : decode cX7_has 4 = .ok (.iload_n 1, 1) := by decide +kernel
theorem dX7_has_5 : decode cX7_has 5 = .ok (.bipush 20, 2) := by decide +kernel
theorem dX7_has_7 : decode cX7_has 7 = .ok (.if_icmp .ge 18, 3) := by decide +kernel
theorem dX7_has_10 : decode cX7_has 10 = .ok (.aload_n 0, 1) := by decide +kernel
theorem dX7_has_11 : decode cX7_has 11 = .ok (.getfield 9, 3) := by decide +kernel
theorem dX7_has_14 : decode cX7_has 14 = .ok (.iload_n 1, 1) := by decide +kernel
theorem dX7_has_15 : decode cX7_has 15 = .ok (.iaload, 1) := by decide +kernel
theorem dX7_has_16 : decode cX7_has 16 = .ok (.bipush (-2), 2) := by decide +kernel
theorem dX7_has_18 : decode cX7_has 18 = .ok (.if_icmp .eq 7, 3) := by decide +kernel
theorem dX7_has_21 : decode cX7_has 21 = .ok (.iconst 1, 1) := by decide +kernel
theorem dX7_has_22 : decode cX7_has 22 = .ok (.goto 4, 3) := by decide +kernel
theorem dX7_has_25 : decode cX7_has 25 = .ok (.iconst 0, 1) := by decide +kernel
theorem dX7_has_26 : decode cX7_has 26 = .ok (.ireturn, 1) := by decide +kernel
theorem dX7_parentOf_0 : decode cX7_parentOf 0 = .ok (.aload_n 0, 1) := by decide +kernel
theorem dX7_parentOf_1 : decode cX7_parentOf 1 = .ok (.iload_n 1, 1) := by decide +kernel
theorem dX7_parentOf_2 : decode cX7_parentOf 2 = .ok (.invokevirtual 44, 3) := by decide +kernel
theorem dX7_parentOf_5 : decode cX7_parentOf 5 = .ok (.ifCond .eq 12, 3) := by decide +kernel
theorem dX7_parentOf_8 : decode cX7_parentOf 8 = .ok (.aload_n 0, 1) := by decide +kernel
theorem dX7_parentOf_9 : decode cX7_parentOf 9 = .ok (.getfield 9, 3) := by decide +kernel
theorem dX7_parentOf_12 : decode cX7_parentOf 12 = .ok (.iload_n 1, 1) := by decide +kernel
theorem dX7_parentOf_13 : decode cX7_parentOf 13 = .ok (.iaload, 1) := by decide +kernel
theorem dX7_parentOf_14 : decode cX7_parentOf 14 = .ok (.goto 4, 3) := by decide +kernel
theorem dX7_parentOf_17 : decode cX7_parentOf 17 = .ok (.iconst (-1), 1) := by decide +kernel
theorem dX7_parentOf_18 : decode cX7_parentOf 18 = .ok (.ireturn, 1) := by decide +kernel
theorem dX7_versionOf_0 : decode cX7_versionOf 0 = .ok (.aload_n 0, 1) := by decide +kernel
theorem dX7_versionOf_1 : decode cX7_versionOf 1 = .ok (.iload_n 1, 1) := by decide +kernel
theorem dX7_versionOf_2 : decode cX7_versionOf 2 = .ok (.invokevirtual 44, 3) := by decide +kernel
theorem dX7_versionOf_5 : decode cX7_versionOf 5 = .ok (.ifCond .eq 12, 3) := by decide +kernel
theorem dX7_versionOf_8 : decode cX7_versionOf 8 = .ok (.aload_n 0, 1) := by decide +kernel
theorem dX7_versionOf_9 : decode cX7_versionOf 9 = .ok (.getfield 18, 3) := by decide +kernel
theorem dX7_versionOf_12 : decode cX7_versionOf 12 = .ok (.iload_n 1, 1) := by decide +kernel
theorem dX7_versionOf_13 : decode cX7_versionOf 13 = .ok (.iaload, 1) := by decide +kernel
theorem dX7_versionOf_14 : decode cX7_versionOf 14 = .ok (.goto 4, 3) := by decide +kernel
theorem dX7_versionOf_17 : decode cX7_versionOf 17 = .ok (.iconst 0, 1) := by decide +kernel
theorem dX7_versionOf_18 : decode cX7_versionOf 18 = .ok (.ireturn, 1) := by decide +kernel
theorem dX7_valueAt_0 : decode cX7_valueAt 0 = .ok (.iload_n 1, 1) := by decide +kernel
theorem dX7_valueAt_1 : decode cX7_valueAt 1 = .ok (.ifCond .lt 18, 3) := by decide +kernel
theorem dX7_valueAt_4 : decode cX7_valueAt 4 = .ok (.iload_n 1, 1) := by decide +kernel
theorem dX7_valueAt_5 : decode cX7_valueAt 5 = .ok (.bipush 120, 2) := by decide +kernel
theorem dX7_valueAt_7 : decode cX7_valueAt 7 = .ok (.if_icmp .ge 12, 3) := by decide +kernel
theorem dX7_valueAt_10 : decode cX7_valueAt 10 = .ok (.aload_n 0, 1) := by decide +kernel
theorem dX7_valueAt_11 : decode cX7_valueAt 11 = .ok (.getfield 21, 3) := by decide +kernel
theorem dX7_valueAt_14 : decode cX7_valueAt 14 = .ok (.iload_n 1, 1) := by decide +kernel
theorem dX7_valueAt_15 : decode cX7_valueAt 15 = .ok (.iaload, 1) := by decide +kernel
theorem dX7_valueAt_16 : decode cX7_valueAt 16 = .ok (.goto 4, 3) := by decide +kernel
theorem dX7_valueAt_19 : decode cX7_valueAt 19 = .ok (.iconst 0, 1) := by decide +kernel
theorem dX7_valueAt_20 : decode cX7_valueAt 20 = .ok (.ireturn, 1) := by decide +kernel
theorem dX7_subtreeOf_0 : decode cX7_subtreeOf 0 = .ok (.iload_n 1, 1) := by decide +kernel
theorem dX7_subtreeOf_1 : decode cX7_subtreeOf 1 = .ok (.ifCond .lt 18, 3) := by decide +kernel
theorem dX7_subtreeOf_4 : decode cX7_subtreeOf 4 = .ok (.iload_n 1, 1) := by decide +kernel
theorem dX7_subtreeOf_5 : decode cX7_subtreeOf 5 = .ok (.bipush 20, 2) := by decide +kernel
theorem dX7_subtreeOf_7 : decode cX7_subtreeOf 7 = .ok (.if_icmp .ge 12, 3) := by decide +kernel
theorem dX7_subtreeOf_10 : decode cX7_subtreeOf 10 = .ok (.aload_n 0, 1) := by decide +kernel
theorem dX7_subtreeOf_11 : decode cX7_subtreeOf 11 = .ok (.getfield 24, 3) := by decide +kernel
theorem dX7_subtreeOf_14 : decode cX7_subtreeOf 14 = .ok (.iload_n 1, 1) := by decide +kernel
theorem dX7_subtreeOf_15 : decode cX7_subtreeOf 15 = .ok (.iaload, 1) := by decide +kernel
theorem dX7_subtreeOf_16 : decode cX7_subtreeOf 16 = .ok (.goto 4, 3) := by decide +kernel
theorem dX7_subtreeOf_19 : decode cX7_subtreeOf 19 = .ok (.iconst 0, 1) := by decide +kernel
theorem dX7_subtreeOf_20 : decode cX7_subtreeOf 20 = .ok (.ireturn, 1) := by decide +kernel
theorem dX7_lineageOf_0 : decode cX7_lineageOf 0 = .ok (.iload_n 1, 1) := by decide +kernel
theorem dX7_lineageOf_1 : decode cX7_lineageOf 1 = .ok (.ifCond .lt 18, 3) := by decide +kernel
theorem dX7_lineageOf_4 : decode cX7_lineageOf 4 = .ok (.iload_n 1, 1) := by decide +kernel
theorem dX7_lineageOf_5 : decode cX7_lineageOf 5 = .ok (.bipush 20, 2) := by decide +kernel
theorem dX7_lineageOf_7 : decode cX7_lineageOf 7 = .ok (.if_icmp .ge 12, 3) := by decide +kernel
theorem dX7_lineageOf_10 : decode cX7_lineageOf 10 = .ok (.aload_n 0, 1) := by decide +kernel
theorem dX7_lineageOf_11 : decode cX7_lineageOf 11 = .ok (.getfield 27, 3) := by decide +kernel
theorem dX7_lineageOf_14 : decode cX7_lineageOf 14 = .ok (.iload_n 1, 1) := by decide +kernel
theorem dX7_lineageOf_15 : decode cX7_lineageOf 15 = .ok (.iaload, 1) := by decide +kernel
theorem dX7_lineageOf_16 : decode cX7_lineageOf 16 = .ok (.goto 4, 3) := by decide +kernel
theorem dX7_lineageOf_19 : decode cX7_lineageOf 19 = .ok (.iconst 0, 1) := by decide +kernel
theorem dX7_lineageOf_20 : decode cX7_lineageOf 20 = .ok (.ireturn, 1) := by decide +kernel
theorem dX7_overlapOf_0 : decode cX7_overlapOf 0 = .ok (.aload_n 0, 1) := by decide +kernel
theorem dX7_overlapOf_1 : decode cX7_overlapOf 1 = .ok (.iload_n 1, 1) := by decide +kernel
theorem dX7_overlapOf_2 : decode cX7_overlapOf 2 = .ok (.invokevirtual 48, 3) := by decide +kernel
theorem dX7_overlapOf_5 : decode cX7_overlapOf 5 = .ok (.aload_n 0, 1) := by decide +kernel
theorem dX7_overlapOf_6 : decode cX7_overlapOf 6 = .ok (.iload_n 1, 1) := by decide +kernel
theorem dX7_overlapOf_7 : decode cX7_overlapOf 7 = .ok (.invokevirtual 52, 3) := by decide +kernel
theorem dX7_overlapOf_10 : decode cX7_overlapOf 10 = .ok (.ior, 1) := by decide +kernel
theorem dX7_overlapOf_11 : decode cX7_overlapOf 11 = .ok (.ireturn, 1) := by decide +kernel
theorem dX7_covers_0 : decode cX7_covers 0 = .ok (.iload_n 2, 1) := by decide +kernel
theorem dX7_covers_1 : decode cX7_covers 1 = .ok (.iconst 0, 1) := by decide +kernel
theorem dX7_covers_2 : decode cX7_covers 2 = .ok (.bipush 19, 2) := by decide +kernel
theorem dX7_covers_4 : decode cX7_covers 4 = .ok (.invokestatic 55, 3) := by decide +kernel
theorem dX7_covers_7 : decode cX7_covers 7 = .ok (.ifCond .eq 19, 3) := by decide +kernel
theorem dX7_covers_10 : decode cX7_covers 10 = .ok (.aload_n 0, 1) := by decide +kernel
theorem dX7_covers_11 : decode cX7_covers 11 = .ok (.iload_n 1, 1) := by decide +kernel
theorem dX7_covers_12 : decode cX7_covers 12 = .ok (.invokevirtual 48, 3) := by decide +kernel
theorem dX7_covers_15 : decode cX7_covers 15 = .ok (.iload_n 2, 1) := by decide +kernel
theorem dX7_covers_16 : decode cX7_covers 16 = .ok (.invokestatic 59, 3) := by decide +kernel
theorem dX7_covers_19 : decode cX7_covers 19 = .ok (.ifCond .eq 7, 3) := by decide +kernel
theorem dX7_covers_22 : decode cX7_covers 22 = .ok (.iconst 1, 1) := by decide +kernel
theorem dX7_covers_23 : decode cX7_covers 23 = .ok (.goto 4, 3) := by decide +kernel
theorem dX7_covers_26 : decode cX7_covers 26 = .ok (.iconst 0, 1) := by decide +kernel
theorem dX7_covers_27 : decode cX7_covers 27 = .ok (.ireturn, 1) := by decide +kernel
theorem dX7_depthOf_0 : decode cX7_depthOf 0 = .ok (.aload_n 0, 1) := by decide +kernel
theorem dX7_depthOf_1 : decode cX7_depthOf 1 = .ok (.iload_n 1, 1) := by decide +kernel
theorem dX7_depthOf_2 : decode cX7_depthOf 2 = .ok (.invokevirtual 52, 3) := by decide +kernel
theorem dX7_depthOf_5 : decode cX7_depthOf 5 = .ok (.invokestatic 63, 3) := by decide +kernel
theorem dX7_depthOf_8 : decode cX7_depthOf 8 = .ok (.iconst 1, 1) := by decide +kernel
theorem dX7_depthOf_9 : decode cX7_depthOf 9 = .ok (.isub, 1) := by decide +kernel
theorem dX7_depthOf_10 : decode cX7_depthOf 10 = .ok (.ireturn, 1) := by decide +kernel
theorem dX7_childrenOf_0 : decode cX7_childrenOf 0 = .ok (.iconst 0, 1) := by decide +kernel
theorem dX7_childrenOf_1 : decode cX7_childrenOf 1 = .ok (.istore_n 2, 1) := by decide +kernel
theorem dX7_childrenOf_2 : decode cX7_childrenOf 2 = .ok (.iconst 0, 1) := by decide +kernel
theorem dX7_childrenOf_3 : decode cX7_childrenOf 3 = .ok (.istore_n 3, 1) := by decide +kernel
theorem dX7_childrenOf_4 : decode cX7_childrenOf 4 = .ok (.iload_n 3, 1) := by decide +kernel
theorem dX7_childrenOf_5 : decode cX7_childrenOf 5 = .ok (.aload_n 0, 1) := by decide +kernel
theorem dX7_childrenOf_6 : decode cX7_childrenOf 6 = .ok (.getfield 36, 3) := by decide +kernel
theorem dX7_childrenOf_9 : decode cX7_childrenOf 9 = .ok (.if_icmp .ge 40, 3) := by decide +kernel
theorem dX7_childrenOf_12 : decode cX7_childrenOf 12 = .ok (.iload_n 3, 1) := by decide +kernel
theorem dX7_childrenOf_13 : decode cX7_childrenOf 13 = .ok (.bipush 20, 2) := by decide +kernel
theorem dX7_childrenOf_15 : decode cX7_childrenOf 15 = .ok (.if_icmp .ge 34, 3) := by decide +kernel
theorem dX7_childrenOf_18 : decode cX7_childrenOf 18 = .ok (.aload_n 0, 1) := by decide +kernel
theorem dX7_childrenOf_19 : decode cX7_childrenOf 19 = .ok (.iload_n 1, 1) := by decide +kernel
theorem dX7_childrenOf_20 : decode cX7_childrenOf 20 = .ok (.invokevirtual 44, 3) := by decide +kernel
theorem dX7_childrenOf_23 : decode cX7_childrenOf 23 = .ok (.ifCond .eq 20, 3) := by decide +kernel
theorem dX7_childrenOf_26 : decode cX7_childrenOf 26 = .ok (.aload_n 0, 1) := by decide +kernel
theorem dX7_childrenOf_27 : decode cX7_childrenOf 27 = .ok (.aload_n 0, 1) := by decide +kernel
theorem dX7_childrenOf_28 : decode cX7_childrenOf 28 = .ok (.getfield 15, 3) := by decide +kernel
theorem dX7_childrenOf_31 : decode cX7_childrenOf 31 = .ok (.iload_n 3, 1) := by decide +kernel
theorem dX7_childrenOf_32 : decode cX7_childrenOf 32 = .ok (.iaload, 1) := by decide +kernel
theorem dX7_childrenOf_33 : decode cX7_childrenOf 33 = .ok (.invokevirtual 68, 3) := by decide +kernel
theorem dX7_childrenOf_36 : decode cX7_childrenOf 36 = .ok (.iload_n 1, 1) := by decide +kernel
theorem dX7_childrenOf_37 : decode cX7_childrenOf 37 = .ok (.if_icmp .ne 6, 3) := by decide +kernel
theorem dX7_childrenOf_40 : decode cX7_childrenOf 40 = .ok (.iinc 2 1, 3) := by decide +kernel
theorem dX7_childrenOf_43 : decode cX7_childrenOf 43 = .ok (.iinc 3 1, 3) := by decide +kernel
theorem dX7_childrenOf_46 : decode cX7_childrenOf 46 = .ok (.goto (-42), 3) := by decide +kernel
theorem dX7_childrenOf_49 : decode cX7_childrenOf 49 = .ok (.iload_n 2, 1) := by decide +kernel
theorem dX7_childrenOf_50 : decode cX7_childrenOf 50 = .ok (.ireturn, 1) := by decide +kernel
theorem dX7_childAt_0 : decode cX7_childAt 0 = .ok (.iconst 0, 1) := by decide +kernel
theorem dX7_childAt_1 : decode cX7_childAt 1 = .ok (.istore_n 3, 1) := by decide +kernel
theorem dX7_childAt_2 : decode cX7_childAt 2 = .ok (.iconst 0, 1) := by decide +kernel
theorem dX7_childAt_3 : decode cX7_childAt 3 = .ok (.istore 4, 2) := by decide +kernel
theorem dX7_childAt_5 : decode cX7_childAt 5 = .ok (.iload 4, 2) := by decide +kernel
theorem dX7_childAt_7 : decode cX7_childAt 7 = .ok (.aload_n 0, 1) := by decide +kernel
theorem dX7_childAt_8 : decode cX7_childAt 8 = .ok (.getfield 36, 3) := by decide +kernel
theorem dX7_childAt_11 : decode cX7_childAt 11 = .ok (.if_icmp .ge 55, 3) := by decide +kernel
theorem dX7_childAt_14 : decode cX7_childAt 14 = .ok (.iload 4, 2) := by decide +kernel
theorem dX7_childAt_16 : decode cX7_childAt 16 = .ok (.bipush 20, 2) := by decide +kernel
theorem dX7_childAt_18 : decode cX7_childAt 18 = .ok (.if_icmp .ge 48, 3) := by decide +kernel
theorem dX7_childAt_21 : decode cX7_childAt 21 = .ok (.aload_n 0, 1) := by decide +kernel
theorem dX7_childAt_22 : decode cX7_childAt 22 = .ok (.iload_n 1, 1) := by decide +kernel
theorem dX7_childAt_23 : decode cX7_childAt 23 = .ok (.invokevirtual 44, 3) := by decide +kernel
theorem dX7_childAt_26 : decode cX7_childAt 26 = .ok (.ifCond .eq 34, 3) := by decide +kernel
theorem dX7_childAt_29 : decode cX7_childAt 29 = .ok (.aload_n 0, 1) := by decide +kernel
theorem dX7_childAt_30 : decode cX7_childAt 30 = .ok (.aload_n 0, 1) := by decide +kernel
theorem dX7_childAt_31 : decode cX7_childAt 31 = .ok (.getfield 15, 3) := by decide +kernel
theorem dX7_childAt_34 : decode cX7_childAt 34 = .ok (.iload 4, 2) := by decide +kernel
theorem dX7_childAt_36 : decode cX7_childAt 36 = .ok (.iaload, 1) := by decide +kernel
theorem dX7_childAt_37 : decode cX7_childAt 37 = .ok (.invokevirtual 68, 3) := by decide +kernel
theorem dX7_childAt_40 : decode cX7_childAt 40 = .ok (.iload_n 1, 1) := by decide +kernel
theorem dX7_childAt_41 : decode cX7_childAt 41 = .ok (.if_icmp .ne 19, 3) := by decide +kernel
theorem dX7_childAt_44 : decode cX7_childAt 44 = .ok (.iload_n 3, 1) := by decide +kernel
theorem dX7_childAt_45 : decode cX7_childAt 45 = .ok (.iload_n 2, 1) := by decide +kernel
theorem dX7_childAt_46 : decode cX7_childAt 46 = .ok (.if_icmp .ne 11, 3) := by decide +kernel
theorem dX7_childAt_49 : decode cX7_childAt 49 = .ok (.aload_n 0, 1) := by decide +kernel
theorem dX7_childAt_50 : decode cX7_childAt 50 = .ok (.getfield 15, 3) := by decide +kernel
theorem dX7_childAt_53 : decode cX7_childAt 53 = .ok (.iload 4, 2) := by decide +kernel
theorem dX7_childAt_55 : decode cX7_childAt 55 = .ok (.iaload, 1) := by decide +kernel
theorem dX7_childAt_56 : decode cX7_childAt 56 = .ok (.ireturn, 1) := by decide +kernel
theorem dX7_childAt_57 : decode cX7_childAt 57 = .ok (.iinc 3 1, 3) := by decide +kernel
theorem dX7_childAt_60 : decode cX7_childAt 60 = .ok (.iinc 4 1, 3) := by decide +kernel
theorem dX7_childAt_63 : decode cX7_childAt 63 = .ok (.goto (-58), 3) := by decide +kernel
theorem dX7_childAt_66 : decode cX7_childAt 66 = .ok (.iconst (-1), 1) := by decide +kernel
theorem dX7_childAt_67 : decode cX7_childAt 67 = .ok (.ireturn, 1) := by decide +kernel
theorem dX7_add_0 : decode cX7_add 0 = .ok (.aload_n 0, 1) := by decide +kernel
theorem dX7_add_1 : decode cX7_add 1 = .ok (.invokevirtual 71, 3) := by decide +kernel
theorem dX7_add_4 : decode cX7_add 4 = .ok (.istore_n 2, 1) := by decide +kernel
theorem dX7_add_5 : decode cX7_add 5 = .ok (.iload_n 2, 1) := by decide +kernel
theorem dX7_add_6 : decode cX7_add 6 = .ok (.iconst 0, 1) := by decide +kernel
theorem dX7_add_7 : decode cX7_add 7 = .ok (.bipush 19, 2) := by decide +kernel
theorem dX7_add_9 : decode cX7_add 9 = .ok (.invokestatic 55, 3) := by decide +kernel
theorem dX7_add_12 : decode cX7_add 12 = .ok (.ifCond .eq 16, 3) := by decide +kernel
theorem dX7_add_15 : decode cX7_add 15 = .ok (.aload_n 0, 1) := by decide +kernel
theorem dX7_add_16 : decode cX7_add 16 = .ok (.getfield 36, 3) := by decide +kernel
theorem dX7_add_19 : decode cX7_add 19 = .ok (.iconst 0, 1) := by decide +kernel
theorem dX7_add_20 : decode cX7_add 20 = .ok (.bipush 19, 2) := by decide +kernel
theorem dX7_add_22 : decode cX7_add 22 = .ok (.invokestatic 55, 3) := by decide +kernel
theorem dX7_add_25 : decode cX7_add 25 = .ok (.ifCond .ne 5, 3) := by decide +kernel
theorem dX7_add_28 : decode cX7_add 28 = .ok (.iconst (-1), 1) := by decide +kernel
theorem dX7_add_29 : decode cX7_add 29 = .ok (.ireturn, 1) := by decide +kernel
theorem dX7_add_30 : decode cX7_add 30 = .ok (.aload_n 0, 1) := by decide +kernel
theorem dX7_add_31 : decode cX7_add 31 = .ok (.getfield 9, 3) := by decide +kernel
theorem dX7_add_34 : decode cX7_add 34 = .ok (.iload_n 2, 1) := by decide +kernel
theorem dX7_add_35 : decode cX7_add 35 = .ok (.iload_n 1, 1) := by decide +kernel
theorem dX7_add_36 : decode cX7_add 36 = .ok (.iastore, 1) := by decide +kernel
theorem dX7_add_37 : decode cX7_add 37 = .ok (.aload_n 0, 1) := by decide +kernel
theorem dX7_add_38 : decode cX7_add 38 = .ok (.getfield 18, 3) := by decide +kernel
theorem dX7_add_41 : decode cX7_add 41 = .ok (.iload_n 2, 1) := by decide +kernel
theorem dX7_add_42 : decode cX7_add 42 = .ok (.iconst 0, 1) := by decide +kernel
theorem dX7_add_43 : decode cX7_add 43 = .ok (.iastore, 1) := by decide +kernel
theorem dX7_add_44 : decode cX7_add 44 = .ok (.iconst 0, 1) := by decide +kernel
theorem dX7_add_45 : decode cX7_add 45 = .ok (.istore_n 3, 1) := by decide +kernel
theorem dX7_add_46 : decode cX7_add 46 = .ok (.iload_n 3, 1) := by decide +kernel
theorem dX7_add_47 : decode cX7_add 47 = .ok (.bipush 6, 2) := by decide +kernel
theorem dX7_add_49 : decode cX7_add 49 = .ok (.if_icmp .ge 19, 3) := by decide +kernel
theorem dX7_add_52 : decode cX7_add 52 = .ok (.aload_n 0, 1) := by decide +kernel
theorem dX7_add_53 : decode cX7_add 53 = .ok (.iload_n 2, 1) := by decide +kernel
theorem dX7_add_54 : decode cX7_add 54 = .ok (.iload_n 3, 1) := by decide +kernel
theorem dX7_add_55 : decode cX7_add 55 = .ok (.invokestatic 75, 3) := by decide +kernel
theorem dX7_add_58 : decode cX7_add 58 = .ok (.iconst 0, 1) := by decide +kernel
theorem dX7_add_59 : decode cX7_add 59 = .ok (.invokevirtual 79, 3) := by decide +kernel
theorem dX7_add_62 : decode cX7_add 62 = .ok (.iinc 3 1, 3) := by decide +kernel
theorem dX7_add_65 : decode cX7_add 65 = .ok (.goto (-19), 3) := by decide +kernel
theorem dX7_add_68 : decode cX7_add 68 = .ok (.aload_n 0, 1) := by decide +kernel
theorem dX7_add_69 : decode cX7_add 69 = .ok (.getfield 15, 3) := by decide +kernel
theorem dX7_add_72 : decode cX7_add 72 = .ok (.aload_n 0, 1) := by decide +kernel
theorem dX7_add_73 : decode cX7_add 73 = .ok (.getfield 36, 3) := by decide +kernel
theorem dX7_add_76 : decode cX7_add 76 = .ok (.iload_n 2, 1) := by decide +kernel
theorem dX7_add_77 : decode cX7_add 77 = .ok (.iastore, 1) := by decide +kernel
theorem dX7_add_78 : decode cX7_add 78 = .ok (.aload_n 0, 1) := by decide +kernel
theorem dX7_add_79 : decode cX7_add 79 = .ok (.dup, 1) := by decide +kernel
theorem dX7_add_80 : decode cX7_add 80 = .ok (.getfield 36, 3) := by decide +kernel
theorem dX7_add_83 : decode cX7_add 83 = .ok (.iconst 1, 1) := by decide +kernel
theorem dX7_add_84 : decode cX7_add 84 = .ok (.iadd, 1) := by decide +kernel
theorem dX7_add_85 : decode cX7_add 85 = .ok (.putfield 36, 3) := by decide +kernel
theorem dX7_add_88 : decode cX7_add 88 = .ok (.aload_n 0, 1) := by decide +kernel
theorem dX7_add_89 : decode cX7_add 89 = .ok (.invokevirtual 83, 3) := by decide +kernel
theorem dX7_add_92 : decode cX7_add 92 = .ok (.iload_n 2, 1) := by decide +kernel
theorem dX7_add_93 : decode cX7_add 93 = .ok (.ireturn, 1) := by decide +kernel
theorem dX7_lowestFree_0 : decode cX7_lowestFree 0 = .ok (.iconst 0, 1) := by decide +kernel
theorem dX7_lowestFree_1 : decode cX7_lowestFree 1 = .ok (.istore_n 1, 1) := by decide +kernel
theorem dX7_lowestFree_2 : decode cX7_lowestFree 2 = .ok (.iload_n 1, 1) := by decide +kernel
theorem dX7_lowestFree_3 : decode cX7_lowestFree 3 = .ok (.bipush 20, 2) := by decide +kernel
theorem dX7_lowestFree_5 : decode cX7_lowestFree 5 = .ok (.if_icmp .ge 22, 3) := by decide +kernel
theorem dX7_lowestFree_8 : decode cX7_lowestFree 8 = .ok (.aload_n 0, 1) := by decide +kernel
theorem dX7_lowestFree_9 : decode cX7_lowestFree 9 = .ok (.getfield 9, 3) := by decide +kernel
theorem dX7_lowestFree_12 : decode cX7_lowestFree 12 = .ok (.iload_n 1, 1) := by decide +kernel
theorem dX7_lowestFree_13 : decode cX7_lowestFree 13 = .ok (.iaload, 1) := by decide +kernel
theorem dX7_lowestFree_14 : decode cX7_lowestFree 14 = .ok (.bipush (-2), 2) := by decide +kernel
theorem dX7_lowestFree_16 : decode cX7_lowestFree 16 = .ok (.if_icmp .ne 5, 3) := by decide +kernel
theorem dX7_lowestFree_19 : decode cX7_lowestFree 19 = .ok (.iload_n 1, 1) := by decide +kernel
theorem dX7_lowestFree_20 : decode cX7_lowestFree 20 = .ok (.ireturn, 1) := by decide +kernel
theorem dX7_lowestFree_21 : decode cX7_lowestFree 21 = .ok (.iinc 1 1, 3) := by decide +kernel
theorem dX7_lowestFree_24 : decode cX7_lowestFree 24 = .ok (.goto (-22), 3) := by decide +kernel
theorem dX7_lowestFree_27 : decode cX7_lowestFree 27 = .ok (.iconst (-1), 1) := by decide +kernel
theorem dX7_lowestFree_28 : decode cX7_lowestFree 28 = .ok (.ireturn, 1) := by decide +kernel
theorem dX7_remove_0 : decode cX7_remove 0 = .ok (.iconst 0, 1) := by decide +kernel
theorem dX7_remove_1 : decode cX7_remove 1 = .ok (.istore_n 2, 1) := by decide +kernel
theorem dX7_remove_2 : decode cX7_remove 2 = .ok (.aload_n 0, 1) := by decide +kernel
theorem dX7_remove_3 : decode cX7_remove 3 = .ok (.getfield 36, 3) := by decide +kernel
theorem dX7_remove_6 : decode cX7_remove 6 = .ok (.istore_n 3, 1) := by decide +kernel
theorem dX7_remove_7 : decode cX7_remove 7 = .ok (.iconst 0, 1) := by decide +kernel
theorem dX7_remove_8 : decode cX7_remove 8 = .ok (.istore 4, 2) := by decide +kernel
theorem dX7_remove_10 : decode cX7_remove 10 = .ok (.iload 4, 2) := by decide +kernel
theorem dX7_remove_12 : decode cX7_remove 12 = .ok (.iload_n 3, 1) := by decide +kernel
theorem dX7_remove_13 : decode cX7_remove 13 = .ok (.if_icmp .ge 72, 3) := by decide +kernel
theorem dX7_remove_16 : decode cX7_remove 16 = .ok (.iload 4, 2) := by decide +kernel
theorem dX7_remove_18 : decode cX7_remove 18 = .ok (.bipush 20, 2) := by decide +kernel
theorem dX7_remove_20 : decode cX7_remove 20 = .ok (.if_icmp .ge 65, 3) := by decide +kernel
theorem dX7_remove_23 : decode cX7_remove 23 = .ok (.iload_n 2, 1) := by decide +kernel
theorem dX7_remove_24 : decode cX7_remove 24 = .ok (.bipush 20, 2) := by decide +kernel
theorem dX7_remove_26 : decode cX7_remove 26 = .ok (.if_icmp .ge 59, 3) := by decide +kernel
theorem dX7_remove_29 : decode cX7_remove 29 = .ok (.aload_n 0, 1) := by decide +kernel
theorem dX7_remove_30 : decode cX7_remove 30 = .ok (.getfield 15, 3) := by decide +kernel
theorem dX7_remove_33 : decode cX7_remove 33 = .ok (.iload 4, 2) := by decide +kernel
theorem dX7_remove_35 : decode cX7_remove 35 = .ok (.iaload, 1) := by decide +kernel
theorem dX7_remove_36 : decode cX7_remove 36 = .ok (.istore 5, 2) := by decide +kernel
theorem dX7_remove_38 : decode cX7_remove 38 = .ok (.iload_n 1, 1) := by decide +kernel
theorem dX7_remove_39 : decode cX7_remove 39 = .ok (.iload 5, 2) := by decide +kernel
theorem dX7_remove_41 : decode cX7_remove 41 = .ok (.invokestatic 59, 3) := by decide +kernel
theorem dX7_remove_44 : decode cX7_remove 44 = .ok (.ifCond .ne 17, 3) := by decide +kernel
theorem dX7_remove_47 : decode cX7_remove 47 = .ok (.aload_n 0, 1) := by decide +kernel
theorem dX7_remove_48 : decode cX7_remove 48 = .ok (.getfield 15, 3) := by decide +kernel
theorem dX7_remove_51 : decode cX7_remove 51 = .ok (.iload_n 2, 1) := by decide +kernel
theorem dX7_remove_52 : decode cX7_remove 52 = .ok (.iload 5, 2) := by decide +kernel
theorem dX7_remove_54 : decode cX7_remove 54 = .ok (.iastore, 1) := by decide +kernel
theorem dX7_remove_55 : decode cX7_remove 55 = .ok (.iinc 2 1, 3) := by decide +kernel
theorem dX7_remove_58 : decode cX7_remove 58 = .ok (.goto 21, 3) := by decide +kernel
theorem dX7_remove_61 : decode cX7_remove 61 = .ok (.aload_n 0, 1) := by decide +kernel
theorem dX7_remove_62 : decode cX7_remove 62 = .ok (.iload 5, 2) := by decide +kernel
theorem dX7_remove_64 : decode cX7_remove 64 = .ok (.invokevirtual 44, 3) := by decide +kernel
theorem dX7_remove_67 : decode cX7_remove 67 = .ok (.ifCond .eq 12, 3) := by decide +kernel
theorem dX7_remove_70 : decode cX7_remove 70 = .ok (.aload_n 0, 1) := by decide +kernel
theorem dX7_remove_71 : decode cX7_remove 71 = .ok (.getfield 9, 3) := by decide +kernel
theorem dX7_remove_74 : decode cX7_remove 74 = .ok (.iload 5, 2) := by decide +kernel
theorem dX7_remove_76 : decode cX7_remove 76 = .ok (.bipush (-2), 2) := by decide +kernel
theorem dX7_remove_78 : decode cX7_remove 78 = .ok (.iastore, 1) := by decide +kernel
theorem dX7_remove_79 : decode cX7_remove 79 = .ok (.iinc 4 1, 3) := by decide +kernel
theorem dX7_remove_82 : decode cX7_remove 82 = .ok (.goto (-72), 3) := by decide +kernel
theorem dX7_remove_85 : decode cX7_remove 85 = .ok (.aload_n 0, 1) := by decide +kernel
theorem dX7_remove_86 : decode cX7_remove 86 = .ok (.iload_n 2, 1) := by decide +kernel
theorem dX7_remove_87 : decode cX7_remove 87 = .ok (.putfield 36, 3) := by decide +kernel
theorem dX7_remove_90 : decode cX7_remove 90 = .ok (.aload_n 0, 1) := by decide +kernel
theorem dX7_remove_91 : decode cX7_remove 91 = .ok (.invokevirtual 83, 3) := by decide +kernel
theorem dX7_remove_94 : decode cX7_remove 94 = .ok (.return_, 1) := by decide +kernel
theorem dX7_move_0 : decode cX7_move 0 = .ok (.aload_n 0, 1) := by decide +kernel
theorem dX7_move_1 : decode cX7_move 1 = .ok (.iload_n 1, 1) := by decide +kernel
theorem dX7_move_2 : decode cX7_move 2 = .ok (.invokevirtual 44, 3) := by decide +kernel
theorem dX7_move_5 : decode cX7_move 5 = .ok (.ifCond .ne 4, 3) := by decide +kernel
theorem dX7_move_8 : decode cX7_move 8 = .ok (.return_, 1) := by decide +kernel
theorem dX7_move_9 : decode cX7_move 9 = .ok (.iconst 0, 1) := by decide +kernel
theorem dX7_move_10 : decode cX7_move 10 = .ok (.istore_n 3, 1) := by decide +kernel
theorem dX7_move_11 : decode cX7_move 11 = .ok (.iconst 0, 1) := by decide +kernel
theorem dX7_move_12 : decode cX7_move 12 = .ok (.istore 4, 2) := by decide +kernel
theorem dX7_move_14 : decode cX7_move 14 = .ok (.iload 4, 2) := by decide +kernel
theorem dX7_move_16 : decode cX7_move 16 = .ok (.aload_n 0, 1) := by decide +kernel
theorem dX7_move_17 : decode cX7_move 17 = .ok (.getfield 36, 3) := by decide +kernel
theorem dX7_move_20 : decode cX7_move 20 = .ok (.if_icmp .ge 49, 3) := by decide +kernel
theorem dX7_move_23 : decode cX7_move 23 = .ok (.iload 4, 2) := by decide +kernel
theorem dX7_move_25 : decode cX7_move 25 = .ok (.bipush 20, 2) := by decide +kernel
theorem dX7_move_27 : decode cX7_move 27 = .ok (.if_icmp .ge 42, 3) := by decide +kernel
theorem dX7_move_30 : decode cX7_move 30 = .ok (.iload_n 3, 1) := by decide +kernel
theorem dX7_move_31 : decode cX7_move 31 = .ok (.bipush 20, 2) := by decide +kernel
theorem dX7_move_33 : decode cX7_move 33 = .ok (.if_icmp .ge 36, 3) := by decide +kernel
theorem dX7_move_36 : decode cX7_move 36 = .ok (.aload_n 0, 1) := by decide +kernel
theorem dX7_move_37 : decode cX7_move 37 = .ok (.getfield 15, 3) := by decide +kernel
theorem dX7_move_40 : decode cX7_move 40 = .ok (.iload 4, 2) := by decide +kernel
theorem dX7_move_42 : decode cX7_move 42 = .ok (.iaload, 1) := by decide +kernel
theorem dX7_move_43 : decode cX7_move 43 = .ok (.iload_n 1, 1) := by decide +kernel
theorem dX7_move_44 : decode cX7_move 44 = .ok (.if_icmp .eq 19, 3) := by decide +kernel
theorem dX7_move_47 : decode cX7_move 47 = .ok (.aload_n 0, 1) := by decide +kernel
theorem dX7_move_48 : decode cX7_move 48 = .ok (.getfield 15, 3) := by decide +kernel
theorem dX7_move_51 : decode cX7_move 51 = .ok (.iload_n 3, 1) := by decide +kernel
theorem dX7_move_52 : decode cX7_move 52 = .ok (.aload_n 0, 1) := by decide +kernel
theorem dX7_move_53 : decode cX7_move 53 = .ok (.getfield 15, 3) := by decide +kernel
theorem dX7_move_56 : decode cX7_move 56 = .ok (.iload 4, 2) := by decide +kernel
theorem dX7_move_58 : decode cX7_move 58 = .ok (.iaload, 1) := by decide +kernel
theorem dX7_move_59 : decode cX7_move 59 = .ok (.iastore, 1) := by decide +kernel
theorem dX7_move_60 : decode cX7_move 60 = .ok (.iinc 3 1, 3) := by decide +kernel
theorem dX7_move_63 : decode cX7_move 63 = .ok (.iinc 4 1, 3) := by decide +kernel
theorem dX7_move_66 : decode cX7_move 66 = .ok (.goto (-52), 3) := by decide +kernel
theorem dX7_move_69 : decode cX7_move 69 = .ok (.iload_n 3, 1) := by decide +kernel
theorem dX7_move_70 : decode cX7_move 70 = .ok (.bipush 20, 2) := by decide +kernel
theorem dX7_move_72 : decode cX7_move 72 = .ok (.if_icmp .ge 10, 3) := by decide +kernel
theorem dX7_move_75 : decode cX7_move 75 = .ok (.aload_n 0, 1) := by decide +kernel
theorem dX7_move_76 : decode cX7_move 76 = .ok (.getfield 15, 3) := by decide +kernel
theorem dX7_move_79 : decode cX7_move 79 = .ok (.iload_n 3, 1) := by decide +kernel
theorem dX7_move_80 : decode cX7_move 80 = .ok (.iload_n 1, 1) := by decide +kernel
theorem dX7_move_81 : decode cX7_move 81 = .ok (.iastore, 1) := by decide +kernel
theorem dX7_move_82 : decode cX7_move 82 = .ok (.aload_n 0, 1) := by decide +kernel
theorem dX7_move_83 : decode cX7_move 83 = .ok (.getfield 9, 3) := by decide +kernel
theorem dX7_move_86 : decode cX7_move 86 = .ok (.iload_n 1, 1) := by decide +kernel
theorem dX7_move_87 : decode cX7_move 87 = .ok (.iload_n 2, 1) := by decide +kernel
theorem dX7_move_88 : decode cX7_move 88 = .ok (.iastore, 1) := by decide +kernel
theorem dX7_move_89 : decode cX7_move 89 = .ok (.aload_n 0, 1) := by decide +kernel
theorem dX7_move_90 : decode cX7_move 90 = .ok (.invokevirtual 83, 3) := by decide +kernel
theorem dX7_move_93 : decode cX7_move 93 = .ok (.return_, 1) := by decide +kernel
theorem dX7_findOverlaps_0 : decode cX7_findOverlaps 0 = .ok (.aload_n 0, 1) := by decide +kernel
theorem dX7_findOverlaps_1 : decode cX7_findOverlaps 1 = .ok (.getfield 24, 3) := by decide +kernel
theorem dX7_findOverlaps_4 : decode cX7_findOverlaps 4 = .ok (.iconst 0, 1) := by decide +kernel
theorem dX7_findOverlaps_5 : decode cX7_findOverlaps 5 = .ok (.invokestatic 30, 3) := by decide +kernel
theorem dX7_findOverlaps_8 : decode cX7_findOverlaps 8 = .ok (.aload_n 0, 1) := by decide +kernel
theorem dX7_findOverlaps_9 : decode cX7_findOverlaps 9 = .ok (.getfield 27, 3) := by decide +kernel
theorem dX7_findOverlaps_12 : decode cX7_findOverlaps 12 = .ok (.iconst 0, 1) := by decide +kernel
theorem dX7_findOverlaps_13 : decode cX7_findOverlaps 13 = .ok (.invokestatic 30, 3) := by decide +kernel
theorem dX7_findOverlaps_16 : decode cX7_findOverlaps 16 = .ok (.iconst 0, 1) := by decide +kernel
theorem dX7_findOverlaps_17 : decode cX7_findOverlaps 17 = .ok (.istore_n 1, 1) := by decide +kernel
theorem dX7_findOverlaps_18 : decode cX7_findOverlaps 18 = .ok (.iload_n 1, 1) := by decide +kernel
theorem dX7_findOverlaps_19 : decode cX7_findOverlaps 19 = .ok (.bipush 20, 2) := by decide +kernel
theorem dX7_findOverlaps_21 : decode cX7_findOverlaps 21 = .ok (.if_icmp .ge 64, 3) := by decide +kernel
theorem dX7_findOverlaps_24 : decode cX7_findOverlaps 24 = .ok (.iload_n 1, 1) := by decide +kernel
theorem dX7_findOverlaps_25 : decode cX7_findOverlaps 25 = .ok (.istore_n 2, 1) := by decide +kernel
theorem dX7_findOverlaps_26 : decode cX7_findOverlaps 26 = .ok (.iconst 0, 1) := by decide +kernel
theorem dX7_findOverlaps_27 : decode cX7_findOverlaps 27 = .ok (.istore_n 3, 1) := by decide +kernel
theorem dX7_findOverlaps_28 : decode cX7_findOverlaps 28 = .ok (.iload_n 3, 1) := by decide +kernel
theorem dX7_findOverlaps_29 : decode cX7_findOverlaps 29 = .ok (.bipush 20, 2) := by decide +kernel
theorem dX7_findOverlaps_31 : decode cX7_findOverlaps 31 = .ok (.if_icmp .ge 48, 3) := by decide +kernel
theorem dX7_findOverlaps_34 : decode cX7_findOverlaps 34 = .ok (.aload_n 0, 1) := by decide +kernel
theorem dX7_findOverlaps_35 : decode cX7_findOverlaps 35 = .ok (.iload_n 2, 1) := by decide +kernel
theorem dX7_findOverlaps_36 : decode cX7_findOverlaps 36 = .ok (.invokevirtual 44, 3) := by decide +kernel
theorem dX7_findOverlaps_39 : decode cX7_findOverlaps 39 = .ok (.ifCond .eq 40, 3) := by decide +kernel
theorem dX7_findOverlaps_42 : decode cX7_findOverlaps 42 = .ok (.aload_n 0, 1) := by decide +kernel
theorem dX7_findOverlaps_43 : decode cX7_findOverlaps 43 = .ok (.getfield 24, 3) := by decide +kernel
theorem dX7_findOverlaps_46 : decode cX7_findOverlaps 46 = .ok (.iload_n 2, 1) := by decide +kernel
theorem dX7_findOverlaps_47 : decode cX7_findOverlaps 47 = .ok (.dup2, 1) := by decide +kernel
theorem dX7_findOverlaps_48 : decode cX7_findOverlaps 48 = .ok (.iaload, 1) := by decide +kernel
theorem dX7_findOverlaps_49 : decode cX7_findOverlaps 49 = .ok (.iconst 1, 1) := by decide +kernel
theorem dX7_findOverlaps_50 : decode cX7_findOverlaps 50 = .ok (.iload_n 1, 1) := by decide +kernel
theorem dX7_findOverlaps_51 : decode cX7_findOverlaps 51 = .ok (.ishl, 1) := by decide +kernel
theorem dX7_findOverlaps_52 : decode cX7_findOverlaps 52 = .ok (.ior, 1) := by decide +kernel
theorem dX7_findOverlaps_53 : decode cX7_findOverlaps 53 = .ok (.iastore, 1) := by decide +kernel
theorem dX7_findOverlaps_54 : decode cX7_findOverlaps 54 = .ok (.aload_n 0, 1) := by decide +kernel
theorem dX7_findOverlaps_55 : decode cX7_findOverlaps 55 = .ok (.getfield 27, 3) := by decide +kernel
theorem dX7_findOverlaps_58 : decode cX7_findOverlaps 58 = .ok (.iload_n 1, 1) := by decide +kernel
theorem dX7_findOverlaps_59 : decode cX7_findOverlaps 59 = .ok (.dup2, 1) := by decide +kernel
theorem dX7_findOverlaps_60 : decode cX7_findOverlaps 60 = .ok (.iaload, 1) := by decide +kernel
theorem dX7_findOverlaps_61 : decode cX7_findOverlaps 61 = .ok (.iconst 1, 1) := by decide +kernel
theorem dX7_findOverlaps_62 : decode cX7_findOverlaps 62 = .ok (.iload_n 2, 1) := by decide +kernel
theorem dX7_findOverlaps_63 : decode cX7_findOverlaps 63 = .ok (.ishl, 1) := by decide +kernel
theorem dX7_findOverlaps_64 : decode cX7_findOverlaps 64 = .ok (.ior, 1) := by decide +kernel
theorem dX7_findOverlaps_65 : decode cX7_findOverlaps 65 = .ok (.iastore, 1) := by decide +kernel
theorem dX7_findOverlaps_66 : decode cX7_findOverlaps 66 = .ok (.aload_n 0, 1) := by decide +kernel
theorem dX7_findOverlaps_67 : decode cX7_findOverlaps 67 = .ok (.getfield 9, 3) := by decide +kernel
theorem dX7_findOverlaps_70 : decode cX7_findOverlaps 70 = .ok (.iload_n 2, 1) := by decide +kernel
theorem dX7_findOverlaps_71 : decode cX7_findOverlaps 71 = .ok (.iaload, 1) := by decide +kernel
theorem dX7_findOverlaps_72 : decode cX7_findOverlaps 72 = .ok (.istore_n 2, 1) := by decide +kernel
theorem dX7_findOverlaps_73 : decode cX7_findOverlaps 73 = .ok (.iinc 3 1, 3) := by decide +kernel
theorem dX7_findOverlaps_76 : decode cX7_findOverlaps 76 = .ok (.goto (-48), 3) := by decide +kernel
theorem dX7_findOverlaps_79 : decode cX7_findOverlaps 79 = .ok (.iinc 1 1, 3) := by decide +kernel
theorem dX7_findOverlaps_82 : decode cX7_findOverlaps 82 = .ok (.goto (-64), 3) := by decide +kernel
theorem dX7_findOverlaps_85 : decode cX7_findOverlaps 85 = .ok (.return_, 1) := by decide +kernel
theorem dX7_setValue_0 : decode cX7_setValue 0 = .ok (.iload_n 1, 1) := by decide +kernel
theorem dX7_setValue_1 : decode cX7_setValue 1 = .ok (.invokestatic 86, 3) := by decide +kernel
theorem dX7_setValue_4 : decode cX7_setValue 4 = .ok (.ifCond .eq 10, 3) := by decide +kernel
theorem dX7_setValue_7 : decode cX7_setValue 7 = .ok (.aload_n 0, 1) := by decide +kernel
theorem dX7_setValue_8 : decode cX7_setValue 8 = .ok (.getfield 21, 3) := by decide +kernel
theorem dX7_setValue_11 : decode cX7_setValue 11 = .ok (.iload_n 1, 1) := by decide +kernel
theorem dX7_setValue_12 : decode cX7_setValue 12 = .ok (.iload_n 2, 1) := by decide +kernel
theorem dX7_setValue_13 : decode cX7_setValue 13 = .ok (.iastore, 1) := by decide +kernel
theorem dX7_setValue_14 : decode cX7_setValue 14 = .ok (.return_, 1) := by decide +kernel
theorem dX7_raiseVersion_0 : decode cX7_raiseVersion 0 = .ok (.aload_n 0, 1) := by decide +kernel
theorem dX7_raiseVersion_1 : decode cX7_raiseVersion 1 = .ok (.iload_n 1, 1) := by decide +kernel
theorem dX7_raiseVersion_2 : decode cX7_raiseVersion 2 = .ok (.invokevirtual 44, 3) := by decide +kernel
theorem dX7_raiseVersion_5 : decode cX7_raiseVersion 5 = .ok (.ifCond .eq 13, 3) := by decide +kernel
theorem dX7_raiseVersion_8 : decode cX7_raiseVersion 8 = .ok (.aload_n 0, 1) := by decide +kernel
theorem dX7_raiseVersion_9 : decode cX7_raiseVersion 9 = .ok (.getfield 18, 3) := by decide +kernel
theorem dX7_raiseVersion_12 : decode cX7_raiseVersion 12 = .ok (.iload_n 1, 1) := by decide +kernel
theorem dX7_raiseVersion_13 : decode cX7_raiseVersion 13 = .ok (.dup2, 1) := by decide +kernel
theorem dX7_raiseVersion_14 : decode cX7_raiseVersion 14 = .ok (.iaload, 1) := by decide +kernel
theorem dX7_raiseVersion_15 : decode cX7_raiseVersion 15 = .ok (.iconst 1, 1) := by decide +kernel
theorem dX7_raiseVersion_16 : decode cX7_raiseVersion 16 = .ok (.iadd, 1) := by decide +kernel
theorem dX7_raiseVersion_17 : decode cX7_raiseVersion 17 = .ok (.iastore, 1) := by decide +kernel
theorem dX7_raiseVersion_18 : decode cX7_raiseVersion 18 = .ok (.return_, 1) := by decide +kernel
theorem dX8_init_0 : decode cX8_init 0 = .ok (.aload_n 0, 1) := by decide +kernel
theorem dX8_init_1 : decode cX8_init 1 = .ok (.invokespecial 3, 3) := by decide +kernel
theorem dX8_init_4 : decode cX8_init 4 = .ok (.aload_n 0, 1) := by decide +kernel
theorem dX8_init_5 : decode cX8_init 5 = .ok (.new 9, 3) := by decide +kernel
theorem dX8_init_8 : decode cX8_init 8 = .ok (.dup, 1) := by decide +kernel
theorem dX8_init_9 : decode cX8_init 9 = .ok (.invokespecial 11, 3) := by decide +kernel
theorem dX8_init_12 : decode cX8_init 12 = .ok (.putfield 12, 3) := by decide +kernel
theorem dX8_init_15 : decode cX8_init 15 = .ok (.aload_n 0, 1) := by decide +kernel
theorem dX8_init_16 : decode cX8_init 16 = .ok (.new 9, 3) := by decide +kernel
theorem dX8_init_19 : decode cX8_init 19 = .ok (.dup, 1) := by decide +kernel
theorem dX8_init_20 : decode cX8_init 20 = .ok (.invokespecial 11, 3) := by decide +kernel
theorem dX8_init_23 : decode cX8_init 23 = .ok (.putfield 16, 3) := by decide +kernel
theorem dX8_init_26 : decode cX8_init 26 = .ok (.aload_n 0, 1) := by decide +kernel
theorem dX8_init_27 : decode cX8_init 27 = .ok (.new 19, 3) := by decide +kernel
theorem dX8_init_30 : decode cX8_init 30 = .ok (.dup, 1) := by decide +kernel
theorem dX8_init_31 : decode cX8_init 31 = .ok (.invokespecial 21, 3) := by decide +kernel
theorem dX8_init_34 : decode cX8_init 34 = .ok (.putfield 22, 3) := by decide +kernel
theorem dX8_init_37 : decode cX8_init 37 = .ok (.aload_n 0, 1) := by decide +kernel
theorem dX8_init_38 : decode cX8_init 38 = .ok (.new 26, 3) := by decide +kernel
theorem dX8_init_41 : decode cX8_init 41 = .ok (.dup, 1) := by decide +kernel
theorem dX8_init_42 : decode cX8_init 42 = .ok (.invokespecial 28, 3) := by decide +kernel
theorem dX8_init_45 : decode cX8_init 45 = .ok (.putfield 29, 3) := by decide +kernel
theorem dX8_init_48 : decode cX8_init 48 = .ok (.aload_n 0, 1) := by decide +kernel
theorem dX8_init_49 : decode cX8_init 49 = .ok (.new 33, 3) := by decide +kernel
theorem dX8_init_52 : decode cX8_init 52 = .ok (.dup, 1) := by decide +kernel
theorem dX8_init_53 : decode cX8_init 53 = .ok (.invokespecial 35, 3) := by decide +kernel
theorem dX8_init_56 : decode cX8_init 56 = .ok (.putfield 36, 3) := by decide +kernel
theorem dX8_init_59 : decode cX8_init 59 = .ok (.return_, 1) := by decide +kernel
theorem dX8_addSection_0 : decode cX8_addSection 0 = .ok (.aload_n 0, 1) := by decide +kernel
theorem dX8_addSection_1 : decode cX8_addSection 1 = .ok (.getfield 12, 3) := by decide +kernel
theorem dX8_addSection_4 : decode cX8_addSection 4 = .ok (.iload_n 1, 1) := by decide +kernel
theorem dX8_addSection_5 : decode cX8_addSection 5 = .ok (.invokevirtual 40, 3) := by decide +kernel
theorem dX8_addSection_8 : decode cX8_addSection 8 = .ok (.invokestatic 44, 3) := by decide +kernel
theorem dX8_addSection_11 : decode cX8_addSection 11 = .ok (.aload_n 0, 1) := by decide +kernel
theorem dX8_addSection_12 : decode cX8_addSection 12 = .ok (.getfield 22, 3) := by decide +kernel
theorem dX8_addSection_15 : decode cX8_addSection 15 = .ok (.aload_n 0, 1) := by decide +kernel
theorem dX8_addSection_16 : decode cX8_addSection 16 = .ok (.getfield 12, 3) := by decide +kernel
theorem dX8_addSection_19 : decode cX8_addSection 19 = .ok (.invokevirtual 48, 3) := by decide +kernel
theorem dX8_addSection_22 : decode cX8_addSection 22 = .ok (.aload_n 0, 1) := by decide +kernel
theorem dX8_addSection_23 : decode cX8_addSection 23 = .ok (.getfield 12, 3) := by decide +kernel
theorem dX8_addSection_26 : decode cX8_addSection 26 = .ok (.getfield 52, 3) := by decide +kernel
theorem dX8_addSection_29 : decode cX8_addSection 29 = .ok (.iload_n 1, 1) := by decide +kernel
theorem dX8_addSection_30 : decode cX8_addSection 30 = .ok (.invokevirtual 56, 3) := by decide +kernel
theorem dX8_addSection_33 : decode cX8_addSection 33 = .ok (.ireturn, 1) := by decide +kernel
theorem dX8_removeSection_0 : decode cX8_removeSection 0 = .ok (.aload_n 0, 1) := by decide +kernel
theorem dX8_removeSection_1 : decode cX8_removeSection 1 = .ok (.getfield 12, 3) := by decide +kernel
theorem dX8_removeSection_4 : decode cX8_removeSection 4 = .ok (.iload_n 1, 1) := by decide +kernel
theorem dX8_removeSection_5 : decode cX8_removeSection 5 = .ok (.invokevirtual 61, 3) := by decide +kernel
theorem dX8_removeSection_8 : decode cX8_removeSection 8 = .ok (.invokestatic 44, 3) := by decide +kernel
theorem dX8_removeSection_11 : decode cX8_removeSection 11 = .ok (.aload_n 0, 1) := by decide +kernel
theorem dX8_removeSection_12 : decode cX8_removeSection 12 = .ok (.getfield 22, 3) := by decide +kernel
theorem dX8_removeSection_15 : decode cX8_removeSection 15 = .ok (.aload_n 0, 1) := by decide +kernel
theorem dX8_removeSection_16 : decode cX8_removeSection 16 = .ok (.getfield 12, 3) := by decide +kernel
theorem dX8_removeSection_19 : decode cX8_removeSection 19 = .ok (.invokevirtual 48, 3) := by decide +kernel
theorem dX8_removeSection_22 : decode cX8_removeSection 22 = .ok (.aload_n 0, 1) := by decide +kernel
theorem dX8_removeSection_23 : decode cX8_removeSection 23 = .ok (.getfield 12, 3) := by decide +kernel
theorem dX8_removeSection_26 : decode cX8_removeSection 26 = .ok (.iload_n 1, 1) := by decide +kernel
theorem dX8_removeSection_27 : decode cX8_removeSection 27 = .ok (.invokevirtual 64, 3) := by decide +kernel
theorem dX8_removeSection_30 : decode cX8_removeSection 30 = .ok (.ireturn, 1) := by decide +kernel
theorem dX8_moveSection_0 : decode cX8_moveSection 0 = .ok (.aload_n 0, 1) := by decide +kernel
theorem dX8_moveSection_1 : decode cX8_moveSection 1 = .ok (.getfield 12, 3) := by decide +kernel
theorem dX8_moveSection_4 : decode cX8_moveSection 4 = .ok (.iload_n 1, 1) := by decide +kernel
theorem dX8_moveSection_5 : decode cX8_moveSection 5 = .ok (.iload_n 2, 1) := by decide +kernel
theorem dX8_moveSection_6 : decode cX8_moveSection 6 = .ok (.invokevirtual 67, 3) := by decide +kernel
theorem dX8_moveSection_9 : decode cX8_moveSection 9 = .ok (.invokestatic 44, 3) := by decide +kernel
theorem dX8_moveSection_12 : decode cX8_moveSection 12 = .ok (.aload_n 0, 1) := by decide +kernel
theorem dX8_moveSection_13 : decode cX8_moveSection 13 = .ok (.getfield 22, 3) := by decide +kernel
theorem dX8_moveSection_16 : decode cX8_moveSection 16 = .ok (.aload_n 0, 1) := by decide +kernel
theorem dX8_moveSection_17 : decode cX8_moveSection 17 = .ok (.getfield 12, 3) := by decide +kernel
theorem dX8_moveSection_20 : decode cX8_moveSection 20 = .ok (.invokevirtual 48, 3) := by decide +kernel
theorem dX8_moveSection_23 : decode cX8_moveSection 23 = .ok (.aload_n 0, 1) := by decide +kernel
theorem dX8_moveSection_24 : decode cX8_moveSection 24 = .ok (.getfield 12, 3) := by decide +kernel
theorem dX8_moveSection_27 : decode cX8_moveSection 27 = .ok (.getfield 52, 3) := by decide +kernel
theorem dX8_moveSection_30 : decode cX8_moveSection 30 = .ok (.iload_n 1, 1) := by decide +kernel
theorem dX8_moveSection_31 : decode cX8_moveSection 31 = .ok (.iload_n 2, 1) := by decide +kernel
theorem dX8_moveSection_32 : decode cX8_moveSection 32 = .ok (.invokevirtual 71, 3) := by decide +kernel
theorem dX8_moveSection_35 : decode cX8_moveSection 35 = .ok (.aload_n 0, 1) := by decide +kernel
theorem dX8_moveSection_36 : decode cX8_moveSection 36 = .ok (.getfield 12, 3) := by decide +kernel
theorem dX8_moveSection_39 : decode cX8_moveSection 39 = .ok (.getfield 52, 3) := by decide +kernel
theorem dX8_moveSection_42 : decode cX8_moveSection 42 = .ok (.iload_n 1, 1) := by decide +kernel
theorem dX8_moveSection_43 : decode cX8_moveSection 43 = .ok (.invokevirtual 75, 3) := by decide +kernel
theorem dX8_moveSection_46 : decode cX8_moveSection 46 = .ok (.ireturn, 1) := by decide +kernel
theorem dX8_sections_0 : decode cX8_sections 0 = .ok (.aload_n 0, 1) := by decide +kernel
theorem dX8_sections_1 : decode cX8_sections 1 = .ok (.getfield 12, 3) := by decide +kernel
theorem dX8_sections_4 : decode cX8_sections 4 = .ok (.getfield 52, 3) := by decide +kernel
theorem dX8_sections_7 : decode cX8_sections 7 = .ok (.getfield 78, 3) := by decide +kernel
theorem dX8_sections_10 : decode cX8_sections 10 = .ok (.ireturn, 1) := by decide +kernel
theorem dX8_section_0 : decode cX8_section 0 = .ok (.aload_n 0, 1) := by decide +kernel
theorem dX8_section_1 : decode cX8_section 1 = .ok (.getfield 12, 3) := by decide +kernel
theorem dX8_section_4 : decode cX8_section 4 = .ok (.getfield 52, 3) := by decide +kernel
theorem dX8_section_7 : decode cX8_section 7 = .ok (.iload_n 1, 1) := by decide +kernel
theorem dX8_section_8 : decode cX8_section 8 = .ok (.invokevirtual 82, 3) := by decide +kernel
theorem dX8_section_11 : decode cX8_section 11 = .ok (.iload_n 2, 1) := by decide +kernel
theorem dX8_section_12 : decode cX8_section 12 = .ok (.iconst 0, 1) := by decide +kernel
theorem dX8_section_13 : decode cX8_section 13 = .ok (.iconst 4, 1) := by decide +kernel
theorem dX8_section_14 : decode cX8_section 14 = .ok (.invokestatic 86, 3) := by decide +kernel
theorem dX8_section_17 : decode cX8_section 17 = .ok (.iconst 1, 1) := by decide +kernel
theorem dX8_section_18 : decode cX8_section 18 = .ok (.invokestatic 90, 3) := by decide +kernel
theorem dX8_section_21 : decode cX8_section 21 = .ok (.invokestatic 44, 3) := by decide +kernel
theorem dX8_section_24 : decode cX8_section 24 = .ok (.iload_n 2, 1) := by decide +kernel
theorem dX8_section_25 : decode cX8_section 25 = .ok (.tableswitch 79 0 3 #[31, 43, 55, 67], 31) := by decide +kernel
theorem dX8_section_56 : decode cX8_section 56 = .ok (.aload_n 0, 1) := by decide +kernel
theorem dX8_section_57 : decode cX8_section 57 = .ok (.getfield 12, 3) := by decide +kernel
theorem dX8_section_60 : decode cX8_section 60 = .ok (.getfield 52, 3) := by decide +kernel
theorem dX8_section_63 : decode cX8_section 63 = .ok (.iload_n 1, 1) := by decide +kernel
theorem dX8_section_64 : decode cX8_section 64 = .ok (.invokevirtual 94, 3) := by decide +kernel
theorem dX8_section_67 : decode cX8_section 67 = .ok (.ireturn, 1) := by decide +kernel
theorem dX8_section_68 : decode cX8_section 68 = .ok (.aload_n 0, 1) := by decide +kernel
theorem dX8_section_69 : decode cX8_section 69 = .ok (.getfield 12, 3) := by decide +kernel
theorem dX8_section_72 : decode cX8_section 72 = .ok (.getfield 52, 3) := by decide +kernel
theorem dX8_section_75 : decode cX8_section 75 = .ok (.iload_n 1, 1) := by decide +kernel
theorem dX8_section_76 : decode cX8_section 76 = .ok (.invokevirtual 97, 3) := by decide +kernel
theorem dX8_section_79 : decode cX8_section 79 = .ok (.ireturn, 1) := by decide +kernel
theorem dX8_section_80 : decode cX8_section 80 = .ok (.aload_n 0, 1) := by decide +kernel
theorem dX8_section_81 : decode cX8_section 81 = .ok (.getfield 12, 3) := by decide +kernel
theorem dX8_section_84 : decode cX8_section 84 = .ok (.getfield 52, 3) := by decide +kernel
theorem dX8_section_87 : decode cX8_section 87 = .ok (.iload_n 1, 1) := by decide +kernel
theorem dX8_section_88 : decode cX8_section 88 = .ok (.invokevirtual 75, 3) := by decide +kernel
theorem dX8_section_91 : decode cX8_section 91 = .ok (.ireturn, 1) := by decide +kernel
theorem dX8_section_92 : decode cX8_section 92 = .ok (.aload_n 0, 1) := by decide +kernel
theorem dX8_section_93 : decode cX8_section 93 = .ok (.getfield 12, 3) := by decide +kernel
theorem dX8_section_96 : decode cX8_section 96 = .ok (.getfield 52, 3) := by decide +kernel
theorem dX8_section_99 : decode cX8_section 99 = .ok (.iload_n 1, 1) := by decide +kernel
theorem dX8_section_100 : decode cX8_section 100 = .ok (.invokevirtual 100, 3) := by decide +kernel
theorem dX8_section_103 : decode cX8_section 103 = .ok (.ireturn, 1) := by decide +kernel
theorem dX8_section_104 : decode cX8_section 104 = .ok (.aload_n 0, 1) := by decide +kernel
theorem dX8_section_105 : decode cX8_section 105 = .ok (.getfield 12, 3) := by decide +kernel
theorem dX8_section_108 : decode cX8_section 108 = .ok (.getfield 52, 3) := by decide +kernel
theorem dX8_section_111 : decode cX8_section 111 = .ok (.iload_n 1, 1) := by decide +kernel
theorem dX8_section_112 : decode cX8_section 112 = .ok (.invokevirtual 103, 3) := by decide +kernel
theorem dX8_section_115 : decode cX8_section 115 = .ok (.invokestatic 106, 3) := by decide +kernel
theorem dX8_section_118 : decode cX8_section 118 = .ok (.iconst 1, 1) := by decide +kernel
theorem dX8_section_119 : decode cX8_section 119 = .ok (.isub, 1) := by decide +kernel
theorem dX8_section_120 : decode cX8_section 120 = .ok (.ireturn, 1) := by decide +kernel
theorem dX8_child_0 : decode cX8_child 0 = .ok (.aload_n 0, 1) := by decide +kernel
theorem dX8_child_1 : decode cX8_child 1 = .ok (.getfield 12, 3) := by decide +kernel
theorem dX8_child_4 : decode cX8_child 4 = .ok (.getfield 52, 3) := by decide +kernel
theorem dX8_child_7 : decode cX8_child 7 = .ok (.iload_n 1, 1) := by decide +kernel
theorem dX8_child_8 : decode cX8_child 8 = .ok (.iload_n 2, 1) := by decide +kernel
theorem dX8_child_9 : decode cX8_child 9 = .ok (.invokevirtual 111, 3) := by decide +kernel
theorem dX8_child_12 : decode cX8_child 12 = .ok (.istore_n 3, 1) := by decide +kernel
theorem dX8_child_13 : decode cX8_child 13 = .ok (.iload_n 3, 1) := by decide +kernel
theorem dX8_child_14 : decode cX8_child 14 = .ok (.iconst (-1), 1) := by decide +kernel
theorem dX8_child_15 : decode cX8_child 15 = .ok (.if_icmp .eq 7, 3) := by decide +kernel
theorem dX8_child_18 : decode cX8_child 18 = .ok (.iconst 1, 1) := by decide +kernel
theorem dX8_child_19 : decode cX8_child 19 = .ok (.goto 4, 3) := by decide +kernel
theorem dX8_child_22 : decode cX8_child 22 = .ok (.iconst 0, 1) := by decide +kernel
theorem dX8_child_23 : decode cX8_child 23 = .ok (.iconst 1, 1) := by decide +kernel
theorem dX8_child_24 : decode cX8_child 24 = .ok (.iconst 1, 1) := by decide +kernel
theorem dX8_child_25 : decode cX8_child 25 = .ok (.invokestatic 90, 3) := by decide +kernel
theorem dX8_child_28 : decode cX8_child 28 = .ok (.invokestatic 44, 3) := by decide +kernel
theorem dX8_child_31 : decode cX8_child 31 = .ok (.iload_n 3, 1) := by decide +kernel
theorem dX8_child_32 : decode cX8_child 32 = .ok (.ireturn, 1) := by decide +kernel
theorem dX8_line_0 : decode cX8_line 0 = .ok (.aload_n 0, 1) := by decide +kernel
theorem dX8_line_1 : decode cX8_line 1 = .ok (.getfield 12, 3) := by decide +kernel
theorem dX8_line_4 : decode cX8_line 4 = .ok (.iload_n 1, 1) := by decide +kernel
theorem dX8_line_5 : decode cX8_line 5 = .ok (.iload_n 2, 1) := by decide +kernel
theorem dX8_line_6 : decode cX8_line 6 = .ok (.invokevirtual 114, 3) := by decide +kernel
theorem dX8_line_9 : decode cX8_line 9 = .ok (.iconst 1, 1) := by decide +kernel
theorem dX8_line_10 : decode cX8_line 10 = .ok (.iconst 1, 1) := by decide +kernel
theorem dX8_line_11 : decode cX8_line 11 = .ok (.invokestatic 90, 3) := by decide +kernel
theorem dX8_line_14 : decode cX8_line 14 = .ok (.invokestatic 44, 3) := by decide +kernel
theorem dX8_line_17 : decode cX8_line 17 = .ok (.aload_n 0, 1) := by decide +kernel
theorem dX8_line_18 : decode cX8_line 18 = .ok (.getfield 12, 3) := by decide +kernel
theorem dX8_line_21 : decode cX8_line 21 = .ok (.getfield 52, 3) := by decide +kernel
theorem dX8_line_24 : decode cX8_line 24 = .ok (.iload_n 1, 1) := by decide +kernel
theorem dX8_line_25 : decode cX8_line 25 = .ok (.iload_n 2, 1) := by decide +kernel
theorem dX8_line_26 : decode cX8_line 26 = .ok (.invokestatic 118, 3) := by decide +kernel
theorem dX8_line_29 : decode cX8_line 29 = .ok (.invokevirtual 121, 3) := by decide +kernel
theorem dX8_line_32 : decode cX8_line 32 = .ok (.ireturn, 1) := by decide +kernel
theorem dX8_write_0 : decode cX8_write 0 = .ok (.aload_n 0, 1) := by decide +kernel
theorem dX8_write_1 : decode cX8_write 1 = .ok (.getfield 12, 3) := by decide +kernel
theorem dX8_write_4 : decode cX8_write 4 = .ok (.iload_n 1, 1) := by decide +kernel
theorem dX8_write_5 : decode cX8_write 5 = .ok (.iload_n 2, 1) := by decide +kernel
theorem dX8_write_6 : decode cX8_write 6 = .ok (.iload_n 3, 1) := by decide +kernel
theorem dX8_write_7 : decode cX8_write 7 = .ok (.invokevirtual 124, 3) := by decide +kernel
theorem dX8_write_10 : decode cX8_write 10 = .ok (.invokestatic 44, 3) := by decide +kernel
theorem dX8_write_13 : decode cX8_write 13 = .ok (.aload_n 0, 1) := by decide +kernel
theorem dX8_write_14 : decode cX8_write 14 = .ok (.getfield 22, 3) := by decide +kernel
theorem dX8_write_17 : decode cX8_write 17 = .ok (.aload_n 0, 1) := by decide +kernel
theorem dX8_write_18 : decode cX8_write 18 = .ok (.getfield 12, 3) := by decide +kernel
theorem dX8_write_21 : decode cX8_write 21 = .ok (.invokevirtual 48, 3) := by decide +kernel
theorem dX8_write_24 : decode cX8_write 24 = .ok (.aload_n 0, 1) := by decide +kernel
theorem dX8_write_25 : decode cX8_write 25 = .ok (.getfield 12, 3) := by decide +kernel
theorem dX8_write_28 : decode cX8_write 28 = .ok (.iload_n 1, 1) := by decide +kernel
theorem dX8_write_29 : decode cX8_write 29 = .ok (.iload_n 2, 1) := by decide +kernel
theorem dX8_write_30 : decode cX8_write 30 = .ok (.iload_n 3, 1) := by decide +kernel
theorem dX8_write_31 : decode cX8_write 31 = .ok (.invokevirtual 128, 3) := by decide +kernel
theorem dX8_write_34 : decode cX8_write 34 = .ok (.ireturn, 1) := by decide +kernel
theorem dX8_request_0 : decode cX8_request 0 = .ok (.aload_n 0, 1) := by decide +kernel
theorem dX8_request_1 : decode cX8_request 1 = .ok (.getfield 12, 3) := by decide +kernel
theorem dX8_request_4 : decode cX8_request 4 = .ok (.iload_n 1, 1) := by decide +kernel
theorem dX8_request_5 : decode cX8_request 5 = .ok (.iload_n 2, 1) := by decide +kernel
theorem dX8_request_6 : decode cX8_request 6 = .ok (.iload_n 3, 1) := by decide +kernel
theorem dX8_request_7 : decode cX8_request 7 = .ok (.iload 4, 2) := by decide +kernel
theorem dX8_request_9 : decode cX8_request 9 = .ok (.invokevirtual 131, 3) := by decide +kernel
theorem dX8_request_12 : decode cX8_request 12 = .ok (.invokestatic 44, 3) := by decide +kernel
theorem dX8_request_15 : decode cX8_request 15 = .ok (.aload_n 0, 1) := by decide +kernel
theorem dX8_request_16 : decode cX8_request 16 = .ok (.getfield 22, 3) := by decide +kernel
theorem dX8_request_19 : decode cX8_request 19 = .ok (.aload_n 0, 1) := by decide +kernel
theorem dX8_request_20 : decode cX8_request 20 = .ok (.getfield 12, 3) := by decide +kernel
theorem dX8_request_23 : decode cX8_request 23 = .ok (.invokevirtual 48, 3) := by decide +kernel
theorem dX8_request_26 : decode cX8_request 26 = .ok (.aload_n 0, 1) := by decide +kernel
theorem dX8_request_27 : decode cX8_request 27 = .ok (.getfield 12, 3) := by decide +kernel
theorem dX8_request_30 : decode cX8_request 30 = .ok (.iload_n 1, 1) := by decide +kernel
theorem dX8_request_31 : decode cX8_request 31 = .ok (.iload_n 2, 1) := by decide +kernel
theorem dX8_request_32 : decode cX8_request 32 = .ok (.iload_n 3, 1) := by decide +kernel
theorem dX8_request_33 : decode cX8_request 33 = .ok (.iload 4, 2) := by decide +kernel
theorem dX8_request_35 : decode cX8_request 35 = .ok (.invokevirtual 135, 3) := by decide +kernel
theorem dX8_request_38 : decode cX8_request 38 = .ok (.ireturn, 1) := by decide +kernel
theorem dX8_cancel_0 : decode cX8_cancel 0 = .ok (.aload_n 0, 1) := by decide +kernel
theorem dX8_cancel_1 : decode cX8_cancel 1 = .ok (.getfield 12, 3) := by decide +kernel
theorem dX8_cancel_4 : decode cX8_cancel 4 = .ok (.iload_n 1, 1) := by decide +kernel
theorem dX8_cancel_5 : decode cX8_cancel 5 = .ok (.invokevirtual 138, 3) := by decide +kernel
theorem dX8_cancel_8 : decode cX8_cancel 8 = .ok (.invokestatic 44, 3) := by decide +kernel
theorem dX8_cancel_11 : decode cX8_cancel 11 = .ok (.aload_n 0, 1) := by decide +kernel
theorem dX8_cancel_12 : decode cX8_cancel 12 = .ok (.getfield 22, 3) := by decide +kernel
theorem dX8_cancel_15 : decode cX8_cancel 15 = .ok (.aload_n 0, 1) := by decide +kernel
theorem dX8_cancel_16 : decode cX8_cancel 16 = .ok (.getfield 12, 3) := by decide +kernel
theorem dX8_cancel_19 : decode cX8_cancel 19 = .ok (.invokevirtual 48, 3) := by decide +kernel
theorem dX8_cancel_22 : decode cX8_cancel 22 = .ok (.aload_n 0, 1) := by decide +kernel
theorem dX8_cancel_23 : decode cX8_cancel 23 = .ok (.getfield 12, 3) := by decide +kernel
theorem dX8_cancel_26 : decode cX8_cancel 26 = .ok (.iload_n 1, 1) := by decide +kernel
theorem dX8_cancel_27 : decode cX8_cancel 27 = .ok (.invokevirtual 141, 3) := by decide +kernel
theorem dX8_cancel_30 : decode cX8_cancel 30 = .ok (.ireturn, 1) := by decide +kernel
theorem dX8_renew_0 : decode cX8_renew 0 = .ok (.aload_n 0, 1) := by decide +kernel
theorem dX8_renew_1 : decode cX8_renew 1 = .ok (.getfield 12, 3) := by decide +kernel
theorem dX8_renew_4 : decode cX8_renew 4 = .ok (.iload_n 1, 1) := by decide +kernel
theorem dX8_renew_5 : decode cX8_renew 5 = .ok (.iload_n 2, 1) := by decide +kernel
theorem dX8_renew_6 : decode cX8_renew 6 = .ok (.invokevirtual 144, 3) := by decide +kernel
theorem dX8_renew_9 : decode cX8_renew 9 = .ok (.invokestatic 44, 3) := by decide +kernel
theorem dX8_renew_12 : decode cX8_renew 12 = .ok (.aload_n 0, 1) := by decide +kernel
theorem dX8_renew_13 : decode cX8_renew 13 = .ok (.getfield 22, 3) := by decide +kernel
theorem dX8_renew_16 : decode cX8_renew 16 = .ok (.aload_n 0, 1) := by decide +kernel
theorem dX8_renew_17 : decode cX8_renew 17 = .ok (.getfield 12, 3) := by decide +kernel
theorem dX8_renew_20 : decode cX8_renew 20 = .ok (.invokevirtual 48, 3) := by decide +kernel
theorem dX8_renew_23 : decode cX8_renew 23 = .ok (.aload_n 0, 1) := by decide +kernel
theorem dX8_renew_24 : decode cX8_renew 24 = .ok (.getfield 12, 3) := by decide +kernel
theorem dX8_renew_27 : decode cX8_renew 27 = .ok (.iload_n 1, 1) := by decide +kernel
theorem dX8_renew_28 : decode cX8_renew 28 = .ok (.iload_n 2, 1) := by decide +kernel
theorem dX8_renew_29 : decode cX8_renew 29 = .ok (.invokevirtual 147, 3) := by decide +kernel
theorem dX8_renew_32 : decode cX8_renew 32 = .ok (.ireturn, 1) := by decide +kernel
theorem dX8_breakUp_0 : decode cX8_breakUp 0 = .ok (.aload_n 0, 1) := by decide +kernel
theorem dX8_breakUp_1 : decode cX8_breakUp 1 = .ok (.getfield 12, 3) := by decide +kernel
theorem dX8_breakUp_4 : decode cX8_breakUp 4 = .ok (.iload_n 1, 1) := by decide +kernel
theorem dX8_breakUp_5 : decode cX8_breakUp 5 = .ok (.invokevirtual 150, 3) := by decide +kernel
theorem dX8_breakUp_8 : decode cX8_breakUp 8 = .ok (.invokestatic 44, 3) := by decide +kernel
theorem dX8_breakUp_11 : decode cX8_breakUp 11 = .ok (.aload_n 0, 1) := by decide +kernel
theorem dX8_breakUp_12 : decode cX8_breakUp 12 = .ok (.getfield 22, 3) := by decide +kernel
theorem dX8_breakUp_15 : decode cX8_breakUp 15 = .ok (.aload_n 0, 1) := by decide +kernel
theorem dX8_breakUp_16 : decode cX8_breakUp 16 = .ok (.getfield 12, 3) := by decide +kernel
theorem dX8_breakUp_19 : decode cX8_breakUp 19 = .ok (.invokevirtual 48, 3) := by decide +kernel
theorem dX8_breakUp_22 : decode cX8_breakUp 22 = .ok (.aload_n 0, 1) := by decide +kernel
theorem dX8_breakUp_23 : decode cX8_breakUp 23 = .ok (.getfield 12, 3) := by decide +kernel
theorem dX8_breakUp_26 : decode cX8_breakUp 26 = .ok (.iload_n 1, 1) := by decide +kernel
theorem dX8_breakUp_27 : decode cX8_breakUp 27 = .ok (.invokevirtual 153, 3) := by decide +kernel
theorem dX8_breakUp_30 : decode cX8_breakUp 30 = .ok (.ireturn, 1) := by decide +kernel
theorem dX8_discard_0 : decode cX8_discard 0 = .ok (.aload_n 0, 1) := by decide +kernel
theorem dX8_discard_1 : decode cX8_discard 1 = .ok (.getfield 12, 3) := by decide +kernel
theorem dX8_discard_4 : decode cX8_discard 4 = .ok (.iload_n 1, 1) := by decide +kernel
theorem dX8_discard_5 : decode cX8_discard 5 = .ok (.invokevirtual 156, 3) := by decide +kernel
theorem dX8_discard_8 : decode cX8_discard 8 = .ok (.invokestatic 44, 3) := by decide +kernel
theorem dX8_discard_11 : decode cX8_discard 11 = .ok (.aload_n 0, 1) := by decide +kernel
theorem dX8_discard_12 : decode cX8_discard 12 = .ok (.getfield 22, 3) := by decide +kernel
theorem dX8_discard_15 : decode cX8_discard 15 = .ok (.aload_n 0, 1) := by decide +kernel
theorem dX8_discard_16 : decode cX8_discard 16 = .ok (.getfield 12, 3) := by decide +kernel
theorem dX8_discard_19 : decode cX8_discard 19 = .ok (.invokevirtual 48, 3) := by decide +kernel
theorem dX8_discard_22 : decode cX8_discard 22 = .ok (.aload_n 0, 1) := by decide +kernel
theorem dX8_discard_23 : decode cX8_discard 23 = .ok (.getfield 12, 3) := by decide +kernel
theorem dX8_discard_26 : decode cX8_discard 26 = .ok (.iload_n 1, 1) := by decide +kernel
theorem dX8_discard_27 : decode cX8_discard 27 = .ok (.invokevirtual 159, 3) := by decide +kernel
theorem dX8_discard_30 : decode cX8_discard 30 = .ok (.ireturn, 1) := by decide +kernel
theorem dX8_edit_0 : decode cX8_edit 0 = .ok (.aload_n 0, 1) := by decide +kernel
theorem dX8_edit_1 : decode cX8_edit 1 = .ok (.getfield 12, 3) := by decide +kernel
theorem dX8_edit_4 : decode cX8_edit 4 = .ok (.iload_n 1, 1) := by decide +kernel
theorem dX8_edit_5 : decode cX8_edit 5 = .ok (.iload_n 2, 1) := by decide +kernel
theorem dX8_edit_6 : decode cX8_edit 6 = .ok (.iload_n 3, 1) := by decide +kernel
theorem dX8_edit_7 : decode cX8_edit 7 = .ok (.iload 4, 2) := by decide +kernel
theorem dX8_edit_9 : decode cX8_edit 9 = .ok (.invokevirtual 162, 3) := by decide +kernel
theorem dX8_edit_12 : decode cX8_edit 12 = .ok (.invokestatic 44, 3) := by decide +kernel
theorem dX8_edit_15 : decode cX8_edit 15 = .ok (.aload_n 0, 1) := by decide +kernel
theorem dX8_edit_16 : decode cX8_edit 16 = .ok (.getfield 22, 3) := by decide +kernel
theorem dX8_edit_19 : decode cX8_edit 19 = .ok (.aload_n 0, 1) := by decide +kernel
theorem dX8_edit_20 : decode cX8_edit 20 = .ok (.getfield 12, 3) := by decide +kernel
theorem dX8_edit_23 : decode cX8_edit 23 = .ok (.invokevirtual 48, 3) := by decide +kernel
theorem dX8_edit_26 : decode cX8_edit 26 = .ok (.aload_n 0, 1) := by decide +kernel
theorem dX8_edit_27 : decode cX8_edit 27 = .ok (.getfield 12, 3) := by decide +kernel
theorem dX8_edit_30 : decode cX8_edit 30 = .ok (.iload_n 1, 1) := by decide +kernel
theorem dX8_edit_31 : decode cX8_edit 31 = .ok (.iload_n 2, 1) := by decide +kernel
theorem dX8_edit_32 : decode cX8_edit 32 = .ok (.iload_n 3, 1) := by decide +kernel
theorem dX8_edit_33 : decode cX8_edit 33 = .ok (.iload 4, 2) := by decide +kernel
theorem dX8_edit_35 : decode cX8_edit 35 = .ok (.invokevirtual 166, 3) := by decide +kernel
theorem dX8_edit_38 : decode cX8_edit 38 = .ok (.ireturn, 1) := by decide +kernel
theorem dX8_copied_0 : decode cX8_copied 0 = .ok (.aload_n 0, 1) := by decide +kernel
theorem dX8_copied_1 : decode cX8_copied 1 = .ok (.getfield 12, 3) := by decide +kernel
theorem dX8_copied_4 : decode cX8_copied 4 = .ok (.iload_n 1, 1) := by decide +kernel
theorem dX8_copied_5 : decode cX8_copied 5 = .ok (.iload_n 2, 1) := by decide +kernel
theorem dX8_copied_6 : decode cX8_copied 6 = .ok (.iload_n 3, 1) := by decide +kernel
theorem dX8_copied_7 : decode cX8_copied 7 = .ok (.invokevirtual 169, 3) := by decide +kernel
theorem dX8_copied_10 : decode cX8_copied 10 = .ok (.iconst 1, 1) := by decide +kernel
theorem dX8_copied_11 : decode cX8_copied 11 = .ok (.iconst 1, 1) := by decide +kernel
theorem dX8_copied_12 : decode cX8_copied 12 = .ok (.invokestatic 90, 3) := by decide +kernel
theorem dX8_copied_15 : decode cX8_copied 15 = .ok (.invokestatic 44, 3) := by decide +kernel
theorem dX8_copied_18 : decode cX8_copied 18 = .ok (.iload_n 2, 1) := by decide +kernel
theorem dX8_copied_19 : decode cX8_copied 19 = .ok (.iload_n 3, 1) := by decide +kernel
theorem dX8_copied_20 : decode cX8_copied 20 = .ok (.invokestatic 118, 3) := by decide +kernel
theorem dX8_copied_23 : decode cX8_copied 23 = .ok (.istore 5, 2) := by decide +kernel
theorem dX8_copied_25 : decode cX8_copied 25 = .ok (.iload 4, 2) := by decide +kernel
theorem dX8_copied_27 : decode cX8_copied 27 = .ok (.ifCond .eq 19, 3) := by decide +kernel
theorem dX8_copied_30 : decode cX8_copied 30 = .ok (.aload_n 0, 1) := by decide +kernel
theorem dX8_copied_31 : decode cX8_copied 31 = .ok (.getfield 12, 3) := by decide +kernel
theorem dX8_copied_34 : decode cX8_copied 34 = .ok (.getfield 172, 3) := by decide +kernel
theorem dX8_copied_37 : decode cX8_copied 37 = .ok (.iload_n 1, 1) := by decide +kernel
theorem dX8_copied_38 : decode cX8_copied 38 = .ok (.iload 5, 2) := by decide +kernel
theorem dX8_copied_40 : decode cX8_copied 40 = .ok (.invokevirtual 176, 3) := by decide +kernel
theorem dX8_copied_43 : decode cX8_copied 43 = .ok (.goto 16, 3) := by decide +kernel
theorem dX8_copied_46 : decode cX8_copied 46 = .ok (.aload_n 0, 1) := by decide +kernel
theorem dX8_copied_47 : decode cX8_copied 47 = .ok (.getfield 12, 3) := by decide +kernel
theorem dX8_copied_50 : decode cX8_copied 50 = .ok (.getfield 172, 3) := by decide +kernel
theorem dX8_copied_53 : decode cX8_copied 53 = .ok (.iload_n 1, 1) := by decide +kernel
theorem dX8_copied_54 : decode cX8_copied 54 = .ok (.iload 5, 2) := by decide +kernel
theorem dX8_copied_56 : decode cX8_copied 56 = .ok (.invokevirtual 181, 3) := by decide +kernel
theorem dX8_copied_59 : decode cX8_copied 59 = .ok (.ireturn, 1) := by decide +kernel
theorem dX8_conflicts_0 : decode cX8_conflicts 0 = .ok (.aload_n 0, 1) := by decide +kernel
theorem dX8_conflicts_1 : decode cX8_conflicts 1 = .ok (.getfield 12, 3) := by decide +kernel
theorem dX8_conflicts_4 : decode cX8_conflicts 4 = .ok (.iload_n 1, 1) := by decide +kernel
theorem dX8_conflicts_5 : decode cX8_conflicts 5 = .ok (.invokevirtual 156, 3) := by decide +kernel
theorem dX8_conflicts_8 : decode cX8_conflicts 8 = .ok (.invokestatic 44, 3) := by decide +kernel
theorem dX8_conflicts_11 : decode cX8_conflicts 11 = .ok (.aload_n 0, 1) := by decide +kernel
theorem dX8_conflicts_12 : decode cX8_conflicts 12 = .ok (.getfield 12, 3) := by decide +kernel
theorem dX8_conflicts_15 : decode cX8_conflicts 15 = .ok (.iload_n 1, 1) := by decide +kernel
theorem dX8_conflicts_16 : decode cX8_conflicts 16 = .ok (.invokevirtual 184, 3) := by decide +kernel
theorem dX8_conflicts_19 : decode cX8_conflicts 19 = .ok (.ireturn, 1) := by decide +kernel
theorem dX8_giveBack_0 : decode cX8_giveBack 0 = .ok (.aload_n 0, 1) := by decide +kernel
theorem dX8_giveBack_1 : decode cX8_giveBack 1 = .ok (.getfield 12, 3) := by decide +kernel
theorem dX8_giveBack_4 : decode cX8_giveBack 4 = .ok (.iload_n 1, 1) := by decide +kernel
theorem dX8_giveBack_5 : decode cX8_giveBack 5 = .ok (.iload_n 2, 1) := by decide +kernel
theorem dX8_giveBack_6 : decode cX8_giveBack 6 = .ok (.invokevirtual 187, 3) := by decide +kernel
theorem dX8_giveBack_9 : decode cX8_giveBack 9 = .ok (.invokestatic 44, 3) := by decide +kernel
theorem dX8_giveBack_12 : decode cX8_giveBack 12 = .ok (.aload_n 0, 1) := by decide +kernel
theorem dX8_giveBack_13 : decode cX8_giveBack 13 = .ok (.getfield 22, 3) := by decide +kernel
theorem dX8_giveBack_16 : decode cX8_giveBack 16 = .ok (.aload_n 0, 1) := by decide +kernel
theorem dX8_giveBack_17 : decode cX8_giveBack 17 = .ok (.getfield 12, 3) := by decide +kernel
theorem dX8_giveBack_20 : decode cX8_giveBack 20 = .ok (.invokevirtual 48, 3) := by decide +kernel
theorem dX8_giveBack_23 : decode cX8_giveBack 23 = .ok (.aload_n 0, 1) := by decide +kernel
theorem dX8_giveBack_24 : decode cX8_giveBack 24 = .ok (.getfield 12, 3) := by decide +kernel
theorem dX8_giveBack_27 : decode cX8_giveBack 27 = .ok (.iload_n 1, 1) := by decide +kernel
theorem dX8_giveBack_28 : decode cX8_giveBack 28 = .ok (.iload_n 2, 1) := by decide +kernel
theorem dX8_giveBack_29 : decode cX8_giveBack 29 = .ok (.invokevirtual 190, 3) := by decide +kernel
theorem dX8_giveBack_32 : decode cX8_giveBack 32 = .ok (.ireturn, 1) := by decide +kernel
theorem dX8_checkOut_0 : decode cX8_checkOut 0 = .ok (.aload_n 0, 1) := by decide +kernel
theorem dX8_checkOut_1 : decode cX8_checkOut 1 = .ok (.getfield 12, 3) := by decide +kernel
theorem dX8_checkOut_4 : decode cX8_checkOut 4 = .ok (.getfield 172, 3) := by decide +kernel
theorem dX8_checkOut_7 : decode cX8_checkOut 7 = .ok (.iload_n 1, 1) := by decide +kernel
theorem dX8_checkOut_8 : decode cX8_checkOut 8 = .ok (.invokevirtual 193, 3) := by decide +kernel
theorem dX8_checkOut_11 : decode cX8_checkOut 11 = .ok (.iload_n 2, 1) := by decide +kernel
theorem dX8_checkOut_12 : decode cX8_checkOut 12 = .ok (.iconst 0, 1) := by decide +kernel
theorem dX8_checkOut_13 : decode cX8_checkOut 13 = .ok (.iconst 5, 1) := by decide +kernel
theorem dX8_checkOut_14 : decode cX8_checkOut 14 = .ok (.invokestatic 86, 3) := by decide +kernel
theorem dX8_checkOut_17 : decode cX8_checkOut 17 = .ok (.iconst 1, 1) := by decide +kernel
theorem dX8_checkOut_18 : decode cX8_checkOut 18 = .ok (.invokestatic 90, 3) := by decide +kernel
theorem dX8_checkOut_21 : decode cX8_checkOut 21 = .ok (.invokestatic 44, 3) := by decide +kernel
theorem dX8_checkOut_24 : decode cX8_checkOut 24 = .ok (.iload_n 2, 1) := by decide +kernel
theorem dX8_checkOut_25 : decode cX8_checkOut 25 = .ok (.iconst 5, 1) := by decide +kernel
theorem dX8_checkOut_26 : decode cX8_checkOut 26 = .ok (.if_icmp .ge 18, 3) := by decide +kernel
theorem dX8_checkOut_29 : decode cX8_checkOut 29 = .ok (.aload_n 0, 1) := by decide +kernel
theorem dX8_checkOut_30 : decode cX8_checkOut 30 = .ok (.getfield 12, 3) := by decide +kernel
theorem dX8_checkOut_33 : decode cX8_checkOut 33 = .ok (.getfield 172, 3) := by decide +kernel
theorem dX8_checkOut_36 : decode cX8_checkOut 36 = .ok (.iload_n 1, 1) := by decide +kernel
theorem dX8_checkOut_37 : decode cX8_checkOut 37 = .ok (.iload_n 2, 1) := by decide +kernel
theorem dX8_checkOut_38 : decode cX8_checkOut 38 = .ok (.invokevirtual 194, 3) := by decide +kernel
theorem dX8_checkOut_41 : decode cX8_checkOut 41 = .ok (.goto 11, 3) := by decide +kernel
theorem dX8_checkOut_44 : decode cX8_checkOut 44 = .ok (.aload_n 0, 1) := by decide +kernel
theorem dX8_checkOut_45 : decode cX8_checkOut 45 = .ok (.getfield 12, 3) := by decide +kernel
theorem dX8_checkOut_48 : decode cX8_checkOut 48 = .ok (.iload_n 1, 1) := by decide +kernel
theorem dX8_checkOut_49 : decode cX8_checkOut 49 = .ok (.invokevirtual 197, 3) := by decide +kernel
theorem dX8_checkOut_52 : decode cX8_checkOut 52 = .ok (.ireturn, 1) := by decide +kernel
theorem dX8_holders_0 : decode cX8_holders 0 = .ok (.aload_n 0, 1) := by decide +kernel
theorem dX8_holders_1 : decode cX8_holders 1 = .ok (.getfield 12, 3) := by decide +kernel
theorem dX8_holders_4 : decode cX8_holders 4 = .ok (.getfield 52, 3) := by decide +kernel
theorem dX8_holders_7 : decode cX8_holders 7 = .ok (.iload_n 1, 1) := by decide +kernel
theorem dX8_holders_8 : decode cX8_holders 8 = .ok (.invokevirtual 82, 3) := by decide +kernel
theorem dX8_holders_11 : decode cX8_holders 11 = .ok (.iconst 1, 1) := by decide +kernel
theorem dX8_holders_12 : decode cX8_holders 12 = .ok (.iconst 1, 1) := by decide +kernel
theorem dX8_holders_13 : decode cX8_holders 13 = .ok (.invokestatic 90, 3) := by decide +kernel
theorem dX8_holders_16 : decode cX8_holders 16 = .ok (.invokestatic 44, 3) := by decide +kernel
theorem dX8_holders_19 : decode cX8_holders 19 = .ok (.aload_n 0, 1) := by decide +kernel
theorem dX8_holders_20 : decode cX8_holders 20 = .ok (.getfield 12, 3) := by decide +kernel
theorem dX8_holders_23 : decode cX8_holders 23 = .ok (.iload_n 1, 1) := by decide +kernel
theorem dX8_holders_24 : decode cX8_holders 24 = .ok (.invokevirtual 200, 3) := by decide +kernel
theorem dX8_holders_27 : decode cX8_holders 27 = .ok (.ireturn, 1) := by decide +kernel
theorem dX8_ifBroken_0 : decode cX8_ifBroken 0 = .ok (.aload_n 0, 1) := by decide +kernel
theorem dX8_ifBroken_1 : decode cX8_ifBroken 1 = .ok (.getfield 12, 3) := by decide +kernel
theorem dX8_ifBroken_4 : decode cX8_ifBroken 4 = .ok (.iload_n 1, 1) := by decide +kernel
theorem dX8_ifBroken_5 : decode cX8_ifBroken 5 = .ok (.invokevirtual 156, 3) := by decide +kernel
theorem dX8_ifBroken_8 : decode cX8_ifBroken 8 = .ok (.invokestatic 44, 3) := by decide +kernel
theorem dX8_ifBroken_11 : decode cX8_ifBroken 11 = .ok (.aload_n 0, 1) := by decide +kernel
theorem dX8_ifBroken_12 : decode cX8_ifBroken 12 = .ok (.getfield 12, 3) := by decide +kernel
theorem dX8_ifBroken_15 : decode cX8_ifBroken 15 = .ok (.getfield 172, 3) := by decide +kernel
theorem dX8_ifBroken_18 : decode cX8_ifBroken 18 = .ok (.iload_n 1, 1) := by decide +kernel
theorem dX8_ifBroken_19 : decode cX8_ifBroken 19 = .ok (.invokevirtual 203, 3) := by decide +kernel
theorem dX8_ifBroken_22 : decode cX8_ifBroken 22 = .ok (.ifCond .ne 5, 3) := by decide +kernel
theorem dX8_ifBroken_25 : decode cX8_ifBroken 25 = .ok (.iconst 0, 1) := by decide +kernel
theorem dX8_ifBroken_26 : decode cX8_ifBroken 26 = .ok (.ireturn, 1) := by decide +kernel
theorem dX8_ifBroken_27 : decode cX8_ifBroken 27 = .ok (.aload_n 0, 1) := by decide +kernel
theorem dX8_ifBroken_28 : decode cX8_ifBroken 28 = .ok (.getfield 16, 3) := by decide +kernel
theorem dX8_ifBroken_31 : decode cX8_ifBroken 31 = .ok (.aload_n 0, 1) := by decide +kernel
theorem dX8_ifBroken_32 : decode cX8_ifBroken 32 = .ok (.getfield 12, 3) := by decide +kernel
theorem dX8_ifBroken_35 : decode cX8_ifBroken 35 = .ok (.invokevirtual 206, 3) := by decide +kernel
theorem dX8_ifBroken_38 : decode cX8_ifBroken 38 = .ok (.aload_n 0, 1) := by decide +kernel
theorem dX8_ifBroken_39 : decode cX8_ifBroken 39 = .ok (.getfield 16, 3) := by decide +kernel
theorem dX8_ifBroken_42 : decode cX8_ifBroken 42 = .ok (.getfield 172, 3) := by decide +kernel
theorem dX8_ifBroken_45 : decode cX8_ifBroken 45 = .ok (.iload_n 1, 1) := by decide +kernel
theorem dX8_ifBroken_46 : decode cX8_ifBroken 46 = .ok (.invokevirtual 209, 3) := by decide +kernel
theorem dX8_ifBroken_49 : decode cX8_ifBroken 49 = .ok (.aload_n 0, 1) := by decide +kernel
theorem dX8_ifBroken_50 : decode cX8_ifBroken 50 = .ok (.getfield 16, 3) := by decide +kernel
theorem dX8_ifBroken_53 : decode cX8_ifBroken 53 = .ok (.invokevirtual 212, 3) := by decide +kernel
theorem dX8_ifBroken_56 : decode cX8_ifBroken 56 = .ok (.ireturn, 1) := by decide +kernel
theorem dX8_grantedAt_0 : decode cX8_grantedAt 0 = .ok (.aload_n 0, 1) := by decide +kernel
theorem dX8_grantedAt_1 : decode cX8_grantedAt 1 = .ok (.getfield 12, 3) := by decide +kernel
theorem dX8_grantedAt_4 : decode cX8_grantedAt 4 = .ok (.iload_n 1, 1) := by decide +kernel
theorem dX8_grantedAt_5 : decode cX8_grantedAt 5 = .ok (.invokevirtual 138, 3) := by decide +kernel
theorem dX8_grantedAt_8 : decode cX8_grantedAt 8 = .ok (.invokestatic 44, 3) := by decide +kernel
theorem dX8_grantedAt_11 : decode cX8_grantedAt 11 = .ok (.aload_n 0, 1) := by decide +kernel
theorem dX8_grantedAt_12 : decode cX8_grantedAt 12 = .ok (.getfield 16, 3) := by decide +kernel
theorem dX8_grantedAt_15 : decode cX8_grantedAt 15 = .ok (.aload_n 0, 1) := by decide +kernel
theorem dX8_grantedAt_16 : decode cX8_grantedAt 16 = .ok (.getfield 12, 3) := by decide +kernel
theorem dX8_grantedAt_19 : decode cX8_grantedAt 19 = .ok (.invokevirtual 206, 3) := by decide +kernel
theorem dX8_grantedAt_22 : decode cX8_grantedAt 22 = .ok (.aload_n 0, 1) := by decide +kernel
theorem dX8_grantedAt_23 : decode cX8_grantedAt 23 = .ok (.getfield 16, 3) := by decide +kernel
theorem dX8_grantedAt_26 : decode cX8_grantedAt 26 = .ok (.sipush 2000, 3) := by decide +kernel
theorem dX8_grantedAt_29 : decode cX8_grantedAt 29 = .ok (.iload_n 1, 1) := by decide +kernel
theorem dX8_grantedAt_30 : decode cX8_grantedAt 30 = .ok (.invokevirtual 216, 3) := by decide +kernel
theorem dX8_grantedAt_33 : decode cX8_grantedAt 33 = .ok (.aload_n 0, 1) := by decide +kernel
theorem dX8_grantedAt_34 : decode cX8_grantedAt 34 = .ok (.getfield 16, 3) := by decide +kernel
theorem dX8_grantedAt_37 : decode cX8_grantedAt 37 = .ok (.getfield 219, 3) := by decide +kernel
theorem dX8_grantedAt_40 : decode cX8_grantedAt 40 = .ok (.iload_n 1, 1) := by decide +kernel
theorem dX8_grantedAt_41 : decode cX8_grantedAt 41 = .ok (.invokevirtual 223, 3) := by decide +kernel
theorem dX8_grantedAt_44 : decode cX8_grantedAt 44 = .ok (.iconst (-1), 1) := by decide +kernel
theorem dX8_grantedAt_45 : decode cX8_grantedAt 45 = .ok (.if_icmp .ne 13, 3) := by decide +kernel
theorem dX8_grantedAt_48 : decode cX8_grantedAt 48 = .ok (.aload_n 0, 1) := by decide +kernel
theorem dX8_grantedAt_49 : decode cX8_grantedAt 49 = .ok (.getfield 16, 3) := by decide +kernel
theorem dX8_grantedAt_52 : decode cX8_grantedAt 52 = .ok (.getfield 228, 3) := by decide +kernel
theorem dX8_grantedAt_55 : decode cX8_grantedAt 55 = .ok (.goto 4, 3) := by decide +kernel
theorem dX8_grantedAt_58 : decode cX8_grantedAt 58 = .ok (.iconst (-1), 1) := by decide +kernel
theorem dX8_grantedAt_59 : decode cX8_grantedAt 59 = .ok (.ireturn, 1) := by decide +kernel
theorem dX8_waitsFor_0 : decode cX8_waitsFor 0 = .ok (.aload_n 0, 1) := by decide +kernel
theorem dX8_waitsFor_1 : decode cX8_waitsFor 1 = .ok (.getfield 12, 3) := by decide +kernel
theorem dX8_waitsFor_4 : decode cX8_waitsFor 4 = .ok (.iload_n 1, 1) := by decide +kernel
theorem dX8_waitsFor_5 : decode cX8_waitsFor 5 = .ok (.invokevirtual 138, 3) := by decide +kernel
theorem dX8_waitsFor_8 : decode cX8_waitsFor 8 = .ok (.invokestatic 44, 3) := by decide +kernel
theorem dX8_waitsFor_11 : decode cX8_waitsFor 11 = .ok (.aload_n 0, 1) := by decide +kernel
theorem dX8_waitsFor_12 : decode cX8_waitsFor 12 = .ok (.getfield 12, 3) := by decide +kernel
theorem dX8_waitsFor_15 : decode cX8_waitsFor 15 = .ok (.aload_n 0, 1) := by decide +kernel
theorem dX8_waitsFor_16 : decode cX8_waitsFor 16 = .ok (.getfield 12, 3) := by decide +kernel
theorem dX8_waitsFor_19 : decode cX8_waitsFor 19 = .ok (.getfield 219, 3) := by decide +kernel
theorem dX8_waitsFor_22 : decode cX8_waitsFor 22 = .ok (.iload_n 1, 1) := by decide +kernel
theorem dX8_waitsFor_23 : decode cX8_waitsFor 23 = .ok (.invokevirtual 223, 3) := by decide +kernel
theorem dX8_waitsFor_26 : decode cX8_waitsFor 26 = .ok (.invokevirtual 231, 3) := by decide +kernel
theorem dX8_waitsFor_29 : decode cX8_waitsFor 29 = .ok (.ireturn, 1) := by decide +kernel
theorem dX8_entries_0 : decode cX8_entries 0 = .ok (.aload_n 0, 1) := by decide +kernel
theorem dX8_entries_1 : decode cX8_entries 1 = .ok (.getfield 12, 3) := by decide +kernel
theorem dX8_entries_4 : decode cX8_entries 4 = .ok (.getfield 234, 3) := by decide +kernel
theorem dX8_entries_7 : decode cX8_entries 7 = .ok (.getfield 238, 3) := by decide +kernel
theorem dX8_entries_10 : decode cX8_entries 10 = .ok (.ireturn, 1) := by decide +kernel
theorem dX8_entry_0 : decode cX8_entry 0 = .ok (.iload_n 1, 1) := by decide +kernel
theorem dX8_entry_1 : decode cX8_entry 1 = .ok (.iconst 0, 1) := by decide +kernel
theorem dX8_entry_2 : decode cX8_entry 2 = .ok (.aload_n 0, 1) := by decide +kernel
theorem dX8_entry_3 : decode cX8_entry 3 = .ok (.getfield 12, 3) := by decide +kernel
theorem dX8_entry_6 : decode cX8_entry 6 = .ok (.getfield 234, 3) := by decide +kernel
theorem dX8_entry_9 : decode cX8_entry 9 = .ok (.getfield 238, 3) := by decide +kernel
theorem dX8_entry_12 : decode cX8_entry 12 = .ok (.iconst 1, 1) := by decide +kernel
theorem dX8_entry_13 : decode cX8_entry 13 = .ok (.isub, 1) := by decide +kernel
theorem dX8_entry_14 : decode cX8_entry 14 = .ok (.invokestatic 86, 3) := by decide +kernel
theorem dX8_entry_17 : decode cX8_entry 17 = .ok (.istore_n 3, 1) := by decide +kernel
theorem dX8_entry_18 : decode cX8_entry 18 = .ok (.iload_n 3, 1) := by decide +kernel
theorem dX8_entry_19 : decode cX8_entry 19 = .ok (.iload_n 2, 1) := by decide +kernel
theorem dX8_entry_20 : decode cX8_entry 20 = .ok (.iconst 0, 1) := by decide +kernel
theorem dX8_entry_21 : decode cX8_entry 21 = .ok (.iconst 5, 1) := by decide +kernel
theorem dX8_entry_22 : decode cX8_entry 22 = .ok (.invokestatic 86, 3) := by decide +kernel
theorem dX8_entry_25 : decode cX8_entry 25 = .ok (.iconst 1, 1) := by decide +kernel
theorem dX8_entry_26 : decode cX8_entry 26 = .ok (.invokestatic 90, 3) := by decide +kernel
theorem dX8_entry_29 : decode cX8_entry 29 = .ok (.invokestatic 44, 3) := by decide +kernel
theorem dX8_entry_32 : decode cX8_entry 32 = .ok (.aload_n 0, 1) := by decide +kernel
theorem dX8_entry_33 : decode cX8_entry 33 = .ok (.getfield 12, 3) := by decide +kernel
theorem dX8_entry_36 : decode cX8_entry 36 = .ok (.getfield 234, 3) := by decide +kernel
theorem dX8_entry_39 : decode cX8_entry 39 = .ok (.iload_n 1, 1) := by decide +kernel
theorem dX8_entry_40 : decode cX8_entry 40 = .ok (.iload_n 2, 1) := by decide +kernel
theorem dX8_entry_41 : decode cX8_entry 41 = .ok (.invokevirtual 243, 3) := by decide +kernel
theorem dX8_entry_44 : decode cX8_entry 44 = .ok (.ireturn, 1) := by decide +kernel
theorem dX8_blame_0 : decode cX8_blame 0 = .ok (.aload_n 0, 1) := by decide +kernel
theorem dX8_blame_1 : decode cX8_blame 1 = .ok (.getfield 12, 3) := by decide +kernel
theorem dX8_blame_4 : decode cX8_blame 4 = .ok (.iload_n 1, 1) := by decide +kernel
theorem dX8_blame_5 : decode cX8_blame 5 = .ok (.iload_n 2, 1) := by decide +kernel
theorem dX8_blame_6 : decode cX8_blame 6 = .ok (.invokevirtual 114, 3) := by decide +kernel
theorem dX8_blame_9 : decode cX8_blame 9 = .ok (.iconst 1, 1) := by decide +kernel
theorem dX8_blame_10 : decode cX8_blame 10 = .ok (.iconst 1, 1) := by decide +kernel
theorem dX8_blame_11 : decode cX8_blame 11 = .ok (.invokestatic 90, 3) := by decide +kernel
theorem dX8_blame_14 : decode cX8_blame 14 = .ok (.invokestatic 44, 3) := by decide +kernel
theorem dX8_blame_17 : decode cX8_blame 17 = .ok (.aload_n 0, 1) := by decide +kernel
theorem dX8_blame_18 : decode cX8_blame 18 = .ok (.getfield 12, 3) := by decide +kernel
theorem dX8_blame_21 : decode cX8_blame 21 = .ok (.getfield 234, 3) := by decide +kernel
theorem dX8_blame_24 : decode cX8_blame 24 = .ok (.iload_n 1, 1) := by decide +kernel
theorem dX8_blame_25 : decode cX8_blame 25 = .ok (.iload_n 2, 1) := by decide +kernel
theorem dX8_blame_26 : decode cX8_blame 26 = .ok (.invokevirtual 244, 3) := by decide +kernel
theorem dX8_blame_29 : decode cX8_blame 29 = .ok (.ireturn, 1) := by decide +kernel
theorem dX8_lineAt_0 : decode cX8_lineAt 0 = .ok (.aload_n 0, 1) := by decide +kernel
theorem dX8_lineAt_1 : decode cX8_lineAt 1 = .ok (.getfield 12, 3) := by decide +kernel
theorem dX8_lineAt_4 : decode cX8_lineAt 4 = .ok (.iload_n 1, 1) := by decide +kernel
theorem dX8_lineAt_5 : decode cX8_lineAt 5 = .ok (.iload_n 2, 1) := by decide +kernel
theorem dX8_lineAt_6 : decode cX8_lineAt 6 = .ok (.invokevirtual 114, 3) := by decide +kernel
theorem dX8_lineAt_9 : decode cX8_lineAt 9 = .ok (.iload_n 3, 1) := by decide +kernel
theorem dX8_lineAt_10 : decode cX8_lineAt 10 = .ok (.iconst 0, 1) := by decide +kernel
theorem dX8_lineAt_11 : decode cX8_lineAt 11 = .ok (.aload_n 0, 1) := by decide +kernel
theorem dX8_lineAt_12 : decode cX8_lineAt 12 = .ok (.getfield 12, 3) := by decide +kernel
theorem dX8_lineAt_15 : decode cX8_lineAt 15 = .ok (.getfield 228, 3) := by decide +kernel
theorem dX8_lineAt_18 : decode cX8_lineAt 18 = .ok (.invokestatic 86, 3) := by decide +kernel
theorem dX8_lineAt_21 : decode cX8_lineAt 21 = .ok (.iconst 1, 1) := by decide +kernel
theorem dX8_lineAt_22 : decode cX8_lineAt 22 = .ok (.invokestatic 90, 3) := by decide +kernel
theorem dX8_lineAt_25 : decode cX8_lineAt 25 = .ok (.invokestatic 44, 3) := by decide +kernel
theorem dX8_lineAt_28 : decode cX8_lineAt 28 = .ok (.aload_n 0, 1) := by decide +kernel
theorem dX8_lineAt_29 : decode cX8_lineAt 29 = .ok (.getfield 12, 3) := by decide +kernel
theorem dX8_lineAt_32 : decode cX8_lineAt 32 = .ok (.iload_n 3, 1) := by decide +kernel
theorem dX8_lineAt_33 : decode cX8_lineAt 33 = .ok (.iload_n 1, 1) := by decide +kernel
theorem dX8_lineAt_34 : decode cX8_lineAt 34 = .ok (.iload_n 2, 1) := by decide +kernel
theorem dX8_lineAt_35 : decode cX8_lineAt 35 = .ok (.invokestatic 118, 3) := by decide +kernel
theorem dX8_lineAt_38 : decode cX8_lineAt 38 = .ok (.invokevirtual 247, 3) := by decide +kernel
theorem dX8_lineAt_41 : decode cX8_lineAt 41 = .ok (.ireturn, 1) := by decide +kernel
theorem dX8_revert_0 : decode cX8_revert 0 = .ok (.aload_n 0, 1) := by decide +kernel
theorem dX8_revert_1 : decode cX8_revert 1 = .ok (.getfield 12, 3) := by decide +kernel
theorem dX8_revert_4 : decode cX8_revert 4 = .ok (.iload_n 1, 1) := by decide +kernel
theorem dX8_revert_5 : decode cX8_revert 5 = .ok (.iload_n 2, 1) := by decide +kernel
theorem dX8_revert_6 : decode cX8_revert 6 = .ok (.invokevirtual 250, 3) := by decide +kernel
theorem dX8_revert_9 : decode cX8_revert 9 = .ok (.invokestatic 44, 3) := by decide +kernel
theorem dX8_revert_12 : decode cX8_revert 12 = .ok (.aload_n 0, 1) := by decide +kernel
theorem dX8_revert_13 : decode cX8_revert 13 = .ok (.getfield 22, 3) := by decide +kernel
theorem dX8_revert_16 : decode cX8_revert 16 = .ok (.aload_n 0, 1) := by decide +kernel
theorem dX8_revert_17 : decode cX8_revert 17 = .ok (.getfield 12, 3) := by decide +kernel
theorem dX8_revert_20 : decode cX8_revert 20 = .ok (.invokevirtual 48, 3) := by decide +kernel
theorem dX8_revert_23 : decode cX8_revert 23 = .ok (.aload_n 0, 1) := by decide +kernel
theorem dX8_revert_24 : decode cX8_revert 24 = .ok (.getfield 12, 3) := by decide +kernel
theorem dX8_revert_27 : decode cX8_revert 27 = .ok (.iload_n 1, 1) := by decide +kernel
theorem dX8_revert_28 : decode cX8_revert 28 = .ok (.iload_n 2, 1) := by decide +kernel
theorem dX8_revert_29 : decode cX8_revert 29 = .ok (.invokevirtual 253, 3) := by decide +kernel
theorem dX8_revert_32 : decode cX8_revert 32 = .ok (.ireturn, 1) := by decide +kernel
theorem dX8_waiting_0 : decode cX8_waiting 0 = .ok (.aload_n 0, 1) := by decide +kernel
theorem dX8_waiting_1 : decode cX8_waiting 1 = .ok (.getfield 12, 3) := by decide +kernel
theorem dX8_waiting_4 : decode cX8_waiting 4 = .ok (.getfield 219, 3) := by decide +kernel
theorem dX8_waiting_7 : decode cX8_waiting 7 = .ok (.getfield 256, 3) := by decide +kernel
theorem dX8_waiting_10 : decode cX8_waiting 10 = .ok (.ireturn, 1) := by decide +kernel
theorem dX8_waitingAt_0 : decode cX8_waitingAt 0 = .ok (.iload_n 1, 1) := by decide +kernel
theorem dX8_waitingAt_1 : decode cX8_waitingAt 1 = .ok (.iconst 0, 1) := by decide +kernel
theorem dX8_waitingAt_2 : decode cX8_waitingAt 2 = .ok (.aload_n 0, 1) := by decide +kernel
theorem dX8_waitingAt_3 : decode cX8_waitingAt 3 = .ok (.getfield 12, 3) := by decide +kernel
theorem dX8_waitingAt_6 : decode cX8_waitingAt 6 = .ok (.getfield 219, 3) := by decide +kernel
theorem dX8_waitingAt_9 : decode cX8_waitingAt 9 = .ok (.getfield 256, 3) := by decide +kernel
theorem dX8_waitingAt_12 : decode cX8_waitingAt 12 = .ok (.iconst 1, 1) := by decide +kernel
theorem dX8_waitingAt_13 : decode cX8_waitingAt 13 = .ok (.isub, 1) := by decide +kernel
theorem dX8_waitingAt_14 : decode cX8_waitingAt 14 = .ok (.invokestatic 86, 3) := by decide +kernel
theorem dX8_waitingAt_17 : decode cX8_waitingAt 17 = .ok (.istore_n 3, 1) := by decide +kernel
theorem dX8_waitingAt_18 : decode cX8_waitingAt 18 = .ok (.iload_n 3, 1) := by decide +kernel
theorem dX8_waitingAt_19 : decode cX8_waitingAt 19 = .ok (.iload_n 2, 1) := by decide +kernel
theorem dX8_waitingAt_20 : decode cX8_waitingAt 20 = .ok (.iconst 0, 1) := by decide +kernel
theorem dX8_waitingAt_21 : decode cX8_waitingAt 21 = .ok (.iconst 3, 1) := by decide +kernel
theorem dX8_waitingAt_22 : decode cX8_waitingAt 22 = .ok (.invokestatic 86, 3) := by decide +kernel
theorem dX8_waitingAt_25 : decode cX8_waitingAt 25 = .ok (.iconst 1, 1) := by decide +kernel
theorem dX8_waitingAt_26 : decode cX8_waitingAt 26 = .ok (.invokestatic 90, 3) := by decide +kernel
theorem dX8_waitingAt_29 : decode cX8_waitingAt 29 = .ok (.invokestatic 44, 3) := by decide +kernel
theorem dX8_waitingAt_32 : decode cX8_waitingAt 32 = .ok (.aload_n 0, 1) := by decide +kernel
theorem dX8_waitingAt_33 : decode cX8_waitingAt 33 = .ok (.getfield 12, 3) := by decide +kernel
theorem dX8_waitingAt_36 : decode cX8_waitingAt 36 = .ok (.getfield 219, 3) := by decide +kernel
theorem dX8_waitingAt_39 : decode cX8_waitingAt 39 = .ok (.iload_n 1, 1) := by decide +kernel
theorem dX8_waitingAt_40 : decode cX8_waitingAt 40 = .ok (.iload_n 2, 1) := by decide +kernel
theorem dX8_waitingAt_41 : decode cX8_waitingAt 41 = .ok (.invokevirtual 257, 3) := by decide +kernel
theorem dX8_waitingAt_44 : decode cX8_waitingAt 44 = .ok (.ireturn, 1) := by decide +kernel
theorem dX8_pass_0 : decode cX8_pass 0 = .ok (.aload_n 0, 1) := by decide +kernel
theorem dX8_pass_1 : decode cX8_pass 1 = .ok (.getfield 12, 3) := by decide +kernel
theorem dX8_pass_4 : decode cX8_pass 4 = .ok (.iload_n 1, 1) := by decide +kernel
theorem dX8_pass_5 : decode cX8_pass 5 = .ok (.invokevirtual 258, 3) := by decide +kernel
theorem dX8_pass_8 : decode cX8_pass 8 = .ok (.invokestatic 44, 3) := by decide +kernel
theorem dX8_pass_11 : decode cX8_pass 11 = .ok (.aload_n 0, 1) := by decide +kernel
theorem dX8_pass_12 : decode cX8_pass 12 = .ok (.getfield 22, 3) := by decide +kernel
theorem dX8_pass_15 : decode cX8_pass 15 = .ok (.aload_n 0, 1) := by decide +kernel
theorem dX8_pass_16 : decode cX8_pass 16 = .ok (.getfield 12, 3) := by decide +kernel
theorem dX8_pass_19 : decode cX8_pass 19 = .ok (.invokevirtual 48, 3) := by decide +kernel
theorem dX8_pass_22 : decode cX8_pass 22 = .ok (.aload_n 0, 1) := by decide +kernel
theorem dX8_pass_23 : decode cX8_pass 23 = .ok (.getfield 12, 3) := by decide +kernel
theorem dX8_pass_26 : decode cX8_pass 26 = .ok (.iload_n 1, 1) := by decide +kernel
theorem dX8_pass_27 : decode cX8_pass 27 = .ok (.iconst (-1), 1) := by decide +kernel
theorem dX8_pass_28 : decode cX8_pass 28 = .ok (.invokevirtual 216, 3) := by decide +kernel
theorem dX8_pass_31 : decode cX8_pass 31 = .ok (.aload_n 0, 1) := by decide +kernel
theorem dX8_pass_32 : decode cX8_pass 32 = .ok (.getfield 12, 3) := by decide +kernel
theorem dX8_pass_35 : decode cX8_pass 35 = .ok (.getfield 228, 3) := by decide +kernel
theorem dX8_pass_38 : decode cX8_pass 38 = .ok (.ireturn, 1) := by decide +kernel
theorem dX8_useBits_0 : decode cX8_useBits 0 = .ok (.iload_n 1, 1) := by decide +kernel
theorem dX8_useBits_1 : decode cX8_useBits 1 = .ok (.invokestatic 261, 3) := by decide +kernel
theorem dX8_useBits_4 : decode cX8_useBits 4 = .ok (.iconst 1, 1) := by decide +kernel
theorem dX8_useBits_5 : decode cX8_useBits 5 = .ok (.iconst 1, 1) := by decide +kernel
theorem dX8_useBits_6 : decode cX8_useBits 6 = .ok (.invokestatic 90, 3) := by decide +kernel
theorem dX8_useBits_9 : decode cX8_useBits 9 = .ok (.invokestatic 44, 3) := by decide +kernel
theorem dX8_useBits_12 : decode cX8_useBits 12 = .ok (.aload_n 0, 1) := by decide +kernel
theorem dX8_useBits_13 : decode cX8_useBits 13 = .ok (.getfield 12, 3) := by decide +kernel
theorem dX8_useBits_16 : decode cX8_useBits 16 = .ok (.getfield 228, 3) := by decide +kernel
theorem dX8_useBits_19 : decode cX8_useBits 19 = .ok (.ifCond .ne 5, 3) := by decide +kernel
theorem dX8_useBits_22 : decode cX8_useBits 22 = .ok (.iconst 0, 1) := by decide +kernel
theorem dX8_useBits_23 : decode cX8_useBits 23 = .ok (.ireturn, 1) := by decide +kernel
theorem dX8_useBits_24 : decode cX8_useBits 24 = .ok (.aload_n 0, 1) := by decide +kernel
theorem dX8_useBits_25 : decode cX8_useBits 25 = .ok (.getfield 12, 3) := by decide +kernel
theorem dX8_useBits_28 : decode cX8_useBits 28 = .ok (.iload_n 1, 1) := by decide +kernel
theorem dX8_useBits_29 : decode cX8_useBits 29 = .ok (.invokevirtual 264, 3) := by decide +kernel
theorem dX8_useBits_32 : decode cX8_useBits 32 = .ok (.i2f, 1) := by decide +kernel
theorem dX8_useBits_33 : decode cX8_useBits 33 = .ok (.aload_n 0, 1) := by decide +kernel
theorem dX8_useBits_34 : decode cX8_useBits 34 = .ok (.getfield 12, 3) := by decide +kernel
theorem dX8_useBits_37 : decode cX8_useBits 37 = .ok (.getfield 228, 3) := by decide +kernel
theorem dX8_useBits_40 : decode cX8_useBits 40 = .ok (.i2f, 1) := by decide +kernel
theorem dX8_useBits_41 : decode cX8_useBits 41 = .ok (.fdiv, 1) := by decide +kernel
theorem dX8_useBits_42 : decode cX8_useBits 42 = .ok (.invokestatic 267, 3) := by decide +kernel
theorem dX8_useBits_45 : decode cX8_useBits 45 = .ok (.ireturn, 1) := by decide +kernel
theorem dX8_append_0 : decode cX8_append 0 = .ok (.iconst 1, 1) := by decide +kernel
theorem dX8_append_1 : decode cX8_append 1 = .ok (.iload_n 1, 1) := by decide +kernel
theorem dX8_append_2 : decode cX8_append 2 = .ok (.iconst 0, 1) := by decide +kernel
theorem dX8_append_3 : decode cX8_append 3 = .ok (.bipush 127, 2) := by decide +kernel
theorem dX8_append_5 : decode cX8_append 5 = .ok (.invokestatic 86, 3) := by decide +kernel
theorem dX8_append_8 : decode cX8_append 8 = .ok (.aload_n 0, 1) := by decide +kernel
theorem dX8_append_9 : decode cX8_append 9 = .ok (.getfield 29, 3) := by decide +kernel
theorem dX8_append_12 : decode cX8_append 12 = .ok (.getfield 271, 3) := by decide +kernel
theorem dX8_append_15 : decode cX8_append 15 = .ok (.bipush 120, 2) := by decide +kernel
theorem dX8_append_17 : decode cX8_append 17 = .ok (.if_icmp .ge 7, 3) := by decide +kernel
theorem dX8_append_20 : decode cX8_append 20 = .ok (.iconst 1, 1) := by decide +kernel
theorem dX8_append_21 : decode cX8_append 21 = .ok (.goto 4, 3) := by decide +kernel
theorem dX8_append_24 : decode cX8_append 24 = .ok (.iconst 0, 1) := by decide +kernel
theorem dX8_append_25 : decode cX8_append 25 = .ok (.invokestatic 90, 3) := by decide +kernel
theorem dX8_append_28 : decode cX8_append 28 = .ok (.invokestatic 44, 3) := by decide +kernel
theorem dX8_append_31 : decode cX8_append 31 = .ok (.aload_n 0, 1) := by decide +kernel
theorem dX8_append_32 : decode cX8_append 32 = .ok (.getfield 29, 3) := by decide +kernel
theorem dX8_append_35 : decode cX8_append 35 = .ok (.iload_n 1, 1) := by decide +kernel
theorem dX8_append_36 : decode cX8_append 36 = .ok (.invokevirtual 274, 3) := by decide +kernel
theorem dX8_append_39 : decode cX8_append 39 = .ok (.ireturn, 1) := by decide +kernel
theorem dX8_clearText_0 : decode cX8_clearText 0 = .ok (.aload_n 0, 1) := by decide +kernel
theorem dX8_clearText_1 : decode cX8_clearText 1 = .ok (.getfield 29, 3) := by decide +kernel
theorem dX8_clearText_4 : decode cX8_clearText 4 = .ok (.getfield 271, 3) := by decide +kernel
theorem dX8_clearText_7 : decode cX8_clearText 7 = .ok (.istore_n 1, 1) := by decide +kernel
theorem dX8_clearText_8 : decode cX8_clearText 8 = .ok (.aload_n 0, 1) := by decide +kernel
theorem dX8_clearText_9 : decode cX8_clearText 9 = .ok (.getfield 29, 3) := by decide +kernel
theorem dX8_clearText_12 : decode cX8_clearText 12 = .ok (.iconst 0, 1) := by decide +kernel
theorem dX8_clearText_13 : decode cX8_clearText 13 = .ok (.putfield 271, 3) := by decide +kernel
theorem dX8_clearText_16 : decode cX8_clearText 16 = .ok (.iload_n 1, 1) := by decide +kernel
theorem dX8_clearText_17 : decode cX8_clearText 17 = .ok (.ireturn, 1) := by decide +kernel
theorem dX8_carryOut_0 : decode cX8_carryOut 0 = .ok (.aload_n 0, 1) := by decide +kernel
theorem dX8_carryOut_1 : decode cX8_carryOut 1 = .ok (.getfield 29, 3) := by decide +kernel
theorem dX8_carryOut_4 : decode cX8_carryOut 4 = .ok (.invokevirtual 277, 3) := by decide +kernel
theorem dX8_carryOut_7 : decode cX8_carryOut 7 = .ok (.istore_n 1, 1) := by decide +kernel
theorem dX8_carryOut_8 : decode cX8_carryOut 8 = .ok (.iload_n 1, 1) := by decide +kernel
theorem dX8_carryOut_9 : decode cX8_carryOut 9 = .ok (.iconst (-1), 1) := by decide +kernel
theorem dX8_carryOut_10 : decode cX8_carryOut 10 = .ok (.if_icmp .eq 8, 3) := by decide +kernel
theorem dX8_carryOut_13 : decode cX8_carryOut 13 = .ok (.bipush (-10), 2) := by decide +kernel
theorem dX8_carryOut_15 : decode cX8_carryOut 15 = .ok (.iload_n 1, 1) := by decide +kernel
theorem dX8_carryOut_16 : decode cX8_carryOut 16 = .ok (.isub, 1) := by decide +kernel
theorem dX8_carryOut_17 : decode cX8_carryOut 17 = .ok (.ireturn, 1) := by decide +kernel
theorem dX8_carryOut_18 : decode cX8_carryOut 18 = .ok (.aload_n 0, 1) := by decide +kernel
theorem dX8_carryOut_19 : decode cX8_carryOut 19 = .ok (.getfield 16, 3) := by decide +kernel
theorem dX8_carryOut_22 : decode cX8_carryOut 22 = .ok (.aload_n 0, 1) := by decide +kernel
theorem dX8_carryOut_23 : decode cX8_carryOut 23 = .ok (.getfield 12, 3) := by decide +kernel
theorem dX8_carryOut_26 : decode cX8_carryOut 26 = .ok (.invokevirtual 206, 3) := by decide +kernel
theorem dX8_carryOut_29 : decode cX8_carryOut 29 = .ok (.iconst 0, 1) := by decide +kernel
theorem dX8_carryOut_30 : decode cX8_carryOut 30 = .ok (.istore_n 2, 1) := by decide +kernel
theorem dX8_carryOut_31 : decode cX8_carryOut 31 = .ok (.iload_n 2, 1) := by decide +kernel
theorem dX8_carryOut_32 : decode cX8_carryOut 32 = .ok (.aload_n 0, 1) := by decide +kernel
theorem dX8_carryOut_33 : decode cX8_carryOut 33 = .ok (.getfield 29, 3) := by decide +kernel
theorem dX8_carryOut_36 : decode cX8_carryOut 36 = .ok (.getfield 280, 3) := by decide +kernel
theorem dX8_carryOut_39 : decode cX8_carryOut 39 = .ok (.if_icmp .ge 23, 3) := by decide +kernel
theorem dX8_carryOut_42 : decode cX8_carryOut 42 = .ok (.aload_n 0, 1) := by decide +kernel
theorem dX8_carryOut_43 : decode cX8_carryOut 43 = .ok (.iload_n 2, 1) := by decide +kernel
theorem dX8_carryOut_44 : decode cX8_carryOut 44 = .ok (.invokevirtual 283, 3) := by decide +kernel
theorem dX8_carryOut_47 : decode cX8_carryOut 47 = .ok (.ifCond .ne 9, 3) := by decide +kernel
theorem dX8_carryOut_50 : decode cX8_carryOut 50 = .ok (.sipush (-1000), 3) := by decide +kernel
theorem dX8_carryOut_53 : decode cX8_carryOut 53 = .ok (.iload_n 2, 1) := by decide +kernel
theorem dX8_carryOut_54 : decode cX8_carryOut 54 = .ok (.isub, 1) := by decide +kernel
theorem dX8_carryOut_55 : decode cX8_carryOut 55 = .ok (.ireturn, 1) := by decide +kernel
theorem dX8_carryOut_56 : decode cX8_carryOut 56 = .ok (.iinc 2 1, 3) := by decide +kernel
theorem dX8_carryOut_59 : decode cX8_carryOut 59 = .ok (.goto (-28), 3) := by decide +kernel
theorem dX8_carryOut_62 : decode cX8_carryOut 62 = .ok (.aload_n 0, 1) := by decide +kernel
theorem dX8_carryOut_63 : decode cX8_carryOut 63 = .ok (.getfield 22, 3) := by decide +kernel
theorem dX8_carryOut_66 : decode cX8_carryOut 66 = .ok (.aload_n 0, 1) := by decide +kernel
theorem dX8_carryOut_67 : decode cX8_carryOut 67 = .ok (.getfield 12, 3) := by decide +kernel
theorem dX8_carryOut_70 : decode cX8_carryOut 70 = .ok (.invokevirtual 48, 3) := by decide +kernel
theorem dX8_carryOut_73 : decode cX8_carryOut 73 = .ok (.aload_n 0, 1) := by decide +kernel
theorem dX8_carryOut_74 : decode cX8_carryOut 74 = .ok (.getfield 12, 3) := by decide +kernel
theorem dX8_carryOut_77 : decode cX8_carryOut 77 = .ok (.aload_n 0, 1) := by decide +kernel
theorem dX8_carryOut_78 : decode cX8_carryOut 78 = .ok (.getfield 16, 3) := by decide +kernel
theorem dX8_carryOut_81 : decode cX8_carryOut 81 = .ok (.invokevirtual 206, 3) := by decide +kernel
theorem dX8_carryOut_84 : decode cX8_carryOut 84 = .ok (.aload_n 0, 1) := by decide +kernel
theorem dX8_carryOut_85 : decode cX8_carryOut 85 = .ok (.getfield 29, 3) := by decide +kernel
theorem dX8_carryOut_88 : decode cX8_carryOut 88 = .ok (.getfield 280, 3) := by decide +kernel
theorem dX8_carryOut_91 : decode cX8_carryOut 91 = .ok (.ireturn, 1) := by decide +kernel
theorem dX8_outline_0 : decode cX8_outline 0 = .ok (.iconst 1, 1) := by decide +kernel
theorem dX8_outline_1 : decode cX8_outline 1 = .ok (.iload_n 1, 1) := by decide +kernel
theorem dX8_outline_2 : decode cX8_outline 2 = .ok (.ifCond .lt 7, 3) := by decide +kernel
theorem dX8_outline_5 : decode cX8_outline 5 = .ok (.iconst 1, 1) := by decide +kernel
theorem dX8_outline_6 : decode cX8_outline 6 = .ok (.goto 4, 3) := by decide +kernel
theorem dX8_outline_9 : decode cX8_outline 9 = .ok (.iconst 0, 1) := by decide +kernel
theorem dX8_outline_10 : decode cX8_outline 10 = .ok (.iconst 1, 1) := by decide +kernel
theorem dX8_outline_11 : decode cX8_outline 11 = .ok (.invokestatic 90, 3) := by decide +kernel
theorem dX8_outline_14 : decode cX8_outline 14 = .ok (.invokestatic 44, 3) := by decide +kernel
theorem dX8_outline_17 : decode cX8_outline 17 = .ok (.aload_n 0, 1) := by decide +kernel
theorem dX8_outline_18 : decode cX8_outline 18 = .ok (.getfield 36, 3) := by decide +kernel
theorem dX8_outline_21 : decode cX8_outline 21 = .ok (.iconst 0, 1) := by decide +kernel
theorem dX8_outline_22 : decode cX8_outline 22 = .ok (.putfield 286, 3) := by decide +kernel
theorem dX8_outline_25 : decode cX8_outline 25 = .ok (.aload_n 0, 1) := by decide +kernel
theorem dX8_outline_26 : decode cX8_outline 26 = .ok (.getfield 36, 3) := by decide +kernel
theorem dX8_outline_29 : decode cX8_outline 29 = .ok (.aload_n 0, 1) := by decide +kernel
theorem dX8_outline_30 : decode cX8_outline 30 = .ok (.getfield 12, 3) := by decide +kernel
theorem dX8_outline_33 : decode cX8_outline 33 = .ok (.getfield 52, 3) := by decide +kernel
theorem dX8_outline_36 : decode cX8_outline 36 = .ok (.iconst 0, 1) := by decide +kernel
theorem dX8_outline_37 : decode cX8_outline 37 = .ok (.iconst 0, 1) := by decide +kernel
theorem dX8_outline_38 : decode cX8_outline 38 = .ok (.invokestatic 287, 3) := by decide +kernel
theorem dX8_outline_41 : decode cX8_outline 41 = .ok (.aload_n 0, 1) := by decide +kernel
theorem dX8_outline_42 : decode cX8_outline 42 = .ok (.getfield 36, 3) := by decide +kernel
theorem dX8_outline_45 : decode cX8_outline 45 = .ok (.iload_n 1, 1) := by decide +kernel
theorem dX8_outline_46 : decode cX8_outline 46 = .ok (.invokevirtual 291, 3) := by decide +kernel
theorem dX8_outline_49 : decode cX8_outline 49 = .ok (.ireturn, 1) := by decide +kernel
theorem dX8_undo_0 : decode cX8_undo 0 = .ok (.iconst 1, 1) := by decide +kernel
theorem dX8_undo_1 : decode cX8_undo 1 = .ok (.iconst 1, 1) := by decide +kernel
theorem dX8_undo_2 : decode cX8_undo 2 = .ok (.aload_n 0, 1) := by decide +kernel
theorem dX8_undo_3 : decode cX8_undo 3 = .ok (.getfield 22, 3) := by decide +kernel
theorem dX8_undo_6 : decode cX8_undo 6 = .ok (.getfield 294, 3) := by decide +kernel
theorem dX8_undo_9 : decode cX8_undo 9 = .ok (.ifCond .le 7, 3) := by decide +kernel
theorem dX8_undo_12 : decode cX8_undo 12 = .ok (.iconst 1, 1) := by decide +kernel
theorem dX8_undo_13 : decode cX8_undo 13 = .ok (.goto 4, 3) := by decide +kernel
theorem dX8_undo_16 : decode cX8_undo 16 = .ok (.iconst 0, 1) := by decide +kernel
theorem dX8_undo_17 : decode cX8_undo 17 = .ok (.invokestatic 90, 3) := by decide +kernel
theorem dX8_undo_20 : decode cX8_undo 20 = .ok (.invokestatic 44, 3) := by decide +kernel
theorem dX8_undo_23 : decode cX8_undo 23 = .ok (.aload_n 0, 1) := by decide +kernel
theorem dX8_undo_24 : decode cX8_undo 24 = .ok (.getfield 22, 3) := by decide +kernel
theorem dX8_undo_27 : decode cX8_undo 27 = .ok (.aload_n 0, 1) := by decide +kernel
theorem dX8_undo_28 : decode cX8_undo 28 = .ok (.getfield 12, 3) := by decide +kernel
theorem dX8_undo_31 : decode cX8_undo 31 = .ok (.invokevirtual 295, 3) := by decide +kernel
theorem dX8_undo_34 : decode cX8_undo 34 = .ok (.aload_n 0, 1) := by decide +kernel
theorem dX8_undo_35 : decode cX8_undo 35 = .ok (.getfield 22, 3) := by decide +kernel
theorem dX8_undo_38 : decode cX8_undo 38 = .ok (.getfield 294, 3) := by decide +kernel
theorem dX8_undo_41 : decode cX8_undo 41 = .ok (.ireturn, 1) := by decide +kernel
theorem dX8_runOrder_0 : decode cX8_runOrder 0 = .ok (.aload_n 0, 1) := by decide +kernel
theorem dX8_runOrder_1 : decode cX8_runOrder 1 = .ok (.getfield 29, 3) := by decide +kernel
theorem dX8_runOrder_4 : decode cX8_runOrder 4 = .ok (.iload_n 1, 1) := by decide +kernel
theorem dX8_runOrder_5 : decode cX8_runOrder 5 = .ok (.iconst 0, 1) := by decide +kernel
theorem dX8_runOrder_6 : decode cX8_runOrder 6 = .ok (.invokevirtual 308, 3) := by decide +kernel
theorem dX8_runOrder_9 : decode cX8_runOrder 9 = .ok (.istore_n 2, 1) := by decide +kernel
theorem dX8_runOrder_10 : decode cX8_runOrder 10 = .ok (.aload_n 0, 1) := by decide +kernel
theorem dX8_runOrder_11 : decode cX8_runOrder 11 = .ok (.getfield 29, 3) := by decide +kernel
theorem dX8_runOrder_14 : decode cX8_runOrder 14 = .ok (.iload_n 1, 1) := by decide +kernel
theorem dX8_runOrder_15 : decode cX8_runOrder 15 = .ok (.iconst 1, 1) := by decide +kernel
theorem dX8_runOrder_16 : decode cX8_runOrder 16 = .ok (.invokevirtual 308, 3) := by decide +kernel
theorem dX8_runOrder_19 : decode cX8_runOrder 19 = .ok (.istore_n 3, 1) := by decide +kernel
theorem dX8_runOrder_20 : decode cX8_runOrder 20 = .ok (.aload_n 0, 1) := by decide +kernel
theorem dX8_runOrder_21 : decode cX8_runOrder 21 = .ok (.getfield 29, 3) := by decide +kernel
theorem dX8_runOrder_24 : decode cX8_runOrder 24 = .ok (.iload_n 1, 1) := by decide +kernel
theorem dX8_runOrder_25 : decode cX8_runOrder 25 = .ok (.iconst 2, 1) := by decide +kernel
theorem dX8_runOrder_26 : decode cX8_runOrder 26 = .ok (.invokevirtual 308, 3) := by decide +kernel
theorem dX8_runOrder_29 : decode cX8_runOrder 29 = .ok (.istore 4, 2) := by decide +kernel
theorem dX8_runOrder_31 : decode cX8_runOrder 31 = .ok (.aload_n 0, 1) := by decide +kernel
theorem dX8_runOrder_32 : decode cX8_runOrder 32 = .ok (.getfield 29, 3) := by decide +kernel
theorem dX8_runOrder_35 : decode cX8_runOrder 35 = .ok (.iload_n 1, 1) := by decide +kernel
theorem dX8_runOrder_36 : decode cX8_runOrder 36 = .ok (.iconst 3, 1) := by decide +kernel
theorem dX8_runOrder_37 : decode cX8_runOrder 37 = .ok (.invokevirtual 308, 3) := by decide +kernel
theorem dX8_runOrder_40 : decode cX8_runOrder 40 = .ok (.istore 5, 2) := by decide +kernel
theorem dX8_runOrder_42 : decode cX8_runOrder 42 = .ok (.aload_n 0, 1) := by decide +kernel
theorem dX8_runOrder_43 : decode cX8_runOrder 43 = .ok (.aload_n 0, 1) := by decide +kernel
theorem dX8_runOrder_44 : decode cX8_runOrder 44 = .ok (.getfield 29, 3) := by decide +kernel
theorem dX8_runOrder_47 : decode cX8_runOrder 47 = .ok (.iload_n 1, 1) := by decide +kernel
theorem dX8_runOrder_48 : decode cX8_runOrder 48 = .ok (.invokevirtual 311, 3) := by decide +kernel
theorem dX8_runOrder_51 : decode cX8_runOrder 51 = .ok (.iload_n 2, 1) := by decide +kernel
theorem dX8_runOrder_52 : decode cX8_runOrder 52 = .ok (.iload_n 3, 1) := by decide +kernel
theorem dX8_runOrder_53 : decode cX8_runOrder 53 = .ok (.iload 4, 2) := by decide +kernel
theorem dX8_runOrder_55 : decode cX8_runOrder 55 = .ok (.iload 5, 2) := by decide +kernel
theorem dX8_runOrder_57 : decode cX8_runOrder 57 = .ok (.invokevirtual 314, 3) := by decide +kernel
theorem dX8_runOrder_60 : decode cX8_runOrder 60 = .ok (.istore 6, 2) := by decide +kernel
theorem dX8_runOrder_62 : decode cX8_runOrder 62 = .ok (.iload 6, 2) := by decide +kernel
theorem dX8_runOrder_64 : decode cX8_runOrder 64 = .ok (.ifCond .eq 5, 3) := by decide +kernel
theorem dX8_runOrder_67 : decode cX8_runOrder 67 = .ok (.iconst 0, 1) := by decide +kernel
theorem dX8_runOrder_68 : decode cX8_runOrder 68 = .ok (.ireturn, 1) := by decide +kernel
theorem dX8_runOrder_69 : decode cX8_runOrder 69 = .ok (.aload_n 0, 1) := by decide +kernel
theorem dX8_runOrder_70 : decode cX8_runOrder 70 = .ok (.getfield 29, 3) := by decide +kernel
theorem dX8_runOrder_73 : decode cX8_runOrder 73 = .ok (.iload_n 1, 1) := by decide +kernel
theorem dX8_runOrder_74 : decode cX8_runOrder 74 = .ok (.invokevirtual 311, 3) := by decide +kernel
theorem dX8_runOrder_77 : decode cX8_runOrder 77 = .ok (.lookupswitch 131 #[(98, 119), (100, 107), (101, 77), (103, 94), (113, 51)], 51) := by decide +kernel
theorem dX8_runOrder_128 : decode cX8_runOrder 128 = .ok (.aload_n 0, 1) := by decide +kernel
theorem dX8_runOrder_129 : decode cX8_runOrder 129 = .ok (.getfield 16, 3) := by decide +kernel
theorem dX8_runOrder_132 : decode cX8_runOrder 132 = .ok (.iload_n 2, 1) := by decide +kernel
theorem dX8_runOrder_133 : decode cX8_runOrder 133 = .ok (.iload_n 3, 1) := by decide +kernel
theorem dX8_runOrder_134 : decode cX8_runOrder 134 = .ok (.iload 4, 2) := by decide +kernel
theorem dX8_runOrder_136 : decode cX8_runOrder 136 = .ok (.iload 5, 2) := by decide +kernel
theorem dX8_runOrder_138 : decode cX8_runOrder 138 = .ok (.iconst 1, 1) := by decide +kernel
theorem dX8_runOrder_139 : decode cX8_runOrder 139 = .ok (.if_icmp .ne 7, 3) := by decide +kernel
theorem dX8_runOrder_142 : decode cX8_runOrder 142 = .ok (.iconst 1, 1) := by decide +kernel
theorem dX8_runOrder_143 : decode cX8_runOrder 143 = .ok (.goto 4, 3) := by decide +kernel
theorem dX8_runOrder_146 : decode cX8_runOrder 146 = .ok (.iconst 0, 1) := by decide +kernel
theorem dX8_runOrder_147 : decode cX8_runOrder 147 = .ok (.invokevirtual 135, 3) := by decide +kernel
theorem dX8_runOrder_150 : decode cX8_runOrder 150 = .ok (.pop, 1) := by decide +kernel
theorem dX8_runOrder_151 : decode cX8_runOrder 151 = .ok (.goto 66, 3) := by decide +kernel
theorem dX8_runOrder_154 : decode cX8_runOrder 154 = .ok (.aload_n 0, 1) := by decide +kernel
theorem dX8_runOrder_155 : decode cX8_runOrder 155 = .ok (.getfield 16, 3) := by decide +kernel
theorem dX8_runOrder_158 : decode cX8_runOrder 158 = .ok (.iload_n 2, 1) := by decide +kernel
theorem dX8_runOrder_159 : decode cX8_runOrder 159 = .ok (.iload_n 3, 1) := by decide +kernel
theorem dX8_runOrder_160 : decode cX8_runOrder 160 = .ok (.iload 4, 2) := by decide +kernel
theorem dX8_runOrder_162 : decode cX8_runOrder 162 = .ok (.iload 5, 2) := by decide +kernel
theorem dX8_runOrder_164 : decode cX8_runOrder 164 = .ok (.invokevirtual 166, 3) := by decide +kernel
theorem dX8_runOrder_167 : decode cX8_runOrder 167 = .ok (.pop, 1) := by decide +kernel
theorem dX8_runOrder_168 : decode cX8_runOrder 168 = .ok (.goto 49, 3) := by decide +kernel
theorem dX8_runOrder_171 : decode cX8_runOrder 171 = .ok (.aload_n 0, 1) := by decide +kernel
theorem dX8_runOrder_172 : decode cX8_runOrder 172 = .ok (.getfield 16, 3) := by decide +kernel
theorem dX8_runOrder_175 : decode cX8_runOrder 175 = .ok (.iload_n 2, 1) := by decide +kernel
theorem dX8_runOrder_176 : decode cX8_runOrder 176 = .ok (.iload_n 3, 1) := by decide +kernel
theorem dX8_runOrder_177 : decode cX8_runOrder 177 = .ok (.invokevirtual 190, 3) := by decide +kernel
theorem dX8_runOrder_180 : decode cX8_runOrder 180 = .ok (.pop, 1) := by decide +kernel
theorem dX8_runOrder_181 : decode cX8_runOrder 181 = .ok (.goto 36, 3) := by decide +kernel
theorem dX8_runOrder_184 : decode cX8_runOrder 184 = .ok (.aload_n 0, 1) := by decide +kernel
theorem dX8_runOrder_185 : decode cX8_runOrder 185 = .ok (.getfield 16, 3) := by decide +kernel
theorem dX8_runOrder_188 : decode cX8_runOrder 188 = .ok (.iload_n 2, 1) := by decide +kernel
theorem dX8_runOrder_189 : decode cX8_runOrder 189 = .ok (.invokevirtual 159, 3) := by decide +kernel
theorem dX8_runOrder_192 : decode cX8_runOrder 192 = .ok (.pop, 1) := by decide +kernel
theorem dX8_runOrder_193 : decode cX8_runOrder 193 = .ok (.goto 24, 3) := by decide +kernel
theorem dX8_runOrder_196 : decode cX8_runOrder 196 = .ok (.aload_n 0, 1) := by decide +kernel
theorem dX8_runOrder_197 : decode cX8_runOrder 197 = .ok (.getfield 16, 3) := by decide +kernel
theorem dX8_runOrder_200 : decode cX8_runOrder 200 = .ok (.iload_n 2, 1) := by decide +kernel
theorem dX8_runOrder_201 : decode cX8_runOrder 201 = .ok (.invokevirtual 153, 3) := by decide +kernel
theorem dX8_runOrder_204 : decode cX8_runOrder 204 = .ok (.pop, 1) := by decide +kernel
theorem dX8_runOrder_205 : decode cX8_runOrder 205 = .ok (.goto 12, 3) := by decide +kernel
theorem dX8_runOrder_208 : decode cX8_runOrder 208 = .ok (.aload_n 0, 1) := by decide +kernel
theorem dX8_runOrder_209 : decode cX8_runOrder 209 = .ok (.getfield 16, 3) := by decide +kernel
theorem dX8_runOrder_212 : decode cX8_runOrder 212 = .ok (.iload_n 2, 1) := by decide +kernel
theorem dX8_runOrder_213 : decode cX8_runOrder 213 = .ok (.iconst (-1), 1) := by decide +kernel
theorem dX8_runOrder_214 : decode cX8_runOrder 214 = .ok (.invokevirtual 216, 3) := by decide +kernel
theorem dX8_runOrder_217 : decode cX8_runOrder 217 = .ok (.iconst 1, 1) := by decide +kernel
theorem dX8_runOrder_218 : decode cX8_runOrder 218 = .ok (.ireturn, 1) := by decide +kernel
theorem dX8_orderFault_0 : decode cX8_orderFault 0 = .ok (.iload_n 1, 1) := by decide +kernel
theorem dX8_orderFault_1 : decode cX8_orderFault 1 = .ok (.lookupswitch 130 #[(98, 121), (100, 112), (101, 88), (103, 102), (113, 51)], 51) := by decide +kernel
theorem dX8_orderFault_52 : decode cX8_orderFault 52 = .ok (.iload 5, 2) := by decide +kernel
theorem dX8_orderFault_54 : decode cX8_orderFault 54 = .ok (.iconst 0, 1) := by decide +kernel
theorem dX8_orderFault_55 : decode cX8_orderFault 55 = .ok (.iconst 1, 1) := by decide +kernel
theorem dX8_orderFault_56 : decode cX8_orderFault 56 = .ok (.invokestatic 86, 3) := by decide +kernel
theorem dX8_orderFault_59 : decode cX8_orderFault 59 = .ok (.ifCond .eq 28, 3) := by decide +kernel
theorem dX8_orderFault_62 : decode cX8_orderFault 62 = .ok (.aload_n 0, 1) := by decide +kernel
theorem dX8_orderFault_63 : decode cX8_orderFault 63 = .ok (.getfield 16, 3) := by decide +kernel
theorem dX8_orderFault_66 : decode cX8_orderFault 66 = .ok (.iload_n 2, 1) := by decide +kernel
theorem dX8_orderFault_67 : decode cX8_orderFault 67 = .ok (.iload_n 3, 1) := by decide +kernel
theorem dX8_orderFault_68 : decode cX8_orderFault 68 = .ok (.iload 4, 2) := by decide +kernel
theorem dX8_orderFault_70 : decode cX8_orderFault 70 = .ok (.iload 5, 2) := by decide +kernel
theorem dX8_orderFault_72 : decode cX8_orderFault 72 = .ok (.iconst 1, 1) := by decide +kernel
theorem dX8_orderFault_73 : decode cX8_orderFault 73 = .ok (.if_icmp .ne 7, 3) := by decide +kernel
theorem dX8_orderFault_76 : decode cX8_orderFault 76 = .ok (.iconst 1, 1) := by decide +kernel
theorem dX8_orderFault_77 : decode cX8_orderFault 77 = .ok (.goto 4, 3) := by decide +kernel
theorem dX8_orderFault_80 : decode cX8_orderFault 80 = .ok (.iconst 0, 1) := by decide +kernel
theorem dX8_orderFault_81 : decode cX8_orderFault 81 = .ok (.invokevirtual 131, 3) := by decide +kernel
theorem dX8_orderFault_84 : decode cX8_orderFault 84 = .ok (.goto 4, 3) := by decide +kernel
theorem dX8_orderFault_87 : decode cX8_orderFault 87 = .ok (.iconst 2, 1) := by decide +kernel
theorem dX8_orderFault_88 : decode cX8_orderFault 88 = .ok (.ireturn, 1) := by decide +kernel
theorem dX8_orderFault_89 : decode cX8_orderFault 89 = .ok (.aload_n 0, 1) := by decide +kernel
theorem dX8_orderFault_90 : decode cX8_orderFault 90 = .ok (.getfield 16, 3) := by decide +kernel
theorem dX8_orderFault_93 : decode cX8_orderFault 93 = .ok (.iload_n 2, 1) := by decide +kernel
theorem dX8_orderFault_94 : decode cX8_orderFault 94 = .ok (.iload_n 3, 1) := by decide +kernel
theorem dX8_orderFault_95 : decode cX8_orderFault 95 = .ok (.iload 4, 2) := by decide +kernel
theorem dX8_orderFault_97 : decode cX8_orderFault 97 = .ok (.iload 5, 2) := by decide +kernel
theorem dX8_orderFault_99 : decode cX8_orderFault 99 = .ok (.invokevirtual 162, 3) := by decide +kernel
theorem dX8_orderFault_102 : decode cX8_orderFault 102 = .ok (.ireturn, 1) := by decide +kernel
theorem dX8_orderFault_103 : decode cX8_orderFault 103 = .ok (.aload_n 0, 1) := by decide +kernel
theorem dX8_orderFault_104 : decode cX8_orderFault 104 = .ok (.getfield 16, 3) := by decide +kernel
theorem dX8_orderFault_107 : decode cX8_orderFault 107 = .ok (.iload_n 2, 1) := by decide +kernel
theorem dX8_orderFault_108 : decode cX8_orderFault 108 = .ok (.iload_n 3, 1) := by decide +kernel
theorem dX8_orderFault_109 : decode cX8_orderFault 109 = .ok (.invokevirtual 187, 3) := by decide +kernel
theorem dX8_orderFault_112 : decode cX8_orderFault 112 = .ok (.ireturn, 1) := by decide +kernel
theorem dX8_orderFault_113 : decode cX8_orderFault 113 = .ok (.aload_n 0, 1) := by decide +kernel
theorem dX8_orderFault_114 : decode cX8_orderFault 114 = .ok (.getfield 16, 3) := by decide +kernel
theorem dX8_orderFault_117 : decode cX8_orderFault 117 = .ok (.iload_n 2, 1) := by decide +kernel
theorem dX8_orderFault_118 : decode cX8_orderFault 118 = .ok (.invokevirtual 156, 3) := by decide +kernel
theorem dX8_orderFault_121 : decode cX8_orderFault 121 = .ok (.ireturn, 1) := by decide +kernel
theorem dX8_orderFault_122 : decode cX8_orderFault 122 = .ok (.aload_n 0, 1) := by decide +kernel
theorem dX8_orderFault_123 : decode cX8_orderFault 123 = .ok (.getfield 16, 3) := by decide +kernel
theorem dX8_orderFault_126 : decode cX8_orderFault 126 = .ok (.iload_n 2, 1) := by decide +kernel
theorem dX8_orderFault_127 : decode cX8_orderFault 127 = .ok (.invokevirtual 150, 3) := by decide +kernel
theorem dX8_orderFault_130 : decode cX8_orderFault 130 = .ok (.ireturn, 1) := by decide +kernel
theorem dX8_orderFault_131 : decode cX8_orderFault 131 = .ok (.aload_n 0, 1) := by decide +kernel
theorem dX8_orderFault_132 : decode cX8_orderFault 132 = .ok (.getfield 16, 3) := by decide +kernel
theorem dX8_orderFault_135 : decode cX8_orderFault 135 = .ok (.iload_n 2, 1) := by decide +kernel
theorem dX8_orderFault_136 : decode cX8_orderFault 136 = .ok (.invokevirtual 258, 3) := by decide +kernel
theorem dX8_orderFault_139 : decode cX8_orderFault 139 = .ok (.ireturn, 1) := by decide +kernel
theorem dX8_faultOf_0 : decode cX8_faultOf 0 = .ok (.iload_n 0, 1) := by decide +kernel
theorem dX8_faultOf_1 : decode cX8_faultOf 1 = .ok (.ifCond .ne 5, 3) := by decide +kernel
theorem dX8_faultOf_4 : decode cX8_faultOf 4 = .ok (.iconst 1, 1) := by decide +kernel
theorem dX8_faultOf_5 : decode cX8_faultOf 5 = .ok (.ireturn, 1) := by decide +kernel
theorem dX8_faultOf_6 : decode cX8_faultOf 6 = .ok (.iload_n 1, 1) := by decide +kernel
theorem dX8_faultOf_7 : decode cX8_faultOf 7 = .ok (.ifCond .ne 5, 3) := by decide +kernel
theorem dX8_faultOf_10 : decode cX8_faultOf 10 = .ok (.iconst 2, 1) := by decide +kernel
theorem dX8_faultOf_11 : decode cX8_faultOf 11 = .ok (.ireturn, 1) := by decide +kernel
theorem dX8_faultOf_12 : decode cX8_faultOf 12 = .ok (.iload_n 2, 1) := by decide +kernel
theorem dX8_faultOf_13 : decode cX8_faultOf 13 = .ok (.ifCond .eq 7, 3) := by decide +kernel
theorem dX8_faultOf_16 : decode cX8_faultOf 16 = .ok (.iconst 0, 1) := by decide +kernel
theorem dX8_faultOf_17 : decode cX8_faultOf 17 = .ok (.goto 4, 3) := by decide +kernel
theorem dX8_faultOf_20 : decode cX8_faultOf 20 = .ok (.iconst 3, 1) := by decide +kernel
theorem dX8_faultOf_21 : decode cX8_faultOf 21 = .ok (.ireturn, 1) := by decide +kernel
theorem dX8_refuseFor_0 : decode cX8_refuseFor 0 = .ok (.iload_n 0, 1) := by decide +kernel
theorem dX8_refuseFor_1 : decode cX8_refuseFor 1 = .ok (.tableswitch 60 1 3 #[27, 38, 49], 27) := by decide +kernel
theorem dX8_refuseFor_28 : decode cX8_refuseFor 28 = .ok (.new 318, 3) := by decide +kernel
theorem dX8_refuseFor_31 : decode cX8_refuseFor 31 = .ok (.dup, 1) := by decide +kernel
theorem dX8_refuseFor_32 : decode cX8_refuseFor 32 = .ok (.ldc_w 320, 3) := by decide +kernel
theorem dX8_refuseFor_35 : decode cX8_refuseFor 35 = .ok (.invokespecial 322, 3) := by decide +kernel
theorem dX8_refuseFor_38 : decode cX8_refuseFor 38 = .ok (.athrow, 1) := by decide +kernel
theorem dX8_refuseFor_39 : decode cX8_refuseFor 39 = .ok (.new 325, 3) := by decide +kernel
theorem dX8_refuseFor_42 : decode cX8_refuseFor 42 = .ok (.dup, 1) := by decide +kernel
theorem dX8_refuseFor_43 : decode cX8_refuseFor 43 = .ok (.ldc_w 327, 3) := by decide +kernel
theorem dX8_refuseFor_46 : decode cX8_refuseFor 46 = .ok (.invokespecial 329, 3) := by decide +kernel
theorem dX8_refuseFor_49 : decode cX8_refuseFor 49 = .ok (.athrow, 1) := by decide +kernel
theorem dX8_refuseFor_50 : decode cX8_refuseFor 50 = .ok (.new 330, 3) := by decide +kernel
theorem dX8_refuseFor_53 : decode cX8_refuseFor 53 = .ok (.dup, 1) := by decide +kernel
theorem dX8_refuseFor_54 : decode cX8_refuseFor 54 = .ok (.ldc_w 332, 3) := by decide +kernel
theorem dX8_refuseFor_57 : decode cX8_refuseFor 57 = .ok (.invokespecial 334, 3) := by decide +kernel
theorem dX8_refuseFor_60 : decode cX8_refuseFor 60 = .ok (.athrow, 1) := by decide +kernel
theorem dX8_refuseFor_61 : decode cX8_refuseFor 61 = .ok (.return_, 1) := by decide +kernel
theorem dX8_isWithin_0 : decode cX8_isWithin 0 = .ok (.iload_n 0, 1) := by decide +kernel
theorem dX8_isWithin_1 : decode cX8_isWithin 1 = .ok (.iload_n 1, 1) := by decide +kernel
theorem dX8_isWithin_2 : decode cX8_isWithin 2 = .ok (.if_icmp .lt 12, 3) := by decide +kernel
theorem dX8_isWithin_5 : decode cX8_isWithin 5 = .ok (.iload_n 0, 1) := by decide +kernel
theorem dX8_isWithin_6 : decode cX8_isWithin 6 = .ok (.iload_n 2, 1) := by decide +kernel
theorem dX8_isWithin_7 : decode cX8_isWithin 7 = .ok (.if_icmp .gt 7, 3) := by decide +kernel
theorem dX8_isWithin_10 : decode cX8_isWithin 10 = .ok (.iconst 1, 1) := by decide +kernel
theorem dX8_isWithin_11 : decode cX8_isWithin 11 = .ok (.goto 4, 3) := by decide +kernel
theorem dX8_isWithin_14 : decode cX8_isWithin 14 = .ok (.iconst 0, 1) := by decide +kernel
theorem dX8_isWithin_15 : decode cX8_isWithin 15 = .ok (.ireturn, 1) := by decide +kernel
theorem dX8_isUser_0 : decode cX8_isUser 0 = .ok (.iload_n 0, 1) := by decide +kernel
theorem dX8_isUser_1 : decode cX8_isUser 1 = .ok (.iconst 0, 1) := by decide +kernel
theorem dX8_isUser_2 : decode cX8_isUser 2 = .ok (.iconst 5, 1) := by decide +kernel
theorem dX8_isUser_3 : decode cX8_isUser 3 = .ok (.invokestatic 86, 3) := by decide +kernel
theorem dX8_isUser_6 : decode cX8_isUser 6 = .ok (.ireturn, 1) := by decide +kernel
theorem dX8_isLine_0 : decode cX8_isLine 0 = .ok (.iload_n 0, 1) := by decide +kernel
theorem dX8_isLine_1 : decode cX8_isLine 1 = .ok (.iconst 0, 1) := by decide +kernel
theorem dX8_isLine_2 : decode cX8_isLine 2 = .ok (.iconst 5, 1) := by decide +kernel
theorem dX8_isLine_3 : decode cX8_isLine 3 = .ok (.invokestatic 86, 3) := by decide +kernel
theorem dX8_isLine_6 : decode cX8_isLine 6 = .ok (.ireturn, 1) := by decide +kernel
theorem dX8_isCell_0 : decode cX8_isCell 0 = .ok (.iload_n 0, 1) := by decide +kernel
theorem dX8_isCell_1 : decode cX8_isCell 1 = .ok (.iconst 0, 1) := by decide +kernel
theorem dX8_isCell_2 : decode cX8_isCell 2 = .ok (.bipush 119, 2) := by decide +kernel
theorem dX8_isCell_4 : decode cX8_isCell 4 = .ok (.invokestatic 86, 3) := by decide +kernel
theorem dX8_isCell_7 : decode cX8_isCell 7 = .ok (.ireturn, 1) := by decide +kernel
theorem dX8_cellOf_0 : decode cX8_cellOf 0 = .ok (.iload_n 0, 1) := by decide +kernel
theorem dX8_cellOf_1 : decode cX8_cellOf 1 = .ok (.bipush 6, 2) := by decide +kernel
theorem dX8_cellOf_3 : decode cX8_cellOf 3 = .ok (.imul, 1) := by decide +kernel
theorem dX8_cellOf_4 : decode cX8_cellOf 4 = .ok (.iload_n 1, 1) := by decide +kernel
theorem dX8_cellOf_5 : decode cX8_cellOf 5 = .ok (.iadd, 1) := by decide +kernel
theorem dX8_cellOf_6 : decode cX8_cellOf 6 = .ok (.ireturn, 1) := by decide +kernel
theorem dX8_hasBit_0 : decode cX8_hasBit 0 = .ok (.iload_n 0, 1) := by decide +kernel
theorem dX8_hasBit_1 : decode cX8_hasBit 1 = .ok (.iload_n 1, 1) := by decide +kernel
theorem dX8_hasBit_2 : decode cX8_hasBit 2 = .ok (.iushr, 1) := by decide +kernel
theorem dX8_hasBit_3 : decode cX8_hasBit 3 = .ok (.iconst 1, 1) := by decide +kernel
theorem dX8_hasBit_4 : decode cX8_hasBit 4 = .ok (.iand, 1) := by decide +kernel
theorem dX8_hasBit_5 : decode cX8_hasBit 5 = .ok (.ifCond .eq 7, 3) := by decide +kernel
theorem dX8_hasBit_8 : decode cX8_hasBit 8 = .ok (.iconst 1, 1) := by decide +kernel
theorem dX8_hasBit_9 : decode cX8_hasBit 9 = .ok (.goto 4, 3) := by decide +kernel
theorem dX8_hasBit_12 : decode cX8_hasBit 12 = .ok (.iconst 0, 1) := by decide +kernel
theorem dX8_hasBit_13 : decode cX8_hasBit 13 = .ok (.ireturn, 1) := by decide +kernel
theorem dX8_copyRow_0 : decode cX8_copyRow 0 = .ok (.aload_n 0, 1) := by decide +kernel
theorem dX8_copyRow_1 : decode cX8_copyRow 1 = .ok (.iconst 0, 1) := by decide +kernel
theorem dX8_copyRow_2 : decode cX8_copyRow 2 = .ok (.aload_n 1, 1) := by decide +kernel
theorem dX8_copyRow_3 : decode cX8_copyRow 3 = .ok (.iconst 0, 1) := by decide +kernel
theorem dX8_copyRow_4 : decode cX8_copyRow 4 = .ok (.aload_n 0, 1) := by decide +kernel
theorem dX8_copyRow_5 : decode cX8_copyRow 5 = .ok (.arraylength, 1) := by decide +kernel
theorem dX8_copyRow_6 : decode cX8_copyRow 6 = .ok (.aload_n 1, 1) := by decide +kernel
theorem dX8_copyRow_7 : decode cX8_copyRow 7 = .ok (.arraylength, 1) := by decide +kernel
theorem dX8_copyRow_8 : decode cX8_copyRow 8 = .ok (.invokestatic 337, 3) := by decide +kernel
theorem dX8_copyRow_11 : decode cX8_copyRow 11 = .ok (.invokestatic 342, 3) := by decide +kernel
theorem dX8_copyRow_14 : decode cX8_copyRow 14 = .ok (.return_, 1) := by decide +kernel
theorem dX8_floatBits_0 : decode cX8_floatBits 0 = .ok (.fload_n 0, 1) := by decide +kernel
theorem dX8_floatBits_1 : decode cX8_floatBits 1 = .ok (.fconst 0, 1) := by decide +kernel
theorem dX8_floatBits_2 : decode cX8_floatBits 2 = .ok (.fcmp .l, 1) := by decide +kernel
theorem dX8_floatBits_3 : decode cX8_floatBits 3 = .ok (.ifCond .gt 5, 3) := by decide +kernel
theorem dX8_floatBits_6 : decode cX8_floatBits 6 = .ok (.iconst 0, 1) := by decide +kernel
theorem dX8_floatBits_7 : decode cX8_floatBits 7 = .ok (.ireturn, 1) := by decide +kernel
theorem dX8_floatBits_8 : decode cX8_floatBits 8 = .ok (.fload_n 0, 1) := by decide +kernel
theorem dX8_floatBits_9 : decode cX8_floatBits 9 = .ok (.fstore_n 1, 1) := by decide +kernel
theorem dX8_floatBits_10 : decode cX8_floatBits 10 = .ok (.bipush 127, 2) := by decide +kernel
theorem dX8_floatBits_12 : decode cX8_floatBits 12 = .ok (.istore_n 2, 1) := by decide +kernel
theorem dX8_floatBits_13 : decode cX8_floatBits 13 = .ok (.iconst 0, 1) := by decide +kernel
theorem dX8_floatBits_14 : decode cX8_floatBits 14 = .ok (.istore_n 3, 1) := by decide +kernel
theorem dX8_floatBits_15 : decode cX8_floatBits 15 = .ok (.iload_n 3, 1) := by decide +kernel
theorem dX8_floatBits_16 : decode cX8_floatBits 16 = .ok (.bipush 64, 2) := by decide +kernel
theorem dX8_floatBits_18 : decode cX8_floatBits 18 = .ok (.if_icmp .ge 24, 3) := by decide +kernel
theorem dX8_floatBits_21 : decode cX8_floatBits 21 = .ok (.fload_n 1, 1) := by decide +kernel
theorem dX8_floatBits_22 : decode cX8_floatBits 22 = .ok (.fconst 2, 1) := by decide +kernel
theorem dX8_floatBits_23 : decode cX8_floatBits 23 = .ok (.fcmp .l, 1) := by decide +kernel
theorem dX8_floatBits_24 : decode cX8_floatBits 24 = .ok (.ifCond .lt 18, 3) := by decide +kernel
theorem dX8_floatBits_27 : decode cX8_floatBits 27 = .ok (.fload_n 1, 1) := by decide +kernel
theorem dX8_floatBits_28 : decode cX8_floatBits 28 = .ok (.ldc_w 348, 3) := by decide +kernel
theorem dX8_floatBits_31 : decode cX8_floatBits 31 = .ok (.fmul, 1) := by decide +kernel
theorem dX8_floatBits_32 : decode cX8_floatBits 32 = .ok (.fstore_n 1, 1) := by decide +kernel
theorem dX8_floatBits_33 : decode cX8_floatBits 33 = .ok (.iinc 2 1, 3) := by decide +kernel
theorem dX8_floatBits_36 : decode cX8_floatBits 36 = .ok (.iinc 3 1, 3) := by decide +kernel
theorem dX8_floatBits_39 : decode cX8_floatBits 39 = .ok (.goto (-24), 3) := by decide +kernel
theorem dX8_floatBits_42 : decode cX8_floatBits 42 = .ok (.iconst 0, 1) := by decide +kernel
theorem dX8_floatBits_43 : decode cX8_floatBits 43 = .ok (.istore_n 3, 1) := by decide +kernel
theorem dX8_floatBits_44 : decode cX8_floatBits 44 = .ok (.iload_n 3, 1) := by decide +kernel
theorem dX8_floatBits_45 : decode cX8_floatBits 45 = .ok (.bipush 64, 2) := by decide +kernel
theorem dX8_floatBits_47 : decode cX8_floatBits 47 = .ok (.if_icmp .ge 22, 3) := by decide +kernel
theorem dX8_floatBits_50 : decode cX8_floatBits 50 = .ok (.fload_n 1, 1) := by decide +kernel
theorem dX8_floatBits_51 : decode cX8_floatBits 51 = .ok (.fconst 1, 1) := by decide +kernel
theorem dX8_floatBits_52 : decode cX8_floatBits 52 = .ok (.fcmp .g, 1) := by decide +kernel
theorem dX8_floatBits_53 : decode cX8_floatBits 53 = .ok (.ifCond .ge 16, 3) := by decide +kernel
theorem dX8_floatBits_56 : decode cX8_floatBits 56 = .ok (.fload_n 1, 1) := by decide +kernel
theorem dX8_floatBits_57 : decode cX8_floatBits 57 = .ok (.fconst 2, 1) := by decide +kernel
theorem dX8_floatBits_58 : decode cX8_floatBits 58 = .ok (.fmul, 1) := by decide +kernel
theorem dX8_floatBits_59 : decode cX8_floatBits 59 = .ok (.fstore_n 1, 1) := by decide +kernel
theorem dX8_floatBits_60 : decode cX8_floatBits 60 = .ok (.iinc 2 (-1), 3) := by decide +kernel
theorem dX8_floatBits_63 : decode cX8_floatBits 63 = .ok (.iinc 3 1, 3) := by decide +kernel
theorem dX8_floatBits_66 : decode cX8_floatBits 66 = .ok (.goto (-22), 3) := by decide +kernel
theorem dX8_floatBits_69 : decode cX8_floatBits 69 = .ok (.fload_n 1, 1) := by decide +kernel
theorem dX8_floatBits_70 : decode cX8_floatBits 70 = .ok (.fconst 1, 1) := by decide +kernel
theorem dX8_floatBits_71 : decode cX8_floatBits 71 = .ok (.fsub, 1) := by decide +kernel
theorem dX8_floatBits_72 : decode cX8_floatBits 72 = .ok (.ldc_w 349, 3) := by decide +kernel
theorem dX8_floatBits_75 : decode cX8_floatBits 75 = .ok (.fmul, 1) := by decide +kernel
theorem dX8_floatBits_76 : decode cX8_floatBits 76 = .ok (.f2i, 1) := by decide +kernel
theorem dX8_floatBits_77 : decode cX8_floatBits 77 = .ok (.istore_n 3, 1) := by decide +kernel
theorem dX8_floatBits_78 : decode cX8_floatBits 78 = .ok (.iload_n 2, 1) := by decide +kernel
theorem dX8_floatBits_79 : decode cX8_floatBits 79 = .ok (.bipush 23, 2) := by decide +kernel
theorem dX8_floatBits_81 : decode cX8_floatBits 81 = .ok (.ishl, 1) := by decide +kernel
theorem dX8_floatBits_82 : decode cX8_floatBits 82 = .ok (.iload_n 3, 1) := by decide +kernel
theorem dX8_floatBits_83 : decode cX8_floatBits 83 = .ok (.ior, 1) := by decide +kernel
theorem dX8_floatBits_84 : decode cX8_floatBits 84 = .ok (.ireturn, 1) := by decide +kernel
theorem dJ6_bitCount_0f7a4_0 : decode cJ6_bitCount_0f7a4 0 = .ok (.iload_n 0, 1) := by decide +kernel
theorem dJ6_bitCount_0f7a4_1 : decode cJ6_bitCount_0f7a4 1 = .ok (.iload_n 0, 1) := by decide +kernel
theorem dJ6_bitCount_0f7a4_2 : decode cJ6_bitCount_0f7a4 2 = .ok (.iconst 1, 1) := by decide +kernel
theorem dJ6_bitCount_0f7a4_3 : decode cJ6_bitCount_0f7a4 3 = .ok (.iushr, 1) := by decide +kernel
theorem dJ6_bitCount_0f7a4_4 : decode cJ6_bitCount_0f7a4 4 = .ok (.ldc_w 265, 3) := by decide +kernel
theorem dJ6_bitCount_0f7a4_7 : decode cJ6_bitCount_0f7a4 7 = .ok (.iand, 1) := by decide +kernel
theorem dJ6_bitCount_0f7a4_8 : decode cJ6_bitCount_0f7a4 8 = .ok (.isub, 1) := by decide +kernel
theorem dJ6_bitCount_0f7a4_9 : decode cJ6_bitCount_0f7a4 9 = .ok (.istore_n 0, 1) := by decide +kernel
theorem dJ6_bitCount_0f7a4_10 : decode cJ6_bitCount_0f7a4 10 = .ok (.iload_n 0, 1) := by decide +kernel
theorem dJ6_bitCount_0f7a4_11 : decode cJ6_bitCount_0f7a4 11 = .ok (.ldc_w 266, 3) := by decide +kernel
theorem dJ6_bitCount_0f7a4_14 : decode cJ6_bitCount_0f7a4 14 = .ok (.iand, 1) := by decide +kernel
theorem dJ6_bitCount_0f7a4_15 : decode cJ6_bitCount_0f7a4 15 = .ok (.iload_n 0, 1) := by decide +kernel
theorem dJ6_bitCount_0f7a4_16 : decode cJ6_bitCount_0f7a4 16 = .ok (.iconst 2, 1) := by decide +kernel
theorem dJ6_bitCount_0f7a4_17 : decode cJ6_bitCount_0f7a4 17 = .ok (.iushr, 1) := by decide +kernel
theorem dJ6_bitCount_0f7a4_18 : decode cJ6_bitCount_0f7a4 18 = .ok (.ldc_w 266, 3) := by decide +kernel
theorem dJ6_bitCount_0f7a4_21 : decode cJ6_bitCount_0f7a4 21 = .ok (.iand, 1) := by decide +kernel
theorem dJ6_bitCount_0f7a4_22 : decode cJ6_bitCount_0f7a4 22 = .ok (.iadd, 1) := by decide +kernel
theorem dJ6_bitCount_0f7a4_23 : decode cJ6_bitCount_0f7a4 23 = .ok (.istore_n 0, 1) := by decide +kernel
theorem dJ6_bitCount_0f7a4_24 : decode cJ6_bitCount_0f7a4 24 = .ok (.iload_n 0, 1) := by decide +kernel
theorem dJ6_bitCount_0f7a4_25 : decode cJ6_bitCount_0f7a4 25 = .ok (.iload_n 0, 1) := by decide +kernel
theorem dJ6_bitCount_0f7a4_26 : decode cJ6_bitCount_0f7a4 26 = .ok (.iconst 4, 1) := by decide +kernel
theorem dJ6_bitCount_0f7a4_27 : decode cJ6_bitCount_0f7a4 27 = .ok (.iushr, 1) := by decide +kernel
theorem dJ6_bitCount_0f7a4_28 : decode cJ6_bitCount_0f7a4 28 = .ok (.iadd, 1) := by decide +kernel
theorem dJ6_bitCount_0f7a4_29 : decode cJ6_bitCount_0f7a4 29 = .ok (.ldc_w 267, 3) := by decide +kernel
theorem dJ6_bitCount_0f7a4_32 : decode cJ6_bitCount_0f7a4 32 = .ok (.iand, 1) := by decide +kernel
theorem dJ6_bitCount_0f7a4_33 : decode cJ6_bitCount_0f7a4 33 = .ok (.istore_n 0, 1) := by decide +kernel
theorem dJ6_bitCount_0f7a4_34 : decode cJ6_bitCount_0f7a4 34 = .ok (.iload_n 0, 1) := by decide +kernel
theorem dJ6_bitCount_0f7a4_35 : decode cJ6_bitCount_0f7a4 35 = .ok (.iload_n 0, 1) := by decide +kernel
theorem dJ6_bitCount_0f7a4_36 : decode cJ6_bitCount_0f7a4 36 = .ok (.bipush 8, 2) := by decide +kernel
theorem dJ6_bitCount_0f7a4_38 : decode cJ6_bitCount_0f7a4 38 = .ok (.iushr, 1) := by decide +kernel
theorem dJ6_bitCount_0f7a4_39 : decode cJ6_bitCount_0f7a4 39 = .ok (.iadd, 1) := by decide +kernel
theorem dJ6_bitCount_0f7a4_40 : decode cJ6_bitCount_0f7a4 40 = .ok (.istore_n 0, 1) := by decide +kernel
theorem dJ6_bitCount_0f7a4_41 : decode cJ6_bitCount_0f7a4 41 = .ok (.iload_n 0, 1) := by decide +kernel
theorem dJ6_bitCount_0f7a4_42 : decode cJ6_bitCount_0f7a4 42 = .ok (.iload_n 0, 1) := by decide +kernel
theorem dJ6_bitCount_0f7a4_43 : decode cJ6_bitCount_0f7a4 43 = .ok (.bipush 16, 2) := by decide +kernel
theorem dJ6_bitCount_0f7a4_45 : decode cJ6_bitCount_0f7a4 45 = .ok (.iushr, 1) := by decide +kernel
theorem dJ6_bitCount_0f7a4_46 : decode cJ6_bitCount_0f7a4 46 = .ok (.iadd, 1) := by decide +kernel
theorem dJ6_bitCount_0f7a4_47 : decode cJ6_bitCount_0f7a4 47 = .ok (.istore_n 0, 1) := by decide +kernel
theorem dJ6_bitCount_0f7a4_48 : decode cJ6_bitCount_0f7a4 48 = .ok (.iload_n 0, 1) := by decide +kernel
theorem dJ6_bitCount_0f7a4_49 : decode cJ6_bitCount_0f7a4 49 = .ok (.bipush 63, 2) := by decide +kernel
theorem dJ6_bitCount_0f7a4_51 : decode cJ6_bitCount_0f7a4 51 = .ok (.iand, 1) := by decide +kernel
theorem dJ6_bitCount_0f7a4_52 : decode cJ6_bitCount_0f7a4 52 = .ok (.ireturn, 1) := by decide +kernel
theorem dJ9_max_7cf53_0 : decode cJ9_max_7cf53 0 = .ok (.iload_n 0, 1) := by decide +kernel
theorem dJ9_max_7cf53_1 : decode cJ9_max_7cf53 1 = .ok (.iload_n 1, 1) := by decide +kernel
theorem dJ9_max_7cf53_2 : decode cJ9_max_7cf53 2 = .ok (.if_icmp .lt 7, 3) := by decide +kernel
theorem dJ9_max_7cf53_5 : decode cJ9_max_7cf53 5 = .ok (.iload_n 0, 1) := by decide +kernel
theorem dJ9_max_7cf53_6 : decode cJ9_max_7cf53 6 = .ok (.goto 4, 3) := by decide +kernel
theorem dJ9_max_7cf53_9 : decode cJ9_max_7cf53 9 = .ok (.iload_n 1, 1) := by decide +kernel
theorem dJ9_max_7cf53_10 : decode cJ9_max_7cf53 10 = .ok (.ireturn, 1) := by decide +kernel
theorem dJ9_min_7cf53_0 : decode cJ9_min_7cf53 0 = .ok (.iload_n 0, 1) := by decide +kernel
theorem dJ9_min_7cf53_1 : decode cJ9_min_7cf53 1 = .ok (.iload_n 1, 1) := by decide +kernel
theorem dJ9_min_7cf53_2 : decode cJ9_min_7cf53 2 = .ok (.if_icmp .gt 7, 3) := by decide +kernel
theorem dJ9_min_7cf53_5 : decode cJ9_min_7cf53 5 = .ok (.iload_n 0, 1) := by decide +kernel
theorem dJ9_min_7cf53_6 : decode cJ9_min_7cf53 6 = .ok (.goto 4, 3) := by decide +kernel
theorem dJ9_min_7cf53_9 : decode cJ9_min_7cf53 9 = .ok (.iload_n 1, 1) := by decide +kernel
theorem dJ9_min_7cf53_10 : decode cJ9_min_7cf53 10 = .ok (.ireturn, 1) := by decide +kernel
theorem dJ7_fill_53178_0 : decode cJ7_fill_53178 0 = .ok (.iconst 0, 1) := by decide +kernel
theorem dJ7_fill_53178_1 : decode cJ7_fill_53178 1 = .ok (.istore_n 2, 1) := by decide +kernel
theorem dJ7_fill_53178_2 : decode cJ7_fill_53178 2 = .ok (.aload_n 0, 1) := by decide +kernel
theorem dJ7_fill_53178_3 : decode cJ7_fill_53178 3 = .ok (.arraylength, 1) := by decide +kernel
theorem dJ7_fill_53178_4 : decode cJ7_fill_53178 4 = .ok (.istore_n 3, 1) := by decide +kernel
theorem dJ7_fill_53178_5 : decode cJ7_fill_53178 5 = .ok (.iload_n 2, 1) := by decide +kernel
theorem dJ7_fill_53178_6 : decode cJ7_fill_53178 6 = .ok (.iload_n 3, 1) := by decide +kernel
theorem dJ7_fill_53178_7 : decode cJ7_fill_53178 7 = .ok (.if_icmp .ge 13, 3) := by decide +kernel
theorem dJ7_fill_53178_10 : decode cJ7_fill_53178 10 = .ok (.aload_n 0, 1) := by decide +kernel
theorem dJ7_fill_53178_11 : decode cJ7_fill_53178 11 = .ok (.iload_n 2, 1) := by decide +kernel
theorem dJ7_fill_53178_12 : decode cJ7_fill_53178 12 = .ok (.iload_n 1, 1) := by decide +kernel
theorem dJ7_fill_53178_13 : decode cJ7_fill_53178 13 = .ok (.iastore, 1) := by decide +kernel
theorem dJ7_fill_53178_14 : decode cJ7_fill_53178 14 = .ok (.iinc 2 1, 3) := by decide +kernel
theorem dJ7_fill_53178_17 : decode cJ7_fill_53178 17 = .ok (.goto (-12), 3) := by decide +kernel
theorem dJ7_fill_53178_20 : decode cJ7_fill_53178 20 = .ok (.return_, 1) := by decide +kernel
theorem dL_cell_0 : decode cL_cell 0 = .ok (.iload_n 1, 1) := by decide +kernel
theorem dL_cell_1 : decode cL_cell 1 = .ok (.aload_n 0, 1) := by decide +kernel
theorem dL_cell_2 : decode cL_cell 2 = .ok (.arraylength, 1) := by decide +kernel
theorem dL_cell_3 : decode cL_cell 3 = .ok (.if_icmp .ge 9, 3) := by decide +kernel
theorem dL_cell_6 : decode cL_cell 6 = .ok (.aload_n 0, 1) := by decide +kernel
theorem dL_cell_7 : decode cL_cell 7 = .ok (.iload_n 1, 1) := by decide +kernel
theorem dL_cell_8 : decode cL_cell 8 = .ok (.iaload, 1) := by decide +kernel
theorem dL_cell_9 : decode cL_cell 9 = .ok (.goto 9, 3) := by decide +kernel
theorem dL_cell_12 : decode cL_cell 12 = .ok (.ldc 7, 2) := by decide +kernel
theorem dL_cell_14 : decode cL_cell 14 = .ok (.iload_n 1, 1) := by decide +kernel
theorem dL_cell_15 : decode cL_cell 15 = .ok (.iconst 1, 1) := by decide +kernel
theorem dL_cell_16 : decode cL_cell 16 = .ok (.iadd, 1) := by decide +kernel
theorem dL_cell_17 : decode cL_cell 17 = .ok (.imul, 1) := by decide +kernel
theorem dL_cell_18 : decode cL_cell 18 = .ok (.ireturn, 1) := by decide +kernel
theorem dL_low_0 : decode cL_low 0 = .ok (.iload_n 0, 1) := by decide +kernel
theorem dL_low_1 : decode cL_low 1 = .ok (.ldc 8, 2) := by decide +kernel
theorem dL_low_3 : decode cL_low 3 = .ok (.iand, 1) := by decide +kernel
theorem dL_low_4 : decode cL_low 4 = .ok (.iload_n 1, 1) := by decide +kernel
theorem dL_low_5 : decode cL_low 5 = .ok (.irem, 1) := by decide +kernel
theorem dL_low_6 : decode cL_low 6 = .ok (.ireturn, 1) := by decide +kernel
theorem dL_addSection_0 : decode cL_addSection 0 = .ok (.aload_n 0, 1) := by decide +kernel
theorem dL_addSection_1 : decode cL_addSection 1 = .ok (.iload_n 1, 1) := by decide +kernel
theorem dL_addSection_2 : decode cL_addSection 2 = .ok (.invokevirtual 9, 3) := by decide +kernel
theorem dL_addSection_5 : decode cL_addSection 5 = .ok (.istore_n 2, 1) := by decide +kernel
theorem dL_addSection_6 : decode cL_addSection 6 = .ok (.goto 11, 3) := by decide +kernel
theorem dL_addSection_9 : decode cL_addSection 9 = .ok (.astore_n 3, 1) := by decide +kernel
theorem dL_addSection_10 : decode cL_addSection 10 = .ok (.bipush (-53), 2) := by decide +kernel
theorem dL_addSection_12 : decode cL_addSection 12 = .ok (.ireturn, 1) := by decide +kernel
theorem dL_addSection_13 : decode cL_addSection 13 = .ok (.astore_n 3, 1) := by decide +kernel
theorem dL_addSection_14 : decode cL_addSection 14 = .ok (.bipush (-52), 2) := by decide +kernel
theorem dL_addSection_16 : decode cL_addSection 16 = .ok (.ireturn, 1) := by decide +kernel
theorem dL_addSection_17 : decode cL_addSection 17 = .ok (.iload_n 2, 1) := by decide +kernel
theorem dL_addSection_18 : decode cL_addSection 18 = .ok (.ireturn, 1) := by decide +kernel
theorem dL_removeSection_0 : decode cL_removeSection 0 = .ok (.aload_n 0, 1) := by decide +kernel
theorem dL_removeSection_1 : decode cL_removeSection 1 = .ok (.iload_n 1, 1) := by decide +kernel
theorem dL_removeSection_2 : decode cL_removeSection 2 = .ok (.invokevirtual 19, 3) := by decide +kernel
theorem dL_removeSection_5 : decode cL_removeSection 5 = .ok (.istore_n 2, 1) := by decide +kernel
theorem dL_removeSection_6 : decode cL_removeSection 6 = .ok (.goto 15, 3) := by decide +kernel
theorem dL_removeSection_9 : decode cL_removeSection 9 = .ok (.astore_n 3, 1) := by decide +kernel
theorem dL_removeSection_10 : decode cL_removeSection 10 = .ok (.bipush (-53), 2) := by decide +kernel
theorem dL_removeSection_12 : decode cL_removeSection 12 = .ok (.ireturn, 1) := by decide +kernel
theorem dL_removeSection_13 : decode cL_removeSection 13 = .ok (.astore_n 3, 1) := by decide +kernel
theorem dL_removeSection_14 : decode cL_removeSection 14 = .ok (.bipush (-51), 2) := by decide +kernel
theorem dL_removeSection_16 : decode cL_removeSection 16 = .ok (.ireturn, 1) := by decide +kernel
theorem dL_removeSection_17 : decode cL_removeSection 17 = .ok (.astore_n 3, 1) := by decide +kernel
theorem dL_removeSection_18 : decode cL_removeSection 18 = .ok (.bipush (-52), 2) := by decide +kernel
theorem dL_removeSection_20 : decode cL_removeSection 20 = .ok (.ireturn, 1) := by decide +kernel
theorem dL_removeSection_21 : decode cL_removeSection 21 = .ok (.iload_n 2, 1) := by decide +kernel
theorem dL_removeSection_22 : decode cL_removeSection 22 = .ok (.ireturn, 1) := by decide +kernel
theorem dL_moveSection_0 : decode cL_moveSection 0 = .ok (.aload_n 0, 1) := by decide +kernel
theorem dL_moveSection_1 : decode cL_moveSection 1 = .ok (.iload_n 1, 1) := by decide +kernel
theorem dL_moveSection_2 : decode cL_moveSection 2 = .ok (.iload_n 2, 1) := by decide +kernel
theorem dL_moveSection_3 : decode cL_moveSection 3 = .ok (.invokevirtual 24, 3) := by decide +kernel
theorem dL_moveSection_6 : decode cL_moveSection 6 = .ok (.istore_n 3, 1) := by decide +kernel
theorem dL_moveSection_7 : decode cL_moveSection 7 = .ok (.goto 18, 3) := by decide +kernel
theorem dL_moveSection_10 : decode cL_moveSection 10 = .ok (.astore 4, 2) := by decide +kernel
theorem dL_moveSection_12 : decode cL_moveSection 12 = .ok (.bipush (-53), 2) := by decide +kernel
theorem dL_moveSection_14 : decode cL_moveSection 14 = .ok (.ireturn, 1) := by decide +kernel
theorem dL_moveSection_15 : decode cL_moveSection 15 = .ok (.astore 4, 2) := by decide +kernel
theorem dL_moveSection_17 : decode cL_moveSection 17 = .ok (.bipush (-51), 2) := by decide +kernel
theorem dL_moveSection_19 : decode cL_moveSection 19 = .ok (.ireturn, 1) := by decide +kernel
theorem dL_moveSection_20 : decode cL_moveSection 20 = .ok (.astore 4, 2) := by decide +kernel
theorem dL_moveSection_22 : decode cL_moveSection 22 = .ok (.bipush (-52), 2) := by decide +kernel
theorem dL_moveSection_24 : decode cL_moveSection 24 = .ok (.ireturn, 1) := by decide +kernel
theorem dL_moveSection_25 : decode cL_moveSection 25 = .ok (.iload_n 3, 1) := by decide +kernel
theorem dL_moveSection_26 : decode cL_moveSection 26 = .ok (.ireturn, 1) := by decide +kernel
theorem dL_section_0 : decode cL_section 0 = .ok (.aload_n 0, 1) := by decide +kernel
theorem dL_section_1 : decode cL_section 1 = .ok (.iload_n 1, 1) := by decide +kernel
theorem dL_section_2 : decode cL_section 2 = .ok (.iload_n 2, 1) := by decide +kernel
theorem dL_section_3 : decode cL_section 3 = .ok (.invokevirtual 28, 3) := by decide +kernel
theorem dL_section_6 : decode cL_section 6 = .ok (.istore_n 3, 1) := by decide +kernel
theorem dL_section_7 : decode cL_section 7 = .ok (.goto 13, 3) := by decide +kernel
theorem dL_section_10 : decode cL_section 10 = .ok (.astore 4, 2) := by decide +kernel
theorem dL_section_12 : decode cL_section 12 = .ok (.bipush (-53), 2) := by decide +kernel
theorem dL_section_14 : decode cL_section 14 = .ok (.ireturn, 1) := by decide +kernel
theorem dL_section_15 : decode cL_section 15 = .ok (.astore 4, 2) := by decide +kernel
theorem dL_section_17 : decode cL_section 17 = .ok (.bipush (-51), 2) := by decide +kernel
theorem dL_section_19 : decode cL_section 19 = .ok (.ireturn, 1) := by decide +kernel
theorem dL_section_20 : decode cL_section 20 = .ok (.iload_n 3, 1) := by decide +kernel
theorem dL_section_21 : decode cL_section 21 = .ok (.ireturn, 1) := by decide +kernel
theorem dL_child_0 : decode cL_child 0 = .ok (.aload_n 0, 1) := by decide +kernel
theorem dL_child_1 : decode cL_child 1 = .ok (.iload_n 1, 1) := by decide +kernel
theorem dL_child_2 : decode cL_child 2 = .ok (.iload_n 2, 1) := by decide +kernel
theorem dL_child_3 : decode cL_child 3 = .ok (.invokevirtual 31, 3) := by decide +kernel
theorem dL_child_6 : decode cL_child 6 = .ok (.istore_n 3, 1) := by decide +kernel
theorem dL_child_7 : decode cL_child 7 = .ok (.goto 8, 3) := by decide +kernel
theorem dL_child_10 : decode cL_child 10 = .ok (.astore 4, 2) := by decide +kernel
theorem dL_child_12 : decode cL_child 12 = .ok (.bipush (-53), 2) := by decide +kernel
theorem dL_child_14 : decode cL_child 14 = .ok (.ireturn, 1) := by decide +kernel
theorem dL_child_15 : decode cL_child 15 = .ok (.iload_n 3, 1) := by decide +kernel
theorem dL_child_16 : decode cL_child 16 = .ok (.ireturn, 1) := by decide +kernel
theorem dL_line_0 : decode cL_line 0 = .ok (.aload_n 0, 1) := by decide +kernel
theorem dL_line_1 : decode cL_line 1 = .ok (.iload_n 1, 1) := by decide +kernel
theorem dL_line_2 : decode cL_line 2 = .ok (.iload_n 2, 1) := by decide +kernel
theorem dL_line_3 : decode cL_line 3 = .ok (.invokevirtual 34, 3) := by decide +kernel
theorem dL_line_6 : decode cL_line 6 = .ok (.istore_n 3, 1) := by decide +kernel
theorem dL_line_7 : decode cL_line 7 = .ok (.goto 8, 3) := by decide +kernel
theorem dL_line_10 : decode cL_line 10 = .ok (.astore 4, 2) := by decide +kernel
theorem dL_line_12 : decode cL_line 12 = .ok (.bipush (-53), 2) := by decide +kernel
theorem dL_line_14 : decode cL_line 14 = .ok (.ireturn, 1) := by decide +kernel
theorem dL_line_15 : decode cL_line 15 = .ok (.iload_n 3, 1) := by decide +kernel
theorem dL_line_16 : decode cL_line 16 = .ok (.ireturn, 1) := by decide +kernel
theorem dL_write_0 : decode cL_write 0 = .ok (.aload_n 0, 1) := by decide +kernel
theorem dL_write_1 : decode cL_write 1 = .ok (.iload_n 1, 1) := by decide +kernel
theorem dL_write_2 : decode cL_write 2 = .ok (.iload_n 2, 1) := by decide +kernel
theorem dL_write_3 : decode cL_write 3 = .ok (.iload_n 3, 1) := by decide +kernel
theorem dL_write_4 : decode cL_write 4 = .ok (.invokevirtual 37, 3) := by decide +kernel
theorem dL_write_7 : decode cL_write 7 = .ok (.istore 4, 2) := by decide +kernel
theorem dL_write_9 : decode cL_write 9 = .ok (.goto 18, 3) := by decide +kernel
theorem dL_write_12 : decode cL_write 12 = .ok (.astore 5, 2) := by decide +kernel
theorem dL_write_14 : decode cL_write 14 = .ok (.bipush (-53), 2) := by decide +kernel
theorem dL_write_16 : decode cL_write 16 = .ok (.ireturn, 1) := by decide +kernel
theorem dL_write_17 : decode cL_write 17 = .ok (.astore 5, 2) := by decide +kernel
theorem dL_write_19 : decode cL_write 19 = .ok (.bipush (-51), 2) := by decide +kernel
theorem dL_write_21 : decode cL_write 21 = .ok (.ireturn, 1) := by decide +kernel
theorem dL_write_22 : decode cL_write 22 = .ok (.astore 5, 2) := by decide +kernel
theorem dL_write_24 : decode cL_write 24 = .ok (.bipush (-52), 2) := by decide +kernel
theorem dL_write_26 : decode cL_write 26 = .ok (.ireturn, 1) := by decide +kernel
theorem dL_write_27 : decode cL_write 27 = .ok (.iload 4, 2) := by decide +kernel
theorem dL_write_29 : decode cL_write 29 = .ok (.ireturn, 1) := by decide +kernel
theorem dL_request_0 : decode cL_request 0 = .ok (.aload_n 0, 1) := by decide +kernel
theorem dL_request_1 : decode cL_request 1 = .ok (.iload_n 1, 1) := by decide +kernel
theorem dL_request_2 : decode cL_request 2 = .ok (.iload_n 2, 1) := by decide +kernel
theorem dL_request_3 : decode cL_request 3 = .ok (.iload_n 3, 1) := by decide +kernel
theorem dL_request_4 : decode cL_request 4 = .ok (.iload 4, 2) := by decide +kernel
theorem dL_request_6 : decode cL_request 6 = .ok (.invokevirtual 41, 3) := by decide +kernel
theorem dL_request_9 : decode cL_request 9 = .ok (.istore 5, 2) := by decide +kernel
theorem dL_request_11 : decode cL_request 11 = .ok (.goto 18, 3) := by decide +kernel
theorem dL_request_14 : decode cL_request 14 = .ok (.astore 6, 2) := by decide +kernel
theorem dL_request_16 : decode cL_request 16 = .ok (.bipush (-53), 2) := by decide +kernel
theorem dL_request_18 : decode cL_request 18 = .ok (.ireturn, 1) := by decide +kernel
theorem dL_request_19 : decode cL_request 19 = .ok (.astore 6, 2) := by decide +kernel
theorem dL_request_21 : decode cL_request 21 = .ok (.bipush (-51), 2) := by decide +kernel
theorem dL_request_23 : decode cL_request 23 = .ok (.ireturn, 1) := by decide +kernel
theorem dL_request_24 : decode cL_request 24 = .ok (.astore 6, 2) := by decide +kernel
theorem dL_request_26 : decode cL_request 26 = .ok (.bipush (-52), 2) := by decide +kernel
theorem dL_request_28 : decode cL_request 28 = .ok (.ireturn, 1) := by decide +kernel
theorem dL_request_29 : decode cL_request 29 = .ok (.iload 5, 2) := by decide +kernel
theorem dL_request_31 : decode cL_request 31 = .ok (.ireturn, 1) := by decide +kernel
theorem dL_cancel_0 : decode cL_cancel 0 = .ok (.aload_n 0, 1) := by decide +kernel
theorem dL_cancel_1 : decode cL_cancel 1 = .ok (.iload_n 1, 1) := by decide +kernel
theorem dL_cancel_2 : decode cL_cancel 2 = .ok (.invokevirtual 45, 3) := by decide +kernel
theorem dL_cancel_5 : decode cL_cancel 5 = .ok (.istore_n 2, 1) := by decide +kernel
theorem dL_cancel_6 : decode cL_cancel 6 = .ok (.goto 11, 3) := by decide +kernel
theorem dL_cancel_9 : decode cL_cancel 9 = .ok (.astore_n 3, 1) := by decide +kernel
theorem dL_cancel_10 : decode cL_cancel 10 = .ok (.bipush (-53), 2) := by decide +kernel
theorem dL_cancel_12 : decode cL_cancel 12 = .ok (.ireturn, 1) := by decide +kernel
theorem dL_cancel_13 : decode cL_cancel 13 = .ok (.astore_n 3, 1) := by decide +kernel
theorem dL_cancel_14 : decode cL_cancel 14 = .ok (.bipush (-52), 2) := by decide +kernel
theorem dL_cancel_16 : decode cL_cancel 16 = .ok (.ireturn, 1) := by decide +kernel
theorem dL_cancel_17 : decode cL_cancel 17 = .ok (.iload_n 2, 1) := by decide +kernel
theorem dL_cancel_18 : decode cL_cancel 18 = .ok (.ireturn, 1) := by decide +kernel
theorem dL_renew_0 : decode cL_renew 0 = .ok (.aload_n 0, 1) := by decide +kernel
theorem dL_renew_1 : decode cL_renew 1 = .ok (.iload_n 1, 1) := by decide +kernel
theorem dL_renew_2 : decode cL_renew 2 = .ok (.iload_n 2, 1) := by decide +kernel
theorem dL_renew_3 : decode cL_renew 3 = .ok (.invokevirtual 48, 3) := by decide +kernel
theorem dL_renew_6 : decode cL_renew 6 = .ok (.istore_n 3, 1) := by decide +kernel
theorem dL_renew_7 : decode cL_renew 7 = .ok (.goto 18, 3) := by decide +kernel
theorem dL_renew_10 : decode cL_renew 10 = .ok (.astore 4, 2) := by decide +kernel
theorem dL_renew_12 : decode cL_renew 12 = .ok (.bipush (-53), 2) := by decide +kernel
theorem dL_renew_14 : decode cL_renew 14 = .ok (.ireturn, 1) := by decide +kernel
theorem dL_renew_15 : decode cL_renew 15 = .ok (.astore 4, 2) := by decide +kernel
theorem dL_renew_17 : decode cL_renew 17 = .ok (.bipush (-51), 2) := by decide +kernel
theorem dL_renew_19 : decode cL_renew 19 = .ok (.ireturn, 1) := by decide +kernel
theorem dL_renew_20 : decode cL_renew 20 = .ok (.astore 4, 2) := by decide +kernel
theorem dL_renew_22 : decode cL_renew 22 = .ok (.bipush (-52), 2) := by decide +kernel
theorem dL_renew_24 : decode cL_renew 24 = .ok (.ireturn, 1) := by decide +kernel
theorem dL_renew_25 : decode cL_renew 25 = .ok (.iload_n 3, 1) := by decide +kernel
theorem dL_renew_26 : decode cL_renew 26 = .ok (.ireturn, 1) := by decide +kernel
theorem dL_breakUp_0 : decode cL_breakUp 0 = .ok (.aload_n 0, 1) := by decide +kernel
theorem dL_breakUp_1 : decode cL_breakUp 1 = .ok (.iload_n 1, 1) := by decide +kernel
theorem dL_breakUp_2 : decode cL_breakUp 2 = .ok (.invokevirtual 51, 3) := by decide +kernel
theorem dL_breakUp_5 : decode cL_breakUp 5 = .ok (.istore_n 2, 1) := by decide +kernel
theorem dL_breakUp_6 : decode cL_breakUp 6 = .ok (.goto 11, 3) := by decide +kernel
theorem dL_breakUp_9 : decode cL_breakUp 9 = .ok (.astore_n 3, 1) := by decide +kernel
theorem dL_breakUp_10 : decode cL_breakUp 10 = .ok (.bipush (-53), 2) := by decide +kernel
theorem dL_breakUp_12 : decode cL_breakUp 12 = .ok (.ireturn, 1) := by decide +kernel
theorem dL_breakUp_13 : decode cL_breakUp 13 = .ok (.astore_n 3, 1) := by decide +kernel
theorem dL_breakUp_14 : decode cL_breakUp 14 = .ok (.bipush (-52), 2) := by decide +kernel
theorem dL_breakUp_16 : decode cL_breakUp 16 = .ok (.ireturn, 1) := by decide +kernel
theorem dL_breakUp_17 : decode cL_breakUp 17 = .ok (.iload_n 2, 1) := by decide +kernel
theorem dL_breakUp_18 : decode cL_breakUp 18 = .ok (.ireturn, 1) := by decide +kernel
theorem dL_discard_0 : decode cL_discard 0 = .ok (.aload_n 0, 1) := by decide +kernel
theorem dL_discard_1 : decode cL_discard 1 = .ok (.iload_n 1, 1) := by decide +kernel
theorem dL_discard_2 : decode cL_discard 2 = .ok (.invokevirtual 54, 3) := by decide +kernel
theorem dL_discard_5 : decode cL_discard 5 = .ok (.istore_n 2, 1) := by decide +kernel
theorem dL_discard_6 : decode cL_discard 6 = .ok (.goto 7, 3) := by decide +kernel
theorem dL_discard_9 : decode cL_discard 9 = .ok (.astore_n 3, 1) := by decide +kernel
theorem dL_discard_10 : decode cL_discard 10 = .ok (.bipush (-53), 2) := by decide +kernel
theorem dL_discard_12 : decode cL_discard 12 = .ok (.ireturn, 1) := by decide +kernel
theorem dL_discard_13 : decode cL_discard 13 = .ok (.iload_n 2, 1) := by decide +kernel
theorem dL_discard_14 : decode cL_discard 14 = .ok (.ireturn, 1) := by decide +kernel
theorem dL_edit_0 : decode cL_edit 0 = .ok (.aload_n 0, 1) := by decide +kernel
theorem dL_edit_1 : decode cL_edit 1 = .ok (.iload_n 1, 1) := by decide +kernel
theorem dL_edit_2 : decode cL_edit 2 = .ok (.iload_n 2, 1) := by decide +kernel
theorem dL_edit_3 : decode cL_edit 3 = .ok (.iload_n 3, 1) := by decide +kernel
theorem dL_edit_4 : decode cL_edit 4 = .ok (.iload 4, 2) := by decide +kernel
theorem dL_edit_6 : decode cL_edit 6 = .ok (.invokevirtual 57, 3) := by decide +kernel
theorem dL_edit_9 : decode cL_edit 9 = .ok (.istore 5, 2) := by decide +kernel
theorem dL_edit_11 : decode cL_edit 11 = .ok (.goto 18, 3) := by decide +kernel
theorem dL_edit_14 : decode cL_edit 14 = .ok (.astore 6, 2) := by decide +kernel
theorem dL_edit_16 : decode cL_edit 16 = .ok (.bipush (-53), 2) := by decide +kernel
theorem dL_edit_18 : decode cL_edit 18 = .ok (.ireturn, 1) := by decide +kernel
theorem dL_edit_19 : decode cL_edit 19 = .ok (.astore 6, 2) := by decide +kernel
theorem dL_edit_21 : decode cL_edit 21 = .ok (.bipush (-51), 2) := by decide +kernel
theorem dL_edit_23 : decode cL_edit 23 = .ok (.ireturn, 1) := by decide +kernel
theorem dL_edit_24 : decode cL_edit 24 = .ok (.astore 6, 2) := by decide +kernel
theorem dL_edit_26 : decode cL_edit 26 = .ok (.bipush (-52), 2) := by decide +kernel
theorem dL_edit_28 : decode cL_edit 28 = .ok (.ireturn, 1) := by decide +kernel
theorem dL_edit_29 : decode cL_edit 29 = .ok (.iload 5, 2) := by decide +kernel
theorem dL_edit_31 : decode cL_edit 31 = .ok (.ireturn, 1) := by decide +kernel
theorem dL_copied_0 : decode cL_copied 0 = .ok (.aload_n 0, 1) := by decide +kernel
theorem dL_copied_1 : decode cL_copied 1 = .ok (.iload_n 1, 1) := by decide +kernel
theorem dL_copied_2 : decode cL_copied 2 = .ok (.iload_n 2, 1) := by decide +kernel
theorem dL_copied_3 : decode cL_copied 3 = .ok (.iload_n 3, 1) := by decide +kernel
theorem dL_copied_4 : decode cL_copied 4 = .ok (.iload 4, 2) := by decide +kernel
theorem dL_copied_6 : decode cL_copied 6 = .ok (.invokevirtual 61, 3) := by decide +kernel
theorem dL_copied_9 : decode cL_copied 9 = .ok (.istore 5, 2) := by decide +kernel
theorem dL_copied_11 : decode cL_copied 11 = .ok (.goto 8, 3) := by decide +kernel
theorem dL_copied_14 : decode cL_copied 14 = .ok (.astore 6, 2) := by decide +kernel
theorem dL_copied_16 : decode cL_copied 16 = .ok (.bipush (-53), 2) := by decide +kernel
theorem dL_copied_18 : decode cL_copied 18 = .ok (.ireturn, 1) := by decide +kernel
theorem dL_copied_19 : decode cL_copied 19 = .ok (.iload 5, 2) := by decide +kernel
theorem dL_copied_21 : decode cL_copied 21 = .ok (.ireturn, 1) := by decide +kernel
theorem dL_conflicts_0 : decode cL_conflicts 0 = .ok (.aload_n 0, 1) := by decide +kernel
theorem dL_conflicts_1 : decode cL_conflicts 1 = .ok (.iload_n 1, 1) := by decide +kernel
theorem dL_conflicts_2 : decode cL_conflicts 2 = .ok (.invokevirtual 64, 3) := by decide +kernel
theorem dL_conflicts_5 : decode cL_conflicts 5 = .ok (.istore_n 2, 1) := by decide +kernel
theorem dL_conflicts_6 : decode cL_conflicts 6 = .ok (.goto 7, 3) := by decide +kernel
theorem dL_conflicts_9 : decode cL_conflicts 9 = .ok (.astore_n 3, 1) := by decide +kernel
theorem dL_conflicts_10 : decode cL_conflicts 10 = .ok (.bipush (-53), 2) := by decide +kernel
theorem dL_conflicts_12 : decode cL_conflicts 12 = .ok (.ireturn, 1) := by decide +kernel
theorem dL_conflicts_13 : decode cL_conflicts 13 = .ok (.iload_n 2, 1) := by decide +kernel
theorem dL_conflicts_14 : decode cL_conflicts 14 = .ok (.ireturn, 1) := by decide +kernel
theorem dL_giveBack_0 : decode cL_giveBack 0 = .ok (.aload_n 0, 1) := by decide +kernel
theorem dL_giveBack_1 : decode cL_giveBack 1 = .ok (.iload_n 1, 1) := by decide +kernel
theorem dL_giveBack_2 : decode cL_giveBack 2 = .ok (.iload_n 2, 1) := by decide +kernel
theorem dL_giveBack_3 : decode cL_giveBack 3 = .ok (.invokevirtual 67, 3) := by decide +kernel
theorem dL_giveBack_6 : decode cL_giveBack 6 = .ok (.istore_n 3, 1) := by decide +kernel
theorem dL_giveBack_7 : decode cL_giveBack 7 = .ok (.goto 18, 3) := by decide +kernel
theorem dL_giveBack_10 : decode cL_giveBack 10 = .ok (.astore 4, 2) := by decide +kernel
theorem dL_giveBack_12 : decode cL_giveBack 12 = .ok (.bipush (-53), 2) := by decide +kernel
theorem dL_giveBack_14 : decode cL_giveBack 14 = .ok (.ireturn, 1) := by decide +kernel
theorem dL_giveBack_15 : decode cL_giveBack 15 = .ok (.astore 4, 2) := by decide +kernel
theorem dL_giveBack_17 : decode cL_giveBack 17 = .ok (.bipush (-51), 2) := by decide +kernel
theorem dL_giveBack_19 : decode cL_giveBack 19 = .ok (.ireturn, 1) := by decide +kernel
theorem dL_giveBack_20 : decode cL_giveBack 20 = .ok (.astore 4, 2) := by decide +kernel
theorem dL_giveBack_22 : decode cL_giveBack 22 = .ok (.bipush (-52), 2) := by decide +kernel
theorem dL_giveBack_24 : decode cL_giveBack 24 = .ok (.ireturn, 1) := by decide +kernel
theorem dL_giveBack_25 : decode cL_giveBack 25 = .ok (.iload_n 3, 1) := by decide +kernel
theorem dL_giveBack_26 : decode cL_giveBack 26 = .ok (.ireturn, 1) := by decide +kernel
theorem dL_checkOut_0 : decode cL_checkOut 0 = .ok (.aload_n 0, 1) := by decide +kernel
theorem dL_checkOut_1 : decode cL_checkOut 1 = .ok (.iload_n 1, 1) := by decide +kernel
theorem dL_checkOut_2 : decode cL_checkOut 2 = .ok (.iload_n 2, 1) := by decide +kernel
theorem dL_checkOut_3 : decode cL_checkOut 3 = .ok (.invokevirtual 70, 3) := by decide +kernel
theorem dL_checkOut_6 : decode cL_checkOut 6 = .ok (.istore_n 3, 1) := by decide +kernel
theorem dL_checkOut_7 : decode cL_checkOut 7 = .ok (.goto 13, 3) := by decide +kernel
theorem dL_checkOut_10 : decode cL_checkOut 10 = .ok (.astore 4, 2) := by decide +kernel
theorem dL_checkOut_12 : decode cL_checkOut 12 = .ok (.bipush (-53), 2) := by decide +kernel
theorem dL_checkOut_14 : decode cL_checkOut 14 = .ok (.ireturn, 1) := by decide +kernel
theorem dL_checkOut_15 : decode cL_checkOut 15 = .ok (.astore 4, 2) := by decide +kernel
theorem dL_checkOut_17 : decode cL_checkOut 17 = .ok (.bipush (-51), 2) := by decide +kernel
theorem dL_checkOut_19 : decode cL_checkOut 19 = .ok (.ireturn, 1) := by decide +kernel
theorem dL_checkOut_20 : decode cL_checkOut 20 = .ok (.iload_n 3, 1) := by decide +kernel
theorem dL_checkOut_21 : decode cL_checkOut 21 = .ok (.ireturn, 1) := by decide +kernel
theorem dL_holders_0 : decode cL_holders 0 = .ok (.aload_n 0, 1) := by decide +kernel
theorem dL_holders_1 : decode cL_holders 1 = .ok (.iload_n 1, 1) := by decide +kernel
theorem dL_holders_2 : decode cL_holders 2 = .ok (.invokevirtual 73, 3) := by decide +kernel
theorem dL_holders_5 : decode cL_holders 5 = .ok (.istore_n 2, 1) := by decide +kernel
theorem dL_holders_6 : decode cL_holders 6 = .ok (.goto 7, 3) := by decide +kernel
theorem dL_holders_9 : decode cL_holders 9 = .ok (.astore_n 3, 1) := by decide +kernel
theorem dL_holders_10 : decode cL_holders 10 = .ok (.bipush (-53), 2) := by decide +kernel
theorem dL_holders_12 : decode cL_holders 12 = .ok (.ireturn, 1) := by decide +kernel
theorem dL_holders_13 : decode cL_holders 13 = .ok (.iload_n 2, 1) := by decide +kernel
theorem dL_holders_14 : decode cL_holders 14 = .ok (.ireturn, 1) := by decide +kernel
theorem dL_ifBroken_0 : decode cL_ifBroken 0 = .ok (.aload_n 0, 1) := by decide +kernel
theorem dL_ifBroken_1 : decode cL_ifBroken 1 = .ok (.iload_n 1, 1) := by decide +kernel
theorem dL_ifBroken_2 : decode cL_ifBroken 2 = .ok (.invokevirtual 76, 3) := by decide +kernel
theorem dL_ifBroken_5 : decode cL_ifBroken 5 = .ok (.istore_n 2, 1) := by decide +kernel
theorem dL_ifBroken_6 : decode cL_ifBroken 6 = .ok (.goto 7, 3) := by decide +kernel
theorem dL_ifBroken_9 : decode cL_ifBroken 9 = .ok (.astore_n 3, 1) := by decide +kernel
theorem dL_ifBroken_10 : decode cL_ifBroken 10 = .ok (.bipush (-53), 2) := by decide +kernel
theorem dL_ifBroken_12 : decode cL_ifBroken 12 = .ok (.ireturn, 1) := by decide +kernel
theorem dL_ifBroken_13 : decode cL_ifBroken 13 = .ok (.iload_n 2, 1) := by decide +kernel
theorem dL_ifBroken_14 : decode cL_ifBroken 14 = .ok (.ireturn, 1) := by decide +kernel
theorem dL_grantedAt_0 : decode cL_grantedAt 0 = .ok (.aload_n 0, 1) := by decide +kernel
theorem dL_grantedAt_1 : decode cL_grantedAt 1 = .ok (.iload_n 1, 1) := by decide +kernel
theorem dL_grantedAt_2 : decode cL_grantedAt 2 = .ok (.invokevirtual 79, 3) := by decide +kernel
theorem dL_grantedAt_5 : decode cL_grantedAt 5 = .ok (.istore_n 2, 1) := by decide +kernel
theorem dL_grantedAt_6 : decode cL_grantedAt 6 = .ok (.goto 11, 3) := by decide +kernel
theorem dL_grantedAt_9 : decode cL_grantedAt 9 = .ok (.astore_n 3, 1) := by decide +kernel
theorem dL_grantedAt_10 : decode cL_grantedAt 10 = .ok (.bipush (-53), 2) := by decide +kernel
theorem dL_grantedAt_12 : decode cL_grantedAt 12 = .ok (.ireturn, 1) := by decide +kernel
theorem dL_grantedAt_13 : decode cL_grantedAt 13 = .ok (.astore_n 3, 1) := by decide +kernel
theorem dL_grantedAt_14 : decode cL_grantedAt 14 = .ok (.bipush (-52), 2) := by decide +kernel
theorem dL_grantedAt_16 : decode cL_grantedAt 16 = .ok (.ireturn, 1) := by decide +kernel
theorem dL_grantedAt_17 : decode cL_grantedAt 17 = .ok (.iload_n 2, 1) := by decide +kernel
theorem dL_grantedAt_18 : decode cL_grantedAt 18 = .ok (.ireturn, 1) := by decide +kernel
theorem dL_waitsFor_0 : decode cL_waitsFor 0 = .ok (.aload_n 0, 1) := by decide +kernel
theorem dL_waitsFor_1 : decode cL_waitsFor 1 = .ok (.iload_n 1, 1) := by decide +kernel
theorem dL_waitsFor_2 : decode cL_waitsFor 2 = .ok (.invokevirtual 82, 3) := by decide +kernel
theorem dL_waitsFor_5 : decode cL_waitsFor 5 = .ok (.istore_n 2, 1) := by decide +kernel
theorem dL_waitsFor_6 : decode cL_waitsFor 6 = .ok (.goto 11, 3) := by decide +kernel
theorem dL_waitsFor_9 : decode cL_waitsFor 9 = .ok (.astore_n 3, 1) := by decide +kernel
theorem dL_waitsFor_10 : decode cL_waitsFor 10 = .ok (.bipush (-53), 2) := by decide +kernel
theorem dL_waitsFor_12 : decode cL_waitsFor 12 = .ok (.ireturn, 1) := by decide +kernel
theorem dL_waitsFor_13 : decode cL_waitsFor 13 = .ok (.astore_n 3, 1) := by decide +kernel
theorem dL_waitsFor_14 : decode cL_waitsFor 14 = .ok (.bipush (-52), 2) := by decide +kernel
theorem dL_waitsFor_16 : decode cL_waitsFor 16 = .ok (.ireturn, 1) := by decide +kernel
theorem dL_waitsFor_17 : decode cL_waitsFor 17 = .ok (.iload_n 2, 1) := by decide +kernel
theorem dL_waitsFor_18 : decode cL_waitsFor 18 = .ok (.ireturn, 1) := by decide +kernel
theorem dL_entry_0 : decode cL_entry 0 = .ok (.aload_n 0, 1) := by decide +kernel
theorem dL_entry_1 : decode cL_entry 1 = .ok (.iload_n 1, 1) := by decide +kernel
theorem dL_entry_2 : decode cL_entry 2 = .ok (.iload_n 2, 1) := by decide +kernel
theorem dL_entry_3 : decode cL_entry 3 = .ok (.invokevirtual 85, 3) := by decide +kernel
theorem dL_entry_6 : decode cL_entry 6 = .ok (.istore_n 3, 1) := by decide +kernel
theorem dL_entry_7 : decode cL_entry 7 = .ok (.goto 13, 3) := by decide +kernel
theorem dL_entry_10 : decode cL_entry 10 = .ok (.astore 4, 2) := by decide +kernel
theorem dL_entry_12 : decode cL_entry 12 = .ok (.bipush (-53), 2) := by decide +kernel
theorem dL_entry_14 : decode cL_entry 14 = .ok (.ireturn, 1) := by decide +kernel
theorem dL_entry_15 : decode cL_entry 15 = .ok (.astore 4, 2) := by decide +kernel
theorem dL_entry_17 : decode cL_entry 17 = .ok (.bipush (-51), 2) := by decide +kernel
theorem dL_entry_19 : decode cL_entry 19 = .ok (.ireturn, 1) := by decide +kernel
theorem dL_entry_20 : decode cL_entry 20 = .ok (.iload_n 3, 1) := by decide +kernel
theorem dL_entry_21 : decode cL_entry 21 = .ok (.ireturn, 1) := by decide +kernel
theorem dL_blame_0 : decode cL_blame 0 = .ok (.aload_n 0, 1) := by decide +kernel
theorem dL_blame_1 : decode cL_blame 1 = .ok (.iload_n 1, 1) := by decide +kernel
theorem dL_blame_2 : decode cL_blame 2 = .ok (.iload_n 2, 1) := by decide +kernel
theorem dL_blame_3 : decode cL_blame 3 = .ok (.invokevirtual 88, 3) := by decide +kernel
theorem dL_blame_6 : decode cL_blame 6 = .ok (.istore_n 3, 1) := by decide +kernel
theorem dL_blame_7 : decode cL_blame 7 = .ok (.goto 8, 3) := by decide +kernel
theorem dL_blame_10 : decode cL_blame 10 = .ok (.astore 4, 2) := by decide +kernel
theorem dL_blame_12 : decode cL_blame 12 = .ok (.bipush (-53), 2) := by decide +kernel
theorem dL_blame_14 : decode cL_blame 14 = .ok (.ireturn, 1) := by decide +kernel
theorem dL_blame_15 : decode cL_blame 15 = .ok (.iload_n 3, 1) := by decide +kernel
theorem dL_blame_16 : decode cL_blame 16 = .ok (.ireturn, 1) := by decide +kernel
theorem dL_lineAt_0 : decode cL_lineAt 0 = .ok (.aload_n 0, 1) := by decide +kernel
theorem dL_lineAt_1 : decode cL_lineAt 1 = .ok (.iload_n 1, 1) := by decide +kernel
theorem dL_lineAt_2 : decode cL_lineAt 2 = .ok (.iload_n 2, 1) := by decide +kernel
theorem dL_lineAt_3 : decode cL_lineAt 3 = .ok (.iload_n 3, 1) := by decide +kernel
theorem dL_lineAt_4 : decode cL_lineAt 4 = .ok (.invokevirtual 91, 3) := by decide +kernel
theorem dL_lineAt_7 : decode cL_lineAt 7 = .ok (.istore 4, 2) := by decide +kernel
theorem dL_lineAt_9 : decode cL_lineAt 9 = .ok (.goto 13, 3) := by decide +kernel
theorem dL_lineAt_12 : decode cL_lineAt 12 = .ok (.astore 5, 2) := by decide +kernel
theorem dL_lineAt_14 : decode cL_lineAt 14 = .ok (.bipush (-53), 2) := by decide +kernel
theorem dL_lineAt_16 : decode cL_lineAt 16 = .ok (.ireturn, 1) := by decide +kernel
theorem dL_lineAt_17 : decode cL_lineAt 17 = .ok (.astore 5, 2) := by decide +kernel
theorem dL_lineAt_19 : decode cL_lineAt 19 = .ok (.bipush (-51), 2) := by decide +kernel
theorem dL_lineAt_21 : decode cL_lineAt 21 = .ok (.ireturn, 1) := by decide +kernel
theorem dL_lineAt_22 : decode cL_lineAt 22 = .ok (.iload 4, 2) := by decide +kernel
theorem dL_lineAt_24 : decode cL_lineAt 24 = .ok (.ireturn, 1) := by decide +kernel
theorem dL_revert_0 : decode cL_revert 0 = .ok (.aload_n 0, 1) := by decide +kernel
theorem dL_revert_1 : decode cL_revert 1 = .ok (.iload_n 1, 1) := by decide +kernel
theorem dL_revert_2 : decode cL_revert 2 = .ok (.iload_n 2, 1) := by decide +kernel
theorem dL_revert_3 : decode cL_revert 3 = .ok (.invokevirtual 94, 3) := by decide +kernel
theorem dL_revert_6 : decode cL_revert 6 = .ok (.istore_n 3, 1) := by decide +kernel
theorem dL_revert_7 : decode cL_revert 7 = .ok (.goto 18, 3) := by decide +kernel
theorem dL_revert_10 : decode cL_revert 10 = .ok (.astore 4, 2) := by decide +kernel
theorem dL_revert_12 : decode cL_revert 12 = .ok (.bipush (-53), 2) := by decide +kernel
theorem dL_revert_14 : decode cL_revert 14 = .ok (.ireturn, 1) := by decide +kernel
theorem dL_revert_15 : decode cL_revert 15 = .ok (.astore 4, 2) := by decide +kernel
theorem dL_revert_17 : decode cL_revert 17 = .ok (.bipush (-51), 2) := by decide +kernel
theorem dL_revert_19 : decode cL_revert 19 = .ok (.ireturn, 1) := by decide +kernel
theorem dL_revert_20 : decode cL_revert 20 = .ok (.astore 4, 2) := by decide +kernel
theorem dL_revert_22 : decode cL_revert 22 = .ok (.bipush (-52), 2) := by decide +kernel
theorem dL_revert_24 : decode cL_revert 24 = .ok (.ireturn, 1) := by decide +kernel
theorem dL_revert_25 : decode cL_revert 25 = .ok (.iload_n 3, 1) := by decide +kernel
theorem dL_revert_26 : decode cL_revert 26 = .ok (.ireturn, 1) := by decide +kernel
theorem dL_waitingAt_0 : decode cL_waitingAt 0 = .ok (.aload_n 0, 1) := by decide +kernel
theorem dL_waitingAt_1 : decode cL_waitingAt 1 = .ok (.iload_n 1, 1) := by decide +kernel
theorem dL_waitingAt_2 : decode cL_waitingAt 2 = .ok (.iload_n 2, 1) := by decide +kernel
theorem dL_waitingAt_3 : decode cL_waitingAt 3 = .ok (.invokevirtual 97, 3) := by decide +kernel
theorem dL_waitingAt_6 : decode cL_waitingAt 6 = .ok (.istore_n 3, 1) := by decide +kernel
theorem dL_waitingAt_7 : decode cL_waitingAt 7 = .ok (.goto 13, 3) := by decide +kernel
theorem dL_waitingAt_10 : decode cL_waitingAt 10 = .ok (.astore 4, 2) := by decide +kernel
theorem dL_waitingAt_12 : decode cL_waitingAt 12 = .ok (.bipush (-53), 2) := by decide +kernel
theorem dL_waitingAt_14 : decode cL_waitingAt 14 = .ok (.ireturn, 1) := by decide +kernel
theorem dL_waitingAt_15 : decode cL_waitingAt 15 = .ok (.astore 4, 2) := by decide +kernel
theorem dL_waitingAt_17 : decode cL_waitingAt 17 = .ok (.bipush (-51), 2) := by decide +kernel
theorem dL_waitingAt_19 : decode cL_waitingAt 19 = .ok (.ireturn, 1) := by decide +kernel
theorem dL_waitingAt_20 : decode cL_waitingAt 20 = .ok (.iload_n 3, 1) := by decide +kernel
theorem dL_waitingAt_21 : decode cL_waitingAt 21 = .ok (.ireturn, 1) := by decide +kernel
theorem dL_pass_0 : decode cL_pass 0 = .ok (.aload_n 0, 1) := by decide +kernel
theorem dL_pass_1 : decode cL_pass 1 = .ok (.iload_n 1, 1) := by decide +kernel
theorem dL_pass_2 : decode cL_pass 2 = .ok (.invokevirtual 100, 3) := by decide +kernel
theorem dL_pass_5 : decode cL_pass 5 = .ok (.istore_n 2, 1) := by decide +kernel
theorem dL_pass_6 : decode cL_pass 6 = .ok (.goto 7, 3) := by decide +kernel
theorem dL_pass_9 : decode cL_pass 9 = .ok (.astore_n 3, 1) := by decide +kernel
theorem dL_pass_10 : decode cL_pass 10 = .ok (.bipush (-51), 2) := by decide +kernel
theorem dL_pass_12 : decode cL_pass 12 = .ok (.ireturn, 1) := by decide +kernel
theorem dL_pass_13 : decode cL_pass 13 = .ok (.iload_n 2, 1) := by decide +kernel
theorem dL_pass_14 : decode cL_pass 14 = .ok (.ireturn, 1) := by decide +kernel
theorem dL_useBits_0 : decode cL_useBits 0 = .ok (.aload_n 0, 1) := by decide +kernel
theorem dL_useBits_1 : decode cL_useBits 1 = .ok (.iload_n 1, 1) := by decide +kernel
theorem dL_useBits_2 : decode cL_useBits 2 = .ok (.invokevirtual 103, 3) := by decide +kernel
theorem dL_useBits_5 : decode cL_useBits 5 = .ok (.istore_n 2, 1) := by decide +kernel
theorem dL_useBits_6 : decode cL_useBits 6 = .ok (.goto 7, 3) := by decide +kernel
theorem dL_useBits_9 : decode cL_useBits 9 = .ok (.astore_n 3, 1) := by decide +kernel
theorem dL_useBits_10 : decode cL_useBits 10 = .ok (.bipush (-53), 2) := by decide +kernel
theorem dL_useBits_12 : decode cL_useBits 12 = .ok (.ireturn, 1) := by decide +kernel
theorem dL_useBits_13 : decode cL_useBits 13 = .ok (.iload_n 2, 1) := by decide +kernel
theorem dL_useBits_14 : decode cL_useBits 14 = .ok (.ireturn, 1) := by decide +kernel
theorem dL_append_0 : decode cL_append 0 = .ok (.aload_n 0, 1) := by decide +kernel
theorem dL_append_1 : decode cL_append 1 = .ok (.iload_n 1, 1) := by decide +kernel
theorem dL_append_2 : decode cL_append 2 = .ok (.invokevirtual 106, 3) := by decide +kernel
theorem dL_append_5 : decode cL_append 5 = .ok (.istore_n 2, 1) := by decide +kernel
theorem dL_append_6 : decode cL_append 6 = .ok (.goto 11, 3) := by decide +kernel
theorem dL_append_9 : decode cL_append 9 = .ok (.astore_n 3, 1) := by decide +kernel
theorem dL_append_10 : decode cL_append 10 = .ok (.bipush (-51), 2) := by decide +kernel
theorem dL_append_12 : decode cL_append 12 = .ok (.ireturn, 1) := by decide +kernel
theorem dL_append_13 : decode cL_append 13 = .ok (.astore_n 3, 1) := by decide +kernel
theorem dL_append_14 : decode cL_append 14 = .ok (.bipush (-52), 2) := by decide +kernel
theorem dL_append_16 : decode cL_append 16 = .ok (.ireturn, 1) := by decide +kernel
theorem dL_append_17 : decode cL_append 17 = .ok (.iload_n 2, 1) := by decide +kernel
theorem dL_append_18 : decode cL_append 18 = .ok (.ireturn, 1) := by decide +kernel
theorem dL_outline_0 : decode cL_outline 0 = .ok (.aload_n 0, 1) := by decide +kernel
theorem dL_outline_1 : decode cL_outline 1 = .ok (.iload_n 1, 1) := by decide +kernel
theorem dL_outline_2 : decode cL_outline 2 = .ok (.invokevirtual 109, 3) := by decide +kernel
theorem dL_outline_5 : decode cL_outline 5 = .ok (.istore_n 2, 1) := by decide +kernel
theorem dL_outline_6 : decode cL_outline 6 = .ok (.goto 7, 3) := by decide +kernel
theorem dL_outline_9 : decode cL_outline 9 = .ok (.astore_n 3, 1) := by decide +kernel
theorem dL_outline_10 : decode cL_outline 10 = .ok (.bipush (-51), 2) := by decide +kernel
theorem dL_outline_12 : decode cL_outline 12 = .ok (.ireturn, 1) := by decide +kernel
theorem dL_outline_13 : decode cL_outline 13 = .ok (.iload_n 2, 1) := by decide +kernel
theorem dL_outline_14 : decode cL_outline 14 = .ok (.ireturn, 1) := by decide +kernel
theorem dL_undo_0 : decode cL_undo 0 = .ok (.aload_n 0, 1) := by decide +kernel
theorem dL_undo_1 : decode cL_undo 1 = .ok (.invokevirtual 112, 3) := by decide +kernel
theorem dL_undo_4 : decode cL_undo 4 = .ok (.istore_n 1, 1) := by decide +kernel
theorem dL_undo_5 : decode cL_undo 5 = .ok (.goto 7, 3) := by decide +kernel
theorem dL_undo_8 : decode cL_undo 8 = .ok (.astore_n 2, 1) := by decide +kernel
theorem dL_undo_9 : decode cL_undo 9 = .ok (.bipush (-52), 2) := by decide +kernel
theorem dL_undo_11 : decode cL_undo 11 = .ok (.ireturn, 1) := by decide +kernel
theorem dL_undo_12 : decode cL_undo 12 = .ok (.iload_n 1, 1) := by decide +kernel
theorem dL_undo_13 : decode cL_undo 13 = .ok (.ireturn, 1) := by decide +kernel
theorem dL_print_0 : decode cL_print 0 = .ok (.ldc2_w 116, 3) := by decide +kernel
theorem dL_print_3 : decode cL_print 3 = .ok (.ldc2_w 116, 3) := by decide +kernel
theorem dL_print_6 : decode cL_print 6 = .ok (.ldc2_w 116, 3) := by decide +kernel
theorem dL_print_9 : decode cL_print 9 = .ok (.aload_n 0, 1) := by decide +kernel
theorem dL_print_10 : decode cL_print 10 = .ok (.invokevirtual 118, 3) := by decide +kernel
theorem dL_print_13 : decode cL_print 13 = .ok (.i2l, 1) := by decide +kernel
theorem dL_print_14 : decode cL_print 14 = .ok (.lmul, 1) := by decide +kernel
theorem dL_print_15 : decode cL_print 15 = .ok (.aload_n 0, 1) := by decide +kernel
theorem dL_print_16 : decode cL_print 16 = .ok (.invokevirtual 121, 3) := by decide +kernel
theorem dL_print_19 : decode cL_print 19 = .ok (.i2l, 1) := by decide +kernel
theorem dL_print_20 : decode cL_print 20 = .ok (.ladd, 1) := by decide +kernel
theorem dL_print_21 : decode cL_print 21 = .ok (.lmul, 1) := by decide +kernel
theorem dL_print_22 : decode cL_print 22 = .ok (.aload_n 0, 1) := by decide +kernel
theorem dL_print_23 : decode cL_print 23 = .ok (.invokevirtual 124, 3) := by decide +kernel
theorem dL_print_26 : decode cL_print 26 = .ok (.i2l, 1) := by decide +kernel
theorem dL_print_27 : decode cL_print 27 = .ok (.ladd, 1) := by decide +kernel
theorem dL_print_28 : decode cL_print 28 = .ok (.lmul, 1) := by decide +kernel
theorem dL_print_29 : decode cL_print 29 = .ok (.aload_n 0, 1) := by decide +kernel
theorem dL_print_30 : decode cL_print 30 = .ok (.iconst 0, 1) := by decide +kernel
theorem dL_print_31 : decode cL_print 31 = .ok (.invokestatic 127, 3) := by decide +kernel
theorem dL_print_34 : decode cL_print 34 = .ok (.i2l, 1) := by decide +kernel
theorem dL_print_35 : decode cL_print 35 = .ok (.ladd, 1) := by decide +kernel
theorem dL_print_36 : decode cL_print 36 = .ok (.lstore_n 1, 1) := by decide +kernel
theorem dL_print_37 : decode cL_print 37 = .ok (.aload_n 0, 1) := by decide +kernel
theorem dL_print_38 : decode cL_print 38 = .ok (.invokestatic 132, 3) := by decide +kernel
theorem dL_print_41 : decode cL_print 41 = .ok (.ifCond .lt 11, 3) := by decide +kernel
theorem dL_print_44 : decode cL_print 44 = .ok (.ldc2_w 116, 3) := by decide +kernel
theorem dL_print_47 : decode cL_print 47 = .ok (.lload_n 1, 1) := by decide +kernel
theorem dL_print_48 : decode cL_print 48 = .ok (.lmul, 1) := by decide +kernel
theorem dL_print_49 : decode cL_print 49 = .ok (.goto 4, 3) := by decide +kernel
theorem dL_print_52 : decode cL_print 52 = .ok (.lconst 0, 1) := by decide +kernel
theorem dL_print_53 : decode cL_print 53 = .ok (.lstore_n 1, 1) := by decide +kernel
theorem dL_print_54 : decode cL_print 54 = .ok (.iconst 0, 1) := by decide +kernel
theorem dL_print_55 : decode cL_print 55 = .ok (.istore_n 3, 1) := by decide +kernel
theorem dL_print_56 : decode cL_print 56 = .ok (.iload_n 3, 1) := by decide +kernel
theorem dL_print_57 : decode cL_print 57 = .ok (.bipush 20, 2) := by decide +kernel
theorem dL_print_59 : decode cL_print 59 = .ok (.if_icmp .ge 83, 3) := by decide +kernel
theorem dL_print_62 : decode cL_print 62 = .ok (.iconst 0, 1) := by decide +kernel
theorem dL_print_63 : decode cL_print 63 = .ok (.istore 4, 2) := by decide +kernel
theorem dL_print_65 : decode cL_print 65 = .ok (.iload 4, 2) := by decide +kernel
theorem dL_print_67 : decode cL_print 67 = .ok (.iconst 5, 1) := by decide +kernel
theorem dL_print_68 : decode cL_print 68 = .ok (.if_icmp .ge 24, 3) := by decide +kernel
theorem dL_print_71 : decode cL_print 71 = .ok (.ldc2_w 116, 3) := by decide +kernel
theorem dL_print_74 : decode cL_print 74 = .ok (.lload_n 1, 1) := by decide +kernel
theorem dL_print_75 : decode cL_print 75 = .ok (.lmul, 1) := by decide +kernel
theorem dL_print_76 : decode cL_print 76 = .ok (.aload_n 0, 1) := by decide +kernel
theorem dL_print_77 : decode cL_print 77 = .ok (.iload_n 3, 1) := by decide +kernel
theorem dL_print_78 : decode cL_print 78 = .ok (.iload 4, 2) := by decide +kernel
theorem dL_print_80 : decode cL_print 80 = .ok (.invokestatic 135, 3) := by decide +kernel
theorem dL_print_83 : decode cL_print 83 = .ok (.i2l, 1) := by decide +kernel
theorem dL_print_84 : decode cL_print 84 = .ok (.ladd, 1) := by decide +kernel
theorem dL_print_85 : decode cL_print 85 = .ok (.lstore_n 1, 1) := by decide +kernel
theorem dL_print_86 : decode cL_print 86 = .ok (.iinc 4 1, 3) := by decide +kernel
theorem dL_print_89 : decode cL_print 89 = .ok (.goto (-24), 3) := by decide +kernel
theorem dL_print_92 : decode cL_print 92 = .ok (.iconst 0, 1) := by decide +kernel
theorem dL_print_93 : decode cL_print 93 = .ok (.istore 4, 2) := by decide +kernel
theorem dL_print_95 : decode cL_print 95 = .ok (.iload 4, 2) := by decide +kernel
theorem dL_print_97 : decode cL_print 97 = .ok (.bipush 6, 2) := by decide +kernel
theorem dL_print_99 : decode cL_print 99 = .ok (.if_icmp .ge 24, 3) := by decide +kernel
theorem dL_print_102 : decode cL_print 102 = .ok (.ldc2_w 116, 3) := by decide +kernel
theorem dL_print_105 : decode cL_print 105 = .ok (.lload_n 1, 1) := by decide +kernel
theorem dL_print_106 : decode cL_print 106 = .ok (.lmul, 1) := by decide +kernel
theorem dL_print_107 : decode cL_print 107 = .ok (.aload_n 0, 1) := by decide +kernel
theorem dL_print_108 : decode cL_print 108 = .ok (.iload_n 3, 1) := by decide +kernel
theorem dL_print_109 : decode cL_print 109 = .ok (.iload 4, 2) := by decide +kernel
theorem dL_print_111 : decode cL_print 111 = .ok (.invokestatic 138, 3) := by decide +kernel
theorem dL_print_114 : decode cL_print 114 = .ok (.i2l, 1) := by decide +kernel
theorem dL_print_115 : decode cL_print 115 = .ok (.ladd, 1) := by decide +kernel
theorem dL_print_116 : decode cL_print 116 = .ok (.lstore_n 1, 1) := by decide +kernel
theorem dL_print_117 : decode cL_print 117 = .ok (.iinc 4 1, 3) := by decide +kernel
theorem dL_print_120 : decode cL_print 120 = .ok (.goto (-25), 3) := by decide +kernel
theorem dL_print_123 : decode cL_print 123 = .ok (.ldc2_w 116, 3) := by decide +kernel
theorem dL_print_126 : decode cL_print 126 = .ok (.lload_n 1, 1) := by decide +kernel
theorem dL_print_127 : decode cL_print 127 = .ok (.lmul, 1) := by decide +kernel
theorem dL_print_128 : decode cL_print 128 = .ok (.aload_n 0, 1) := by decide +kernel
theorem dL_print_129 : decode cL_print 129 = .ok (.iload_n 3, 1) := by decide +kernel
theorem dL_print_130 : decode cL_print 130 = .ok (.invokestatic 140, 3) := by decide +kernel
theorem dL_print_133 : decode cL_print 133 = .ok (.i2l, 1) := by decide +kernel
theorem dL_print_134 : decode cL_print 134 = .ok (.ladd, 1) := by decide +kernel
theorem dL_print_135 : decode cL_print 135 = .ok (.lstore_n 1, 1) := by decide +kernel
theorem dL_print_136 : decode cL_print 136 = .ok (.iinc 3 1, 3) := by decide +kernel
theorem dL_print_139 : decode cL_print 139 = .ok (.goto (-83), 3) := by decide +kernel
theorem dL_print_142 : decode cL_print 142 = .ok (.iconst 0, 1) := by decide +kernel
theorem dL_print_143 : decode cL_print 143 = .ok (.istore_n 3, 1) := by decide +kernel
theorem dL_print_144 : decode cL_print 144 = .ok (.iload_n 3, 1) := by decide +kernel
theorem dL_print_145 : decode cL_print 145 = .ok (.bipush 10, 2) := by decide +kernel
theorem dL_print_147 : decode cL_print 147 = .ok (.if_icmp .ge 80, 3) := by decide +kernel
theorem dL_print_150 : decode cL_print 150 = .ok (.iconst 0, 1) := by decide +kernel
theorem dL_print_151 : decode cL_print 151 = .ok (.istore 4, 2) := by decide +kernel
theorem dL_print_153 : decode cL_print 153 = .ok (.iload 4, 2) := by decide +kernel
theorem dL_print_155 : decode cL_print 155 = .ok (.bipush 6, 2) := by decide +kernel
theorem dL_print_157 : decode cL_print 157 = .ok (.if_icmp .ge 24, 3) := by decide +kernel
theorem dL_print_160 : decode cL_print 160 = .ok (.ldc2_w 116, 3) := by decide +kernel
theorem dL_print_163 : decode cL_print 163 = .ok (.lload_n 1, 1) := by decide +kernel
theorem dL_print_164 : decode cL_print 164 = .ok (.lmul, 1) := by decide +kernel
theorem dL_print_165 : decode cL_print 165 = .ok (.aload_n 0, 1) := by decide +kernel
theorem dL_print_166 : decode cL_print 166 = .ok (.iload_n 3, 1) := by decide +kernel
theorem dL_print_167 : decode cL_print 167 = .ok (.iload 4, 2) := by decide +kernel
theorem dL_print_169 : decode cL_print 169 = .ok (.invokestatic 142, 3) := by decide +kernel
theorem dL_print_172 : decode cL_print 172 = .ok (.i2l, 1) := by decide +kernel
theorem dL_print_173 : decode cL_print 173 = .ok (.ladd, 1) := by decide +kernel
theorem dL_print_174 : decode cL_print 174 = .ok (.lstore_n 1, 1) := by decide +kernel
theorem dL_print_175 : decode cL_print 175 = .ok (.iinc 4 1, 3) := by decide +kernel
theorem dL_print_178 : decode cL_print 178 = .ok (.goto (-25), 3) := by decide +kernel
theorem dL_print_181 : decode cL_print 181 = .ok (.ldc2_w 116, 3) := by decide +kernel
theorem dL_print_184 : decode cL_print 184 = .ok (.ldc2_w 116, 3) := by decide +kernel
theorem dL_print_187 : decode cL_print 187 = .ok (.lload_n 1, 1) := by decide +kernel
theorem dL_print_188 : decode cL_print 188 = .ok (.lmul, 1) := by decide +kernel
theorem dL_print_189 : decode cL_print 189 = .ok (.aload_n 0, 1) := by decide +kernel
theorem dL_print_190 : decode cL_print 190 = .ok (.iload_n 3, 1) := by decide +kernel
theorem dL_print_191 : decode cL_print 191 = .ok (.aload_n 0, 1) := by decide +kernel
theorem dL_print_192 : decode cL_print 192 = .ok (.iload_n 3, 1) := by decide +kernel
theorem dL_print_193 : decode cL_print 193 = .ok (.iconst 1, 1) := by decide +kernel
theorem dL_print_194 : decode cL_print 194 = .ok (.invokestatic 142, 3) := by decide +kernel
theorem dL_print_197 : decode cL_print 197 = .ok (.iconst 0, 1) := by decide +kernel
theorem dL_print_198 : decode cL_print 198 = .ok (.iconst 1, 1) := by decide +kernel
theorem dL_print_199 : decode cL_print 199 = .ok (.invokestatic 144, 3) := by decide +kernel
theorem dL_print_202 : decode cL_print 202 = .ok (.i2l, 1) := by decide +kernel
theorem dL_print_203 : decode cL_print 203 = .ok (.ladd, 1) := by decide +kernel
theorem dL_print_204 : decode cL_print 204 = .ok (.lmul, 1) := by decide +kernel
theorem dL_print_205 : decode cL_print 205 = .ok (.aload_n 0, 1) := by decide +kernel
theorem dL_print_206 : decode cL_print 206 = .ok (.iload_n 3, 1) := by decide +kernel
theorem dL_print_207 : decode cL_print 207 = .ok (.aload_n 0, 1) := by decide +kernel
theorem dL_print_208 : decode cL_print 208 = .ok (.iload_n 3, 1) := by decide +kernel
theorem dL_print_209 : decode cL_print 209 = .ok (.iconst 1, 1) := by decide +kernel
theorem dL_print_210 : decode cL_print 210 = .ok (.invokestatic 142, 3) := by decide +kernel
theorem dL_print_213 : decode cL_print 213 = .ok (.iconst 0, 1) := by decide +kernel
theorem dL_print_214 : decode cL_print 214 = .ok (.iconst 0, 1) := by decide +kernel
theorem dL_print_215 : decode cL_print 215 = .ok (.invokestatic 144, 3) := by decide +kernel
theorem dL_print_218 : decode cL_print 218 = .ok (.i2l, 1) := by decide +kernel
theorem dL_print_219 : decode cL_print 219 = .ok (.ladd, 1) := by decide +kernel
theorem dL_print_220 : decode cL_print 220 = .ok (.lstore_n 1, 1) := by decide +kernel
theorem dL_print_221 : decode cL_print 221 = .ok (.iinc 3 1, 3) := by decide +kernel
theorem dL_print_224 : decode cL_print 224 = .ok (.goto (-80), 3) := by decide +kernel
theorem dL_print_227 : decode cL_print 227 = .ok (.iconst 0, 1) := by decide +kernel
theorem dL_print_228 : decode cL_print 228 = .ok (.istore_n 3, 1) := by decide +kernel
theorem dL_print_229 : decode cL_print 229 = .ok (.iload_n 3, 1) := by decide +kernel
theorem dL_print_230 : decode cL_print 230 = .ok (.bipush 8, 2) := by decide +kernel
theorem dL_print_232 : decode cL_print 232 = .ok (.if_icmp .ge 47, 3) := by decide +kernel
theorem dL_print_235 : decode cL_print 235 = .ok (.ldc2_w 116, 3) := by decide +kernel
theorem dL_print_238 : decode cL_print 238 = .ok (.ldc2_w 116, 3) := by decide +kernel
theorem dL_print_241 : decode cL_print 241 = .ok (.ldc2_w 116, 3) := by decide +kernel
theorem dL_print_244 : decode cL_print 244 = .ok (.lload_n 1, 1) := by decide +kernel
theorem dL_print_245 : decode cL_print 245 = .ok (.lmul, 1) := by decide +kernel
theorem dL_print_246 : decode cL_print 246 = .ok (.aload_n 0, 1) := by decide +kernel
theorem dL_print_247 : decode cL_print 247 = .ok (.iload_n 3, 1) := by decide +kernel
theorem dL_print_248 : decode cL_print 248 = .ok (.iconst 0, 1) := by decide +kernel
theorem dL_print_249 : decode cL_print 249 = .ok (.invokestatic 147, 3) := by decide +kernel
theorem dL_print_252 : decode cL_print 252 = .ok (.i2l, 1) := by decide +kernel
theorem dL_print_253 : decode cL_print 253 = .ok (.ladd, 1) := by decide +kernel
theorem dL_print_254 : decode cL_print 254 = .ok (.lmul, 1) := by decide +kernel
theorem dL_print_255 : decode cL_print 255 = .ok (.aload_n 0, 1) := by decide +kernel
theorem dL_print_256 : decode cL_print 256 = .ok (.iload_n 3, 1) := by decide +kernel
theorem dL_print_257 : decode cL_print 257 = .ok (.iconst 1, 1) := by decide +kernel
theorem dL_print_258 : decode cL_print 258 = .ok (.invokestatic 147, 3) := by decide +kernel
theorem dL_print_261 : decode cL_print 261 = .ok (.i2l, 1) := by decide +kernel
theorem dL_print_262 : decode cL_print 262 = .ok (.ladd, 1) := by decide +kernel
theorem dL_print_263 : decode cL_print 263 = .ok (.lmul, 1) := by decide +kernel
theorem dL_print_264 : decode cL_print 264 = .ok (.aload_n 0, 1) := by decide +kernel
theorem dL_print_265 : decode cL_print 265 = .ok (.iload_n 3, 1) := by decide +kernel
theorem dL_print_266 : decode cL_print 266 = .ok (.iconst 2, 1) := by decide +kernel
theorem dL_print_267 : decode cL_print 267 = .ok (.invokestatic 147, 3) := by decide +kernel
theorem dL_print_270 : decode cL_print 270 = .ok (.i2l, 1) := by decide +kernel
theorem dL_print_271 : decode cL_print 271 = .ok (.ladd, 1) := by decide +kernel
theorem dL_print_272 : decode cL_print 272 = .ok (.lstore_n 1, 1) := by decide +kernel
theorem dL_print_273 : decode cL_print 273 = .ok (.iinc 3 1, 3) := by decide +kernel
theorem dL_print_276 : decode cL_print 276 = .ok (.goto (-47), 3) := by decide +kernel
theorem dL_print_279 : decode cL_print 279 = .ok (.iconst 0, 1) := by decide +kernel
theorem dL_print_280 : decode cL_print 280 = .ok (.istore_n 3, 1) := by decide +kernel
theorem dL_print_281 : decode cL_print 281 = .ok (.iload_n 3, 1) := by decide +kernel
theorem dL_print_282 : decode cL_print 282 = .ok (.bipush 6, 2) := by decide +kernel
theorem dL_print_284 : decode cL_print 284 = .ok (.if_icmp .ge 22, 3) := by decide +kernel
theorem dL_print_287 : decode cL_print 287 = .ok (.ldc2_w 116, 3) := by decide +kernel
theorem dL_print_290 : decode cL_print 290 = .ok (.lload_n 1, 1) := by decide +kernel
theorem dL_print_291 : decode cL_print 291 = .ok (.lmul, 1) := by decide +kernel
theorem dL_print_292 : decode cL_print 292 = .ok (.aload_n 0, 1) := by decide +kernel
theorem dL_print_293 : decode cL_print 293 = .ok (.iload_n 3, 1) := by decide +kernel
theorem dL_print_294 : decode cL_print 294 = .ok (.invokestatic 149, 3) := by decide +kernel
theorem dL_print_297 : decode cL_print 297 = .ok (.i2l, 1) := by decide +kernel
theorem dL_print_298 : decode cL_print 298 = .ok (.ladd, 1) := by decide +kernel
theorem dL_print_299 : decode cL_print 299 = .ok (.lstore_n 1, 1) := by decide +kernel
theorem dL_print_300 : decode cL_print 300 = .ok (.iinc 3 1, 3) := by decide +kernel
theorem dL_print_303 : decode cL_print 303 = .ok (.goto (-22), 3) := by decide +kernel
theorem dL_print_306 : decode cL_print 306 = .ok (.lload_n 1, 1) := by decide +kernel
theorem dL_print_307 : decode cL_print 307 = .ok (.lreturn, 1) := by decide +kernel
theorem dL_refused_0 : decode cL_refused 0 = .ok (.aload_n 0, 1) := by decide +kernel
theorem dL_refused_1 : decode cL_refused 1 = .ok (.invokestatic 151, 3) := by decide +kernel
theorem dL_refused_4 : decode cL_refused 4 = .ok (.lstore_n 1, 1) := by decide +kernel
theorem dL_refused_5 : decode cL_refused 5 = .ok (.aload_n 0, 1) := by decide +kernel
theorem dL_refused_6 : decode cL_refused 6 = .ok (.iconst (-1), 1) := by decide +kernel
theorem dL_refused_7 : decode cL_refused 7 = .ok (.invokestatic 155, 3) := by decide +kernel
theorem dL_refused_10 : decode cL_refused 10 = .ok (.bipush (-53), 2) := by decide +kernel
theorem dL_refused_12 : decode cL_refused 12 = .ok (.if_icmp .ne 103, 3) := by decide +kernel
theorem dL_refused_15 : decode cL_refused 15 = .ok (.aload_n 0, 1) := by decide +kernel
theorem dL_refused_16 : decode cL_refused 16 = .ok (.iconst 0, 1) := by decide +kernel
theorem dL_refused_17 : decode cL_refused 17 = .ok (.invokestatic 157, 3) := by decide +kernel
theorem dL_refused_20 : decode cL_refused 20 = .ok (.bipush (-51), 2) := by decide +kernel
theorem dL_refused_22 : decode cL_refused 22 = .ok (.if_icmp .ne 93, 3) := by decide +kernel
theorem dL_refused_25 : decode cL_refused 25 = .ok (.aload_n 0, 1) := by decide +kernel
theorem dL_refused_26 : decode cL_refused 26 = .ok (.iconst 0, 1) := by decide +kernel
theorem dL_refused_27 : decode cL_refused 27 = .ok (.iconst 0, 1) := by decide +kernel
theorem dL_refused_28 : decode cL_refused 28 = .ok (.invokestatic 159, 3) := by decide +kernel
theorem dL_refused_31 : decode cL_refused 31 = .ok (.bipush (-51), 2) := by decide +kernel
theorem dL_refused_33 : decode cL_refused 33 = .ok (.if_icmp .ne 82, 3) := by decide +kernel
theorem dL_refused_36 : decode cL_refused 36 = .ok (.aload_n 0, 1) := by decide +kernel
theorem dL_refused_37 : decode cL_refused 37 = .ok (.iconst 0, 1) := by decide +kernel
theorem dL_refused_38 : decode cL_refused 38 = .ok (.iconst (-1), 1) := by decide +kernel
theorem dL_refused_39 : decode cL_refused 39 = .ok (.invokestatic 135, 3) := by decide +kernel
theorem dL_refused_42 : decode cL_refused 42 = .ok (.bipush (-51), 2) := by decide +kernel
theorem dL_refused_44 : decode cL_refused 44 = .ok (.if_icmp .ne 71, 3) := by decide +kernel
theorem dL_refused_47 : decode cL_refused 47 = .ok (.aload_n 0, 1) := by decide +kernel
theorem dL_refused_48 : decode cL_refused 48 = .ok (.iconst 0, 1) := by decide +kernel
theorem dL_refused_49 : decode cL_refused 49 = .ok (.bipush 20, 2) := by decide +kernel
theorem dL_refused_51 : decode cL_refused 51 = .ok (.invokestatic 161, 3) := by decide +kernel
theorem dL_refused_54 : decode cL_refused 54 = .ok (.bipush (-53), 2) := by decide +kernel
theorem dL_refused_56 : decode cL_refused 56 = .ok (.if_icmp .ne 59, 3) := by decide +kernel
theorem dL_refused_59 : decode cL_refused 59 = .ok (.aload_n 0, 1) := by decide +kernel
theorem dL_refused_60 : decode cL_refused 60 = .ok (.iconst 0, 1) := by decide +kernel
theorem dL_refused_61 : decode cL_refused 61 = .ok (.bipush 6, 2) := by decide +kernel
theorem dL_refused_63 : decode cL_refused 63 = .ok (.invokestatic 138, 3) := by decide +kernel
theorem dL_refused_66 : decode cL_refused 66 = .ok (.bipush (-53), 2) := by decide +kernel
theorem dL_refused_68 : decode cL_refused 68 = .ok (.if_icmp .ne 47, 3) := by decide +kernel
theorem dL_refused_71 : decode cL_refused 71 = .ok (.aload_n 0, 1) := by decide +kernel
theorem dL_refused_72 : decode cL_refused 72 = .ok (.iconst 0, 1) := by decide +kernel
theorem dL_refused_73 : decode cL_refused 73 = .ok (.iconst 0, 1) := by decide +kernel
theorem dL_refused_74 : decode cL_refused 74 = .ok (.bipush (-5), 2) := by decide +kernel
theorem dL_refused_76 : decode cL_refused 76 = .ok (.invokestatic 163, 3) := by decide +kernel
theorem dL_refused_79 : decode cL_refused 79 = .ok (.bipush (-51), 2) := by decide +kernel
theorem dL_refused_81 : decode cL_refused 81 = .ok (.if_icmp .ne 34, 3) := by decide +kernel
theorem dL_refused_84 : decode cL_refused 84 = .ok (.aload_n 0, 1) := by decide +kernel
theorem dL_refused_85 : decode cL_refused 85 = .ok (.bipush 6, 2) := by decide +kernel
theorem dL_refused_87 : decode cL_refused 87 = .ok (.iconst 0, 1) := by decide +kernel
theorem dL_refused_88 : decode cL_refused 88 = .ok (.iconst 1, 1) := by decide +kernel
theorem dL_refused_89 : decode cL_refused 89 = .ok (.iconst 1, 1) := by decide +kernel
theorem dL_refused_90 : decode cL_refused 90 = .ok (.invokestatic 166, 3) := by decide +kernel
theorem dL_refused_93 : decode cL_refused 93 = .ok (.bipush (-53), 2) := by decide +kernel
theorem dL_refused_95 : decode cL_refused 95 = .ok (.if_icmp .ne 20, 3) := by decide +kernel
theorem dL_refused_98 : decode cL_refused 98 = .ok (.aload_n 0, 1) := by decide +kernel
theorem dL_refused_99 : decode cL_refused 99 = .ok (.iconst 0, 1) := by decide +kernel
theorem dL_refused_100 : decode cL_refused 100 = .ok (.iconst 0, 1) := by decide +kernel
theorem dL_refused_101 : decode cL_refused 101 = .ok (.iconst 0, 1) := by decide +kernel
theorem dL_refused_102 : decode cL_refused 102 = .ok (.iconst 1, 1) := by decide +kernel
theorem dL_refused_103 : decode cL_refused 103 = .ok (.invokestatic 166, 3) := by decide +kernel
theorem dL_refused_106 : decode cL_refused 106 = .ok (.bipush (-51), 2) := by decide +kernel
theorem dL_refused_108 : decode cL_refused 108 = .ok (.if_icmp .ne 7, 3) := by decide +kernel
theorem dL_refused_111 : decode cL_refused 111 = .ok (.iconst 1, 1) := by decide +kernel
theorem dL_refused_112 : decode cL_refused 112 = .ok (.goto 4, 3) := by decide +kernel
theorem dL_refused_115 : decode cL_refused 115 = .ok (.iconst 0, 1) := by decide +kernel
theorem dL_refused_116 : decode cL_refused 116 = .ok (.istore_n 3, 1) := by decide +kernel
theorem dL_refused_117 : decode cL_refused 117 = .ok (.iload_n 3, 1) := by decide +kernel
theorem dL_refused_118 : decode cL_refused 118 = .ok (.ifCond .eq 120, 3) := by decide +kernel
theorem dL_refused_121 : decode cL_refused 121 = .ok (.aload_n 0, 1) := by decide +kernel
theorem dL_refused_122 : decode cL_refused 122 = .ok (.iconst (-1), 1) := by decide +kernel
theorem dL_refused_123 : decode cL_refused 123 = .ok (.invokestatic 168, 3) := by decide +kernel
theorem dL_refused_126 : decode cL_refused 126 = .ok (.bipush (-53), 2) := by decide +kernel
theorem dL_refused_128 : decode cL_refused 128 = .ok (.if_icmp .ne 110, 3) := by decide +kernel
theorem dL_refused_131 : decode cL_refused 131 = .ok (.aload_n 0, 1) := by decide +kernel
theorem dL_refused_132 : decode cL_refused 132 = .ok (.bipush 10, 2) := by decide +kernel
theorem dL_refused_134 : decode cL_refused 134 = .ok (.iconst 1, 1) := by decide +kernel
theorem dL_refused_135 : decode cL_refused 135 = .ok (.invokestatic 170, 3) := by decide +kernel
theorem dL_refused_138 : decode cL_refused 138 = .ok (.bipush (-53), 2) := by decide +kernel
theorem dL_refused_140 : decode cL_refused 140 = .ok (.if_icmp .ne 98, 3) := by decide +kernel
theorem dL_refused_143 : decode cL_refused 143 = .ok (.aload_n 0, 1) := by decide +kernel
theorem dL_refused_144 : decode cL_refused 144 = .ok (.iconst (-1), 1) := by decide +kernel
theorem dL_refused_145 : decode cL_refused 145 = .ok (.invokestatic 172, 3) := by decide +kernel
theorem dL_refused_148 : decode cL_refused 148 = .ok (.bipush (-53), 2) := by decide +kernel
theorem dL_refused_150 : decode cL_refused 150 = .ok (.if_icmp .ne 88, 3) := by decide +kernel
theorem dL_refused_153 : decode cL_refused 153 = .ok (.aload_n 0, 1) := by decide +kernel
theorem dL_refused_154 : decode cL_refused 154 = .ok (.bipush 10, 2) := by decide +kernel
theorem dL_refused_156 : decode cL_refused 156 = .ok (.invokestatic 174, 3) := by decide +kernel
theorem dL_refused_159 : decode cL_refused 159 = .ok (.bipush (-53), 2) := by decide +kernel
theorem dL_refused_161 : decode cL_refused 161 = .ok (.if_icmp .ne 77, 3) := by decide +kernel
theorem dL_refused_164 : decode cL_refused 164 = .ok (.aload_n 0, 1) := by decide +kernel
theorem dL_refused_165 : decode cL_refused 165 = .ok (.iconst (-1), 1) := by decide +kernel
theorem dL_refused_166 : decode cL_refused 166 = .ok (.iconst 0, 1) := by decide +kernel
theorem dL_refused_167 : decode cL_refused 167 = .ok (.iconst 0, 1) := by decide +kernel
theorem dL_refused_168 : decode cL_refused 168 = .ok (.iconst 0, 1) := by decide +kernel
theorem dL_refused_169 : decode cL_refused 169 = .ok (.invokestatic 176, 3) := by decide +kernel
theorem dL_refused_172 : decode cL_refused 172 = .ok (.bipush (-53), 2) := by decide +kernel
theorem dL_refused_174 : decode cL_refused 174 = .ok (.if_icmp .ne 64, 3) := by decide +kernel
theorem dL_refused_177 : decode cL_refused 177 = .ok (.aload_n 0, 1) := by decide +kernel
theorem dL_refused_178 : decode cL_refused 178 = .ok (.bipush 10, 2) := by decide +kernel
theorem dL_refused_180 : decode cL_refused 180 = .ok (.iconst 0, 1) := by decide +kernel
theorem dL_refused_181 : decode cL_refused 181 = .ok (.invokestatic 179, 3) := by decide +kernel
theorem dL_refused_184 : decode cL_refused 184 = .ok (.bipush (-53), 2) := by decide +kernel
theorem dL_refused_186 : decode cL_refused 186 = .ok (.if_icmp .ne 52, 3) := by decide +kernel
theorem dL_refused_189 : decode cL_refused 189 = .ok (.aload_n 0, 1) := by decide +kernel
theorem dL_refused_190 : decode cL_refused 190 = .ok (.bipush 20, 2) := by decide +kernel
theorem dL_refused_192 : decode cL_refused 192 = .ok (.invokestatic 140, 3) := by decide +kernel
theorem dL_refused_195 : decode cL_refused 195 = .ok (.bipush (-53), 2) := by decide +kernel
theorem dL_refused_197 : decode cL_refused 197 = .ok (.if_icmp .ne 41, 3) := by decide +kernel
theorem dL_refused_200 : decode cL_refused 200 = .ok (.aload_n 0, 1) := by decide +kernel
theorem dL_refused_201 : decode cL_refused 201 = .ok (.iconst (-1), 1) := by decide +kernel
theorem dL_refused_202 : decode cL_refused 202 = .ok (.invokestatic 181, 3) := by decide +kernel
theorem dL_refused_205 : decode cL_refused 205 = .ok (.bipush (-53), 2) := by decide +kernel
theorem dL_refused_207 : decode cL_refused 207 = .ok (.if_icmp .ne 31, 3) := by decide +kernel
theorem dL_refused_210 : decode cL_refused 210 = .ok (.aload_n 0, 1) := by decide +kernel
theorem dL_refused_211 : decode cL_refused 211 = .ok (.bipush 6, 2) := by decide +kernel
theorem dL_refused_213 : decode cL_refused 213 = .ok (.invokestatic 183, 3) := by decide +kernel
theorem dL_refused_216 : decode cL_refused 216 = .ok (.bipush (-53), 2) := by decide +kernel
theorem dL_refused_218 : decode cL_refused 218 = .ok (.if_icmp .ne 20, 3) := by decide +kernel
theorem dL_refused_221 : decode cL_refused 221 = .ok (.aload_n 0, 1) := by decide +kernel
theorem dL_refused_222 : decode cL_refused 222 = .ok (.sipush 150, 3) := by decide +kernel
theorem dL_refused_225 : decode cL_refused 225 = .ok (.iconst 0, 1) := by decide +kernel
theorem dL_refused_226 : decode cL_refused 226 = .ok (.invokestatic 185, 3) := by decide +kernel
theorem dL_refused_229 : decode cL_refused 229 = .ok (.bipush (-53), 2) := by decide +kernel
theorem dL_refused_231 : decode cL_refused 231 = .ok (.if_icmp .ne 7, 3) := by decide +kernel
theorem dL_refused_234 : decode cL_refused 234 = .ok (.iconst 1, 1) := by decide +kernel
theorem dL_refused_235 : decode cL_refused 235 = .ok (.goto 4, 3) := by decide +kernel
theorem dL_refused_238 : decode cL_refused 238 = .ok (.iconst 0, 1) := by decide +kernel
theorem dL_refused_239 : decode cL_refused 239 = .ok (.istore_n 3, 1) := by decide +kernel
theorem dL_refused_240 : decode cL_refused 240 = .ok (.iload_n 3, 1) := by decide +kernel
theorem dL_refused_241 : decode cL_refused 241 = .ok (.ifCond .eq 105, 3) := by decide +kernel
theorem dL_refused_244 : decode cL_refused 244 = .ok (.aload_n 0, 1) := by decide +kernel
theorem dL_refused_245 : decode cL_refused 245 = .ok (.iconst 0, 1) := by decide +kernel
theorem dL_refused_246 : decode cL_refused 246 = .ok (.iconst (-1), 1) := by decide +kernel
theorem dL_refused_247 : decode cL_refused 247 = .ok (.invokestatic 187, 3) := by decide +kernel
theorem dL_refused_250 : decode cL_refused 250 = .ok (.bipush (-53), 2) := by decide +kernel
theorem dL_refused_252 : decode cL_refused 252 = .ok (.if_icmp .ne 94, 3) := by decide +kernel
theorem dL_refused_255 : decode cL_refused 255 = .ok (.aload_n 0, 1) := by decide +kernel
theorem dL_refused_256 : decode cL_refused 256 = .ok (.iconst 0, 1) := by decide +kernel
theorem dL_refused_257 : decode cL_refused 257 = .ok (.iconst 0, 1) := by decide +kernel
theorem dL_refused_258 : decode cL_refused 258 = .ok (.iconst (-1), 1) := by decide +kernel
theorem dL_refused_259 : decode cL_refused 259 = .ok (.invokestatic 189, 3) := by decide +kernel
theorem dL_refused_262 : decode cL_refused 262 = .ok (.bipush (-51), 2) := by decide +kernel
theorem dL_refused_264 : decode cL_refused 264 = .ok (.if_icmp .ne 82, 3) := by decide +kernel
theorem dL_refused_267 : decode cL_refused 267 = .ok (.aload_n 0, 1) := by decide +kernel
theorem dL_refused_268 : decode cL_refused 268 = .ok (.iconst 0, 1) := by decide +kernel
theorem dL_refused_269 : decode cL_refused 269 = .ok (.iconst (-1), 1) := by decide +kernel
theorem dL_refused_270 : decode cL_refused 270 = .ok (.invokestatic 191, 3) := by decide +kernel
theorem dL_refused_273 : decode cL_refused 273 = .ok (.bipush (-51), 2) := by decide +kernel
theorem dL_refused_275 : decode cL_refused 275 = .ok (.if_icmp .ne 71, 3) := by decide +kernel
theorem dL_refused_278 : decode cL_refused 278 = .ok (.aload_n 0, 1) := by decide +kernel
theorem dL_refused_279 : decode cL_refused 279 = .ok (.bipush 8, 2) := by decide +kernel
theorem dL_refused_281 : decode cL_refused 281 = .ok (.iconst 0, 1) := by decide +kernel
theorem dL_refused_282 : decode cL_refused 282 = .ok (.invokestatic 147, 3) := by decide +kernel
theorem dL_refused_285 : decode cL_refused 285 = .ok (.bipush (-53), 2) := by decide +kernel
theorem dL_refused_287 : decode cL_refused 287 = .ok (.if_icmp .ne 59, 3) := by decide +kernel
theorem dL_refused_290 : decode cL_refused 290 = .ok (.aload_n 0, 1) := by decide +kernel
theorem dL_refused_291 : decode cL_refused 291 = .ok (.sipush 1001, 3) := by decide +kernel
theorem dL_refused_294 : decode cL_refused 294 = .ok (.invokestatic 127, 3) := by decide +kernel
theorem dL_refused_297 : decode cL_refused 297 = .ok (.bipush (-51), 2) := by decide +kernel
theorem dL_refused_299 : decode cL_refused 299 = .ok (.if_icmp .ne 47, 3) := by decide +kernel
theorem dL_refused_302 : decode cL_refused 302 = .ok (.aload_n 0, 1) := by decide +kernel
theorem dL_refused_303 : decode cL_refused 303 = .ok (.bipush 6, 2) := by decide +kernel
theorem dL_refused_305 : decode cL_refused 305 = .ok (.invokestatic 149, 3) := by decide +kernel
theorem dL_refused_308 : decode cL_refused 308 = .ok (.bipush (-53), 2) := by decide +kernel
theorem dL_refused_310 : decode cL_refused 310 = .ok (.if_icmp .ne 36, 3) := by decide +kernel
theorem dL_refused_313 : decode cL_refused 313 = .ok (.aload_n 0, 1) := by decide +kernel
theorem dL_refused_314 : decode cL_refused 314 = .ok (.iconst (-1), 1) := by decide +kernel
theorem dL_refused_315 : decode cL_refused 315 = .ok (.invokestatic 193, 3) := by decide +kernel
theorem dL_refused_318 : decode cL_refused 318 = .ok (.bipush (-51), 2) := by decide +kernel
theorem dL_refused_320 : decode cL_refused 320 = .ok (.if_icmp .ne 26, 3) := by decide +kernel
theorem dL_refused_323 : decode cL_refused 323 = .ok (.aload_n 0, 1) := by decide +kernel
theorem dL_refused_324 : decode cL_refused 324 = .ok (.iconst (-1), 1) := by decide +kernel
theorem dL_refused_325 : decode cL_refused 325 = .ok (.invokestatic 195, 3) := by decide +kernel
theorem dL_refused_328 : decode cL_refused 328 = .ok (.bipush (-51), 2) := by decide +kernel
theorem dL_refused_330 : decode cL_refused 330 = .ok (.if_icmp .ne 16, 3) := by decide +kernel
theorem dL_refused_333 : decode cL_refused 333 = .ok (.aload_n 0, 1) := by decide +kernel
theorem dL_refused_334 : decode cL_refused 334 = .ok (.invokestatic 151, 3) := by decide +kernel
theorem dL_refused_337 : decode cL_refused 337 = .ok (.lload_n 1, 1) := by decide +kernel
theorem dL_refused_338 : decode cL_refused 338 = .ok (.lcmp, 1) := by decide +kernel
theorem dL_refused_339 : decode cL_refused 339 = .ok (.ifCond .ne 7, 3) := by decide +kernel
theorem dL_refused_342 : decode cL_refused 342 = .ok (.iconst 1, 1) := by decide +kernel
theorem dL_refused_343 : decode cL_refused 343 = .ok (.goto 4, 3) := by decide +kernel
theorem dL_refused_346 : decode cL_refused 346 = .ok (.iconst 0, 1) := by decide +kernel
theorem dL_refused_347 : decode cL_refused 347 = .ok (.ireturn, 1) := by decide +kernel
theorem dL_isIn_0 : decode cL_isIn 0 = .ok (.iload_n 1, 1) := by decide +kernel
theorem dL_isIn_1 : decode cL_isIn 1 = .ok (.istore_n 3, 1) := by decide +kernel
theorem dL_isIn_2 : decode cL_isIn 2 = .ok (.iload_n 3, 1) := by decide +kernel
theorem dL_isIn_3 : decode cL_isIn 3 = .ok (.ifCond .lt 18, 3) := by decide +kernel
theorem dL_isIn_6 : decode cL_isIn 6 = .ok (.iload_n 3, 1) := by decide +kernel
theorem dL_isIn_7 : decode cL_isIn 7 = .ok (.iload_n 2, 1) := by decide +kernel
theorem dL_isIn_8 : decode cL_isIn 8 = .ok (.if_icmp .eq 13, 3) := by decide +kernel
theorem dL_isIn_11 : decode cL_isIn 11 = .ok (.aload_n 0, 1) := by decide +kernel
theorem dL_isIn_12 : decode cL_isIn 12 = .ok (.iload_n 3, 1) := by decide +kernel
theorem dL_isIn_13 : decode cL_isIn 13 = .ok (.iconst 0, 1) := by decide +kernel
theorem dL_isIn_14 : decode cL_isIn 14 = .ok (.invokestatic 135, 3) := by decide +kernel
theorem dL_isIn_17 : decode cL_isIn 17 = .ok (.istore_n 3, 1) := by decide +kernel
theorem dL_isIn_18 : decode cL_isIn 18 = .ok (.goto (-16), 3) := by decide +kernel
theorem dL_isIn_21 : decode cL_isIn 21 = .ok (.iload_n 3, 1) := by decide +kernel
theorem dL_isIn_22 : decode cL_isIn 22 = .ok (.iload_n 2, 1) := by decide +kernel
theorem dL_isIn_23 : decode cL_isIn 23 = .ok (.if_icmp .ne 7, 3) := by decide +kernel
theorem dL_isIn_26 : decode cL_isIn 26 = .ok (.iconst 1, 1) := by decide +kernel
theorem dL_isIn_27 : decode cL_isIn 27 = .ok (.goto 4, 3) := by decide +kernel
theorem dL_isIn_30 : decode cL_isIn 30 = .ok (.iconst 0, 1) := by decide +kernel
theorem dL_isIn_31 : decode cL_isIn 31 = .ok (.ireturn, 1) := by decide +kernel
theorem dL_areApart_0 : decode cL_areApart 0 = .ok (.iconst 1, 1) := by decide +kernel
theorem dL_areApart_1 : decode cL_areApart 1 = .ok (.istore_n 1, 1) := by decide +kernel
theorem dL_areApart_2 : decode cL_areApart 2 = .ok (.iconst 0, 1) := by decide +kernel
theorem dL_areApart_3 : decode cL_areApart 3 = .ok (.istore_n 2, 1) := by decide +kernel
theorem dL_areApart_4 : decode cL_areApart 4 = .ok (.iload_n 2, 1) := by decide +kernel
theorem dL_areApart_5 : decode cL_areApart 5 = .ok (.bipush 10, 2) := by decide +kernel
theorem dL_areApart_7 : decode cL_areApart 7 = .ok (.if_icmp .ge 180, 3) := by decide +kernel
theorem dL_areApart_10 : decode cL_areApart 10 = .ok (.iload_n 1, 1) := by decide +kernel
theorem dL_areApart_11 : decode cL_areApart 11 = .ok (.ifCond .eq 176, 3) := by decide +kernel
theorem dL_areApart_14 : decode cL_areApart 14 = .ok (.iconst 0, 1) := by decide +kernel
theorem dL_areApart_15 : decode cL_areApart 15 = .ok (.istore_n 3, 1) := by decide +kernel
theorem dL_areApart_16 : decode cL_areApart 16 = .ok (.iload_n 3, 1) := by decide +kernel
theorem dL_areApart_17 : decode cL_areApart 17 = .ok (.iload_n 2, 1) := by decide +kernel
theorem dL_areApart_18 : decode cL_areApart 18 = .ok (.if_icmp .ge 109, 3) := by decide +kernel
theorem dL_areApart_21 : decode cL_areApart 21 = .ok (.iload_n 1, 1) := by decide +kernel
theorem dL_areApart_22 : decode cL_areApart 22 = .ok (.ifCond .eq 105, 3) := by decide +kernel
theorem dL_areApart_25 : decode cL_areApart 25 = .ok (.aload_n 0, 1) := by decide +kernel
theorem dL_areApart_26 : decode cL_areApart 26 = .ok (.iload_n 2, 1) := by decide +kernel
theorem dL_areApart_27 : decode cL_areApart 27 = .ok (.iconst 3, 1) := by decide +kernel
theorem dL_areApart_28 : decode cL_areApart 28 = .ok (.invokestatic 142, 3) := by decide +kernel
theorem dL_areApart_31 : decode cL_areApart 31 = .ok (.iconst 1, 1) := by decide +kernel
theorem dL_areApart_32 : decode cL_areApart 32 = .ok (.if_icmp .ne 17, 3) := by decide +kernel
theorem dL_areApart_35 : decode cL_areApart 35 = .ok (.aload_n 0, 1) := by decide +kernel
theorem dL_areApart_36 : decode cL_areApart 36 = .ok (.iload_n 3, 1) := by decide +kernel
theorem dL_areApart_37 : decode cL_areApart 37 = .ok (.iconst 3, 1) := by decide +kernel
theorem dL_areApart_38 : decode cL_areApart 38 = .ok (.invokestatic 142, 3) := by decide +kernel
theorem dL_areApart_41 : decode cL_areApart 41 = .ok (.iconst 1, 1) := by decide +kernel
theorem dL_areApart_42 : decode cL_areApart 42 = .ok (.if_icmp .ne 7, 3) := by decide +kernel
theorem dL_areApart_45 : decode cL_areApart 45 = .ok (.iconst 1, 1) := by decide +kernel
theorem dL_areApart_46 : decode cL_areApart 46 = .ok (.goto 4, 3) := by decide +kernel
theorem dL_areApart_49 : decode cL_areApart 49 = .ok (.iconst 0, 1) := by decide +kernel
theorem dL_areApart_50 : decode cL_areApart 50 = .ok (.istore 4, 2) := by decide +kernel
theorem dL_areApart_52 : decode cL_areApart 52 = .ok (.iload 4, 2) := by decide +kernel
theorem dL_areApart_54 : decode cL_areApart 54 = .ok (.ifCond .eq 67, 3) := by decide +kernel
theorem dL_areApart_57 : decode cL_areApart 57 = .ok (.aload_n 0, 1) := by decide +kernel
theorem dL_areApart_58 : decode cL_areApart 58 = .ok (.aload_n 0, 1) := by decide +kernel
theorem dL_areApart_59 : decode cL_areApart 59 = .ok (.iload_n 2, 1) := by decide +kernel
theorem dL_areApart_60 : decode cL_areApart 60 = .ok (.iconst 1, 1) := by decide +kernel
theorem dL_areApart_61 : decode cL_areApart 61 = .ok (.invokestatic 142, 3) := by decide +kernel
theorem dL_areApart_64 : decode cL_areApart 64 = .ok (.aload_n 0, 1) := by decide +kernel
theorem dL_areApart_65 : decode cL_areApart 65 = .ok (.iload_n 3, 1) := by decide +kernel
theorem dL_areApart_66 : decode cL_areApart 66 = .ok (.iconst 1, 1) := by decide +kernel
theorem dL_areApart_67 : decode cL_areApart 67 = .ok (.invokestatic 142, 3) := by decide +kernel
theorem dL_areApart_70 : decode cL_areApart 70 = .ok (.invokestatic 197, 3) := by decide +kernel
theorem dL_areApart_73 : decode cL_areApart 73 = .ok (.ifCond .ne 22, 3) := by decide +kernel
theorem dL_areApart_76 : decode cL_areApart 76 = .ok (.aload_n 0, 1) := by decide +kernel
theorem dL_areApart_77 : decode cL_areApart 77 = .ok (.aload_n 0, 1) := by decide +kernel
theorem dL_areApart_78 : decode cL_areApart 78 = .ok (.iload_n 3, 1) := by decide +kernel
theorem dL_areApart_79 : decode cL_areApart 79 = .ok (.iconst 1, 1) := by decide +kernel
theorem dL_areApart_80 : decode cL_areApart 80 = .ok (.invokestatic 142, 3) := by decide +kernel
theorem dL_areApart_83 : decode cL_areApart 83 = .ok (.aload_n 0, 1) := by decide +kernel
theorem dL_areApart_84 : decode cL_areApart 84 = .ok (.iload_n 2, 1) := by decide +kernel
theorem dL_areApart_85 : decode cL_areApart 85 = .ok (.iconst 1, 1) := by decide +kernel
theorem dL_areApart_86 : decode cL_areApart 86 = .ok (.invokestatic 142, 3) := by decide +kernel
theorem dL_areApart_89 : decode cL_areApart 89 = .ok (.invokestatic 197, 3) := by decide +kernel
theorem dL_areApart_92 : decode cL_areApart 92 = .ok (.ifCond .eq 29, 3) := by decide +kernel
theorem dL_areApart_95 : decode cL_areApart 95 = .ok (.aload_n 0, 1) := by decide +kernel
theorem dL_areApart_96 : decode cL_areApart 96 = .ok (.iload_n 2, 1) := by decide +kernel
theorem dL_areApart_97 : decode cL_areApart 97 = .ok (.iconst 4, 1) := by decide +kernel
theorem dL_areApart_98 : decode cL_areApart 98 = .ok (.invokestatic 142, 3) := by decide +kernel
theorem dL_areApart_101 : decode cL_areApart 101 = .ok (.iconst 1, 1) := by decide +kernel
theorem dL_areApart_102 : decode cL_areApart 102 = .ok (.if_icmp .ne 17, 3) := by decide +kernel
theorem dL_areApart_105 : decode cL_areApart 105 = .ok (.aload_n 0, 1) := by decide +kernel
theorem dL_areApart_106 : decode cL_areApart 106 = .ok (.iload_n 3, 1) := by decide +kernel
theorem dL_areApart_107 : decode cL_areApart 107 = .ok (.iconst 4, 1) := by decide +kernel
theorem dL_areApart_108 : decode cL_areApart 108 = .ok (.invokestatic 142, 3) := by decide +kernel
theorem dL_areApart_111 : decode cL_areApart 111 = .ok (.iconst 1, 1) := by decide +kernel
theorem dL_areApart_112 : decode cL_areApart 112 = .ok (.if_icmp .ne 7, 3) := by decide +kernel
theorem dL_areApart_115 : decode cL_areApart 115 = .ok (.iconst 1, 1) := by decide +kernel
theorem dL_areApart_116 : decode cL_areApart 116 = .ok (.goto 4, 3) := by decide +kernel
theorem dL_areApart_119 : decode cL_areApart 119 = .ok (.iconst 0, 1) := by decide +kernel
theorem dL_areApart_120 : decode cL_areApart 120 = .ok (.istore_n 1, 1) := by decide +kernel
theorem dL_areApart_121 : decode cL_areApart 121 = .ok (.iinc 3 1, 3) := by decide +kernel
theorem dL_areApart_124 : decode cL_areApart 124 = .ok (.goto (-108), 3) := by decide +kernel
theorem dL_areApart_127 : decode cL_areApart 127 = .ok (.iload_n 1, 1) := by decide +kernel
theorem dL_areApart_128 : decode cL_areApart 128 = .ok (.ifCond .eq 51, 3) := by decide +kernel
theorem dL_areApart_131 : decode cL_areApart 131 = .ok (.aload_n 0, 1) := by decide +kernel
theorem dL_areApart_132 : decode cL_areApart 132 = .ok (.iload_n 2, 1) := by decide +kernel
theorem dL_areApart_133 : decode cL_areApart 133 = .ok (.iconst 3, 1) := by decide +kernel
theorem dL_areApart_134 : decode cL_areApart 134 = .ok (.invokestatic 142, 3) := by decide +kernel
theorem dL_areApart_137 : decode cL_areApart 137 = .ok (.ifCond .lt 38, 3) := by decide +kernel
theorem dL_areApart_140 : decode cL_areApart 140 = .ok (.aload_n 0, 1) := by decide +kernel
theorem dL_areApart_141 : decode cL_areApart 141 = .ok (.iload_n 2, 1) := by decide +kernel
theorem dL_areApart_142 : decode cL_areApart 142 = .ok (.iconst 3, 1) := by decide +kernel
theorem dL_areApart_143 : decode cL_areApart 143 = .ok (.invokestatic 142, 3) := by decide +kernel
theorem dL_areApart_146 : decode cL_areApart 146 = .ok (.iconst 1, 1) := by decide +kernel
theorem dL_areApart_147 : decode cL_areApart 147 = .ok (.if_icmp .ne 11, 3) := by decide +kernel
theorem dL_areApart_150 : decode cL_areApart 150 = .ok (.aload_n 0, 1) := by decide +kernel
theorem dL_areApart_151 : decode cL_areApart 151 = .ok (.iload_n 2, 1) := by decide +kernel
theorem dL_areApart_152 : decode cL_areApart 152 = .ok (.invokestatic 201, 3) := by decide +kernel
theorem dL_areApart_155 : decode cL_areApart 155 = .ok (.ifCond .eq 20, 3) := by decide +kernel
theorem dL_areApart_158 : decode cL_areApart 158 = .ok (.aload_n 0, 1) := by decide +kernel
theorem dL_areApart_159 : decode cL_areApart 159 = .ok (.iload_n 2, 1) := by decide +kernel
theorem dL_areApart_160 : decode cL_areApart 160 = .ok (.iconst 4, 1) := by decide +kernel
theorem dL_areApart_161 : decode cL_areApart 161 = .ok (.invokestatic 142, 3) := by decide +kernel
theorem dL_areApart_164 : decode cL_areApart 164 = .ok (.ifCond .ne 15, 3) := by decide +kernel
theorem dL_areApart_167 : decode cL_areApart 167 = .ok (.aload_n 0, 1) := by decide +kernel
theorem dL_areApart_168 : decode cL_areApart 168 = .ok (.iload_n 2, 1) := by decide +kernel
theorem dL_areApart_169 : decode cL_areApart 169 = .ok (.invokestatic 181, 3) := by decide +kernel
theorem dL_areApart_172 : decode cL_areApart 172 = .ok (.ifCond .ne 7, 3) := by decide +kernel
theorem dL_areApart_175 : decode cL_areApart 175 = .ok (.iconst 1, 1) := by decide +kernel
theorem dL_areApart_176 : decode cL_areApart 176 = .ok (.goto 4, 3) := by decide +kernel
