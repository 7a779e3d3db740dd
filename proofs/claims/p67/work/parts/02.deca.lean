theorem dX0_init_0 : decode cX0_init 0 = .ok (.aload_n 0, 1) := by decide +kernel
theorem dX0_init_1 : decode cX0_init 1 = .ok (.invokespecial 3, 3) := by decide +kernel
theorem dX0_init_4 : decode cX0_init 4 = .ok (.aload_n 0, 1) := by decide +kernel
theorem dX0_init_5 : decode cX0_init 5 = .ok (.new 9, 3) := by decide +kernel
theorem dX0_init_8 : decode cX0_init 8 = .ok (.dup, 1) := by decide +kernel
theorem dX0_init_9 : decode cX0_init 9 = .ok (.invokespecial 11, 3) := by decide +kernel
theorem dX0_init_12 : decode cX0_init 12 = .ok (.putfield 12, 3) := by decide +kernel
theorem dX0_init_15 : decode cX0_init 15 = .ok (.aload_n 0, 1) := by decide +kernel
theorem dX0_init_16 : decode cX0_init 16 = .ok (.new 18, 3) := by decide +kernel
theorem dX0_init_19 : decode cX0_init 19 = .ok (.dup, 1) := by decide +kernel
theorem dX0_init_20 : decode cX0_init 20 = .ok (.invokespecial 20, 3) := by decide +kernel
theorem dX0_init_23 : decode cX0_init 23 = .ok (.putfield 21, 3) := by decide +kernel
theorem dX0_init_26 : decode cX0_init 26 = .ok (.aload_n 0, 1) := by decide +kernel
theorem dX0_init_27 : decode cX0_init 27 = .ok (.new 25, 3) := by decide +kernel
theorem dX0_init_30 : decode cX0_init 30 = .ok (.dup, 1) := by decide +kernel
theorem dX0_init_31 : decode cX0_init 31 = .ok (.invokespecial 27, 3) := by decide +kernel
theorem dX0_init_34 : decode cX0_init 34 = .ok (.putfield 28, 3) := by decide +kernel
theorem dX0_init_37 : decode cX0_init 37 = .ok (.aload_n 0, 1) := by decide +kernel
theorem dX0_init_38 : decode cX0_init 38 = .ok (.new 32, 3) := by decide +kernel
theorem dX0_init_41 : decode cX0_init 41 = .ok (.dup, 1) := by decide +kernel
theorem dX0_init_42 : decode cX0_init 42 = .ok (.invokespecial 34, 3) := by decide +kernel
theorem dX0_init_45 : decode cX0_init 45 = .ok (.putfield 35, 3) := by decide +kernel
theorem dX0_init_48 : decode cX0_init 48 = .ok (.return_, 1) := by decide +kernel
theorem dX0_clear_0 : decode cX0_clear 0 = .ok (.aload_n 0, 1) := by decide +kernel
theorem dX0_clear_1 : decode cX0_clear 1 = .ok (.getfield 12, 3) := by decide +kernel
theorem dX0_clear_4 : decode cX0_clear 4 = .ok (.iconst 0, 1) := by decide +kernel
theorem dX0_clear_5 : decode cX0_clear 5 = .ok (.putfield 39, 3) := by decide +kernel
theorem dX0_clear_8 : decode cX0_clear 8 = .ok (.aload_n 0, 1) := by decide +kernel
theorem dX0_clear_9 : decode cX0_clear 9 = .ok (.getfield 12, 3) := by decide +kernel
theorem dX0_clear_12 : decode cX0_clear 12 = .ok (.iconst 0, 1) := by decide +kernel
theorem dX0_clear_13 : decode cX0_clear 13 = .ok (.putfield 43, 3) := by decide +kernel
theorem dX0_clear_16 : decode cX0_clear 16 = .ok (.aload_n 0, 1) := by decide +kernel
theorem dX0_clear_17 : decode cX0_clear 17 = .ok (.getfield 21, 3) := by decide +kernel
theorem dX0_clear_20 : decode cX0_clear 20 = .ok (.iconst 0, 1) := by decide +kernel
theorem dX0_clear_21 : decode cX0_clear 21 = .ok (.putfield 46, 3) := by decide +kernel
theorem dX0_clear_24 : decode cX0_clear 24 = .ok (.aload_n 0, 1) := by decide +kernel
theorem dX0_clear_25 : decode cX0_clear 25 = .ok (.getfield 21, 3) := by decide +kernel
theorem dX0_clear_28 : decode cX0_clear 28 = .ok (.iconst 0, 1) := by decide +kernel
theorem dX0_clear_29 : decode cX0_clear 29 = .ok (.putfield 49, 3) := by decide +kernel
theorem dX0_clear_32 : decode cX0_clear 32 = .ok (.aload_n 0, 1) := by decide +kernel
theorem dX0_clear_33 : decode cX0_clear 33 = .ok (.getfield 28, 3) := by decide +kernel
theorem dX0_clear_36 : decode cX0_clear 36 = .ok (.iconst 0, 1) := by decide +kernel
theorem dX0_clear_37 : decode cX0_clear 37 = .ok (.putfield 52, 3) := by decide +kernel
theorem dX0_clear_40 : decode cX0_clear 40 = .ok (.aload_n 0, 1) := by decide +kernel
theorem dX0_clear_41 : decode cX0_clear 41 = .ok (.getfield 35, 3) := by decide +kernel
theorem dX0_clear_44 : decode cX0_clear 44 = .ok (.iconst 0, 1) := by decide +kernel
theorem dX0_clear_45 : decode cX0_clear 45 = .ok (.putfield 55, 3) := by decide +kernel
theorem dX0_clear_48 : decode cX0_clear 48 = .ok (.aload_n 0, 1) := by decide +kernel
theorem dX0_clear_49 : decode cX0_clear 49 = .ok (.getfield 35, 3) := by decide +kernel
theorem dX0_clear_52 : decode cX0_clear 52 = .ok (.iconst 0, 1) := by decide +kernel
theorem dX0_clear_53 : decode cX0_clear 53 = .ok (.putfield 58, 3) := by decide +kernel
theorem dX0_clear_56 : decode cX0_clear 56 = .ok (.aload_n 0, 1) := by decide +kernel
theorem dX0_clear_57 : decode cX0_clear 57 = .ok (.iconst 0, 1) := by decide +kernel
theorem dX0_clear_58 : decode cX0_clear 58 = .ok (.invokevirtual 61, 3) := by decide +kernel
theorem dX0_clear_61 : decode cX0_clear 61 = .ok (.return_, 1) := by decide +kernel
theorem dX0_open_0 : decode cX0_open 0 = .ok (.aload_n 0, 1) := by decide +kernel
theorem dX0_open_1 : decode cX0_open 1 = .ok (.iload_n 1, 1) := by decide +kernel
theorem dX0_open_2 : decode cX0_open 2 = .ok (.putfield 65, 3) := by decide +kernel
theorem dX0_open_5 : decode cX0_open 5 = .ok (.aload_n 0, 1) := by decide +kernel
theorem dX0_open_6 : decode cX0_open 6 = .ok (.iconst 0, 1) := by decide +kernel
theorem dX0_open_7 : decode cX0_open 7 = .ok (.putfield 68, 3) := by decide +kernel
theorem dX0_open_10 : decode cX0_open 10 = .ok (.aload_n 0, 1) := by decide +kernel
theorem dX0_open_11 : decode cX0_open 11 = .ok (.iload_n 1, 1) := by decide +kernel
theorem dX0_open_12 : decode cX0_open 12 = .ok (.putfield 71, 3) := by decide +kernel
theorem dX0_open_15 : decode cX0_open 15 = .ok (.return_, 1) := by decide +kernel
theorem dX0_copyFrom_0 : decode cX0_copyFrom 0 = .ok (.aload_n 0, 1) := by decide +kernel
theorem dX0_copyFrom_1 : decode cX0_copyFrom 1 = .ok (.getfield 12, 3) := by decide +kernel
theorem dX0_copyFrom_4 : decode cX0_copyFrom 4 = .ok (.aload_n 1, 1) := by decide +kernel
theorem dX0_copyFrom_5 : decode cX0_copyFrom 5 = .ok (.getfield 12, 3) := by decide +kernel
theorem dX0_copyFrom_8 : decode cX0_copyFrom 8 = .ok (.invokevirtual 74, 3) := by decide +kernel
theorem dX0_copyFrom_11 : decode cX0_copyFrom 11 = .ok (.aload_n 0, 1) := by decide +kernel
theorem dX0_copyFrom_12 : decode cX0_copyFrom 12 = .ok (.getfield 21, 3) := by decide +kernel
theorem dX0_copyFrom_15 : decode cX0_copyFrom 15 = .ok (.aload_n 1, 1) := by decide +kernel
theorem dX0_copyFrom_16 : decode cX0_copyFrom 16 = .ok (.getfield 21, 3) := by decide +kernel
theorem dX0_copyFrom_19 : decode cX0_copyFrom 19 = .ok (.invokevirtual 78, 3) := by decide +kernel
theorem dX0_copyFrom_22 : decode cX0_copyFrom 22 = .ok (.aload_n 0, 1) := by decide +kernel
theorem dX0_copyFrom_23 : decode cX0_copyFrom 23 = .ok (.getfield 28, 3) := by decide +kernel
theorem dX0_copyFrom_26 : decode cX0_copyFrom 26 = .ok (.aload_n 1, 1) := by decide +kernel
theorem dX0_copyFrom_27 : decode cX0_copyFrom 27 = .ok (.getfield 28, 3) := by decide +kernel
theorem dX0_copyFrom_30 : decode cX0_copyFrom 30 = .ok (.invokevirtual 81, 3) := by decide +kernel
theorem dX0_copyFrom_33 : decode cX0_copyFrom 33 = .ok (.aload_n 0, 1) := by decide +kernel
theorem dX0_copyFrom_34 : decode cX0_copyFrom 34 = .ok (.getfield 35, 3) := by decide +kernel
theorem dX0_copyFrom_37 : decode cX0_copyFrom 37 = .ok (.aload_n 1, 1) := by decide +kernel
theorem dX0_copyFrom_38 : decode cX0_copyFrom 38 = .ok (.getfield 35, 3) := by decide +kernel
theorem dX0_copyFrom_41 : decode cX0_copyFrom 41 = .ok (.invokevirtual 84, 3) := by decide +kernel
theorem dX0_copyFrom_44 : decode cX0_copyFrom 44 = .ok (.aload_n 0, 1) := by decide +kernel
theorem dX0_copyFrom_45 : decode cX0_copyFrom 45 = .ok (.aload_n 1, 1) := by decide +kernel
theorem dX0_copyFrom_46 : decode cX0_copyFrom 46 = .ok (.getfield 65, 3) := by decide +kernel
theorem dX0_copyFrom_49 : decode cX0_copyFrom 49 = .ok (.putfield 65, 3) := by decide +kernel
theorem dX0_copyFrom_52 : decode cX0_copyFrom 52 = .ok (.aload_n 0, 1) := by decide +kernel
theorem dX0_copyFrom_53 : decode cX0_copyFrom 53 = .ok (.aload_n 1, 1) := by decide +kernel
theorem dX0_copyFrom_54 : decode cX0_copyFrom 54 = .ok (.getfield 68, 3) := by decide +kernel
theorem dX0_copyFrom_57 : decode cX0_copyFrom 57 = .ok (.putfield 68, 3) := by decide +kernel
theorem dX0_copyFrom_60 : decode cX0_copyFrom 60 = .ok (.aload_n 0, 1) := by decide +kernel
theorem dX0_copyFrom_61 : decode cX0_copyFrom 61 = .ok (.aload_n 1, 1) := by decide +kernel
theorem dX0_copyFrom_62 : decode cX0_copyFrom 62 = .ok (.getfield 71, 3) := by decide +kernel
theorem dX0_copyFrom_65 : decode cX0_copyFrom 65 = .ok (.putfield 71, 3) := by decide +kernel
theorem dX0_copyFrom_68 : decode cX0_copyFrom 68 = .ok (.return_, 1) := by decide +kernel
theorem dX0_isNameTaken_0 : decode cX0_isNameTaken 0 = .ok (.aload_n 0, 1) := by decide +kernel
theorem dX0_isNameTaken_1 : decode cX0_isNameTaken 1 = .ok (.getfield 12, 3) := by decide +kernel
theorem dX0_isNameTaken_4 : decode cX0_isNameTaken 4 = .ok (.iload_n 1, 1) := by decide +kernel
theorem dX0_isNameTaken_5 : decode cX0_isNameTaken 5 = .ok (.invokevirtual 87, 3) := by decide +kernel
theorem dX0_isNameTaken_8 : decode cX0_isNameTaken 8 = .ok (.iconst (-1), 1) := by decide +kernel
theorem dX0_isNameTaken_9 : decode cX0_isNameTaken 9 = .ok (.if_icmp .ne 15, 3) := by decide +kernel
theorem dX0_isNameTaken_12 : decode cX0_isNameTaken 12 = .ok (.aload_n 0, 1) := by decide +kernel
theorem dX0_isNameTaken_13 : decode cX0_isNameTaken 13 = .ok (.getfield 21, 3) := by decide +kernel
theorem dX0_isNameTaken_16 : decode cX0_isNameTaken 16 = .ok (.iload_n 1, 1) := by decide +kernel
theorem dX0_isNameTaken_17 : decode cX0_isNameTaken 17 = .ok (.invokevirtual 91, 3) := by decide +kernel
theorem dX0_isNameTaken_20 : decode cX0_isNameTaken 20 = .ok (.iconst (-1), 1) := by decide +kernel
theorem dX0_isNameTaken_21 : decode cX0_isNameTaken 21 = .ok (.if_icmp .eq 7, 3) := by decide +kernel
theorem dX0_isNameTaken_24 : decode cX0_isNameTaken 24 = .ok (.iconst 1, 1) := by decide +kernel
theorem dX0_isNameTaken_25 : decode cX0_isNameTaken 25 = .ok (.goto 4, 3) := by decide +kernel
theorem dX0_isNameTaken_28 : decode cX0_isNameTaken 28 = .ok (.iconst 0, 1) := by decide +kernel
theorem dX0_isNameTaken_29 : decode cX0_isNameTaken 29 = .ok (.ireturn, 1) := by decide +kernel
theorem dX0_greatestWithinLimit_0 : decode cX0_greatestWithinLimit 0 = .ok (.aload_n 0, 1) := by decide +kernel
theorem dX0_greatestWithinLimit_1 : decode cX0_greatestWithinLimit 1 = .ok (.getfield 21, 3) := by decide +kernel
theorem dX0_greatestWithinLimit_4 : decode cX0_greatestWithinLimit 4 = .ok (.iload_n 1, 1) := by decide +kernel
theorem dX0_greatestWithinLimit_5 : decode cX0_greatestWithinLimit 5 = .ok (.invokevirtual 94, 3) := by decide +kernel
theorem dX0_greatestWithinLimit_8 : decode cX0_greatestWithinLimit 8 = .ok (.aload_n 0, 1) := by decide +kernel
theorem dX0_greatestWithinLimit_9 : decode cX0_greatestWithinLimit 9 = .ok (.getfield 28, 3) := by decide +kernel
theorem dX0_greatestWithinLimit_12 : decode cX0_greatestWithinLimit 12 = .ok (.iload_n 1, 1) := by decide +kernel
theorem dX0_greatestWithinLimit_13 : decode cX0_greatestWithinLimit 13 = .ok (.invokevirtual 97, 3) := by decide +kernel
theorem dX0_greatestWithinLimit_16 : decode cX0_greatestWithinLimit 16 = .ok (.isub, 1) := by decide +kernel
theorem dX0_greatestWithinLimit_17 : decode cX0_greatestWithinLimit 17 = .ok (.istore_n 2, 1) := by decide +kernel
theorem dX0_greatestWithinLimit_18 : decode cX0_greatestWithinLimit 18 = .ok (.iconst 0, 1) := by decide +kernel
theorem dX0_greatestWithinLimit_19 : decode cX0_greatestWithinLimit 19 = .ok (.iload_n 2, 1) := by decide +kernel
theorem dX0_greatestWithinLimit_20 : decode cX0_greatestWithinLimit 20 = .ok (.sipush 5000, 3) := by decide +kernel
theorem dX0_greatestWithinLimit_23 : decode cX0_greatestWithinLimit 23 = .ok (.invokestatic 100, 3) := by decide +kernel
theorem dX0_greatestWithinLimit_26 : decode cX0_greatestWithinLimit 26 = .ok (.invokestatic 106, 3) := by decide +kernel
theorem dX0_greatestWithinLimit_29 : decode cX0_greatestWithinLimit 29 = .ok (.ireturn, 1) := by decide +kernel
theorem dX0_reasonAgainst_0 : decode cX0_reasonAgainst 0 = .ok (.aload_n 0, 1) := by decide +kernel
theorem dX0_reasonAgainst_1 : decode cX0_reasonAgainst 1 = .ok (.getfield 28, 3) := by decide +kernel
theorem dX0_reasonAgainst_4 : decode cX0_reasonAgainst 4 = .ok (.invokevirtual 109, 3) := by decide +kernel
theorem dX0_reasonAgainst_7 : decode cX0_reasonAgainst 7 = .ok (.ifCond .eq 5, 3) := by decide +kernel
theorem dX0_reasonAgainst_10 : decode cX0_reasonAgainst 10 = .ok (.iconst 1, 1) := by decide +kernel
theorem dX0_reasonAgainst_11 : decode cX0_reasonAgainst 11 = .ok (.ireturn, 1) := by decide +kernel
theorem dX0_reasonAgainst_12 : decode cX0_reasonAgainst 12 = .ok (.aload_n 0, 1) := by decide +kernel
theorem dX0_reasonAgainst_13 : decode cX0_reasonAgainst 13 = .ok (.getfield 12, 3) := by decide +kernel
theorem dX0_reasonAgainst_16 : decode cX0_reasonAgainst 16 = .ok (.iload_n 3, 1) := by decide +kernel
theorem dX0_reasonAgainst_17 : decode cX0_reasonAgainst 17 = .ok (.invokevirtual 113, 3) := by decide +kernel
theorem dX0_reasonAgainst_20 : decode cX0_reasonAgainst 20 = .ok (.iconst (-1), 1) := by decide +kernel
theorem dX0_reasonAgainst_21 : decode cX0_reasonAgainst 21 = .ok (.if_icmp .ne 5, 3) := by decide +kernel
theorem dX0_reasonAgainst_24 : decode cX0_reasonAgainst 24 = .ok (.iconst 2, 1) := by decide +kernel
theorem dX0_reasonAgainst_25 : decode cX0_reasonAgainst 25 = .ok (.ireturn, 1) := by decide +kernel
theorem dX0_reasonAgainst_26 : decode cX0_reasonAgainst 26 = .ok (.aload_n 0, 1) := by decide +kernel
theorem dX0_reasonAgainst_27 : decode cX0_reasonAgainst 27 = .ok (.getfield 35, 3) := by decide +kernel
theorem dX0_reasonAgainst_30 : decode cX0_reasonAgainst 30 = .ok (.aload_n 0, 1) := by decide +kernel
theorem dX0_reasonAgainst_31 : decode cX0_reasonAgainst 31 = .ok (.getfield 21, 3) := by decide +kernel
theorem dX0_reasonAgainst_34 : decode cX0_reasonAgainst 34 = .ok (.iload_n 1, 1) := by decide +kernel
theorem dX0_reasonAgainst_35 : decode cX0_reasonAgainst 35 = .ok (.invokevirtual 116, 3) := by decide +kernel
theorem dX0_reasonAgainst_38 : decode cX0_reasonAgainst 38 = .ok (.iload_n 2, 1) := by decide +kernel
theorem dX0_reasonAgainst_39 : decode cX0_reasonAgainst 39 = .ok (.invokevirtual 119, 3) := by decide +kernel
theorem dX0_reasonAgainst_42 : decode cX0_reasonAgainst 42 = .ok (.iconst (-1), 1) := by decide +kernel
theorem dX0_reasonAgainst_43 : decode cX0_reasonAgainst 43 = .ok (.if_icmp .ne 7, 3) := by decide +kernel
theorem dX0_reasonAgainst_46 : decode cX0_reasonAgainst 46 = .ok (.iconst 3, 1) := by decide +kernel
theorem dX0_reasonAgainst_47 : decode cX0_reasonAgainst 47 = .ok (.goto 4, 3) := by decide +kernel
theorem dX0_reasonAgainst_50 : decode cX0_reasonAgainst 50 = .ok (.iconst 0, 1) := by decide +kernel
theorem dX0_reasonAgainst_51 : decode cX0_reasonAgainst 51 = .ok (.ireturn, 1) := by decide +kernel
theorem dX0_gradeFor_0 : decode cX0_gradeFor 0 = .ok (.aload_n 0, 1) := by decide +kernel
theorem dX0_gradeFor_1 : decode cX0_gradeFor 1 = .ok (.getfield 28, 3) := by decide +kernel
theorem dX0_gradeFor_4 : decode cX0_gradeFor 4 = .ok (.iload_n 1, 1) := by decide +kernel
theorem dX0_gradeFor_5 : decode cX0_gradeFor 5 = .ok (.invokevirtual 97, 3) := by decide +kernel
theorem dX0_gradeFor_8 : decode cX0_gradeFor 8 = .ok (.iload_n 2, 1) := by decide +kernel
theorem dX0_gradeFor_9 : decode cX0_gradeFor 9 = .ok (.iadd, 1) := by decide +kernel
theorem dX0_gradeFor_10 : decode cX0_gradeFor 10 = .ok (.aload_n 0, 1) := by decide +kernel
theorem dX0_gradeFor_11 : decode cX0_gradeFor 11 = .ok (.getfield 21, 3) := by decide +kernel
theorem dX0_gradeFor_14 : decode cX0_gradeFor 14 = .ok (.iload_n 1, 1) := by decide +kernel
theorem dX0_gradeFor_15 : decode cX0_gradeFor 15 = .ok (.invokevirtual 94, 3) := by decide +kernel
theorem dX0_gradeFor_18 : decode cX0_gradeFor 18 = .ok (.if_icmp .le 13, 3) := by decide +kernel
theorem dX0_gradeFor_21 : decode cX0_gradeFor 21 = .ok (.aload_n 0, 1) := by decide +kernel
theorem dX0_gradeFor_22 : decode cX0_gradeFor 22 = .ok (.getfield 12, 3) := by decide +kernel
theorem dX0_gradeFor_25 : decode cX0_gradeFor 25 = .ok (.getfield 39, 3) := by decide +kernel
theorem dX0_gradeFor_28 : decode cX0_gradeFor 28 = .ok (.iconst 1, 1) := by decide +kernel
theorem dX0_gradeFor_29 : decode cX0_gradeFor 29 = .ok (.isub, 1) := by decide +kernel
theorem dX0_gradeFor_30 : decode cX0_gradeFor 30 = .ok (.ireturn, 1) := by decide +kernel
theorem dX0_gradeFor_31 : decode cX0_gradeFor 31 = .ok (.aload_n 0, 1) := by decide +kernel
theorem dX0_gradeFor_32 : decode cX0_gradeFor 32 = .ok (.getfield 12, 3) := by decide +kernel
theorem dX0_gradeFor_35 : decode cX0_gradeFor 35 = .ok (.iload_n 3, 1) := by decide +kernel
theorem dX0_gradeFor_36 : decode cX0_gradeFor 36 = .ok (.invokevirtual 113, 3) := by decide +kernel
theorem dX0_gradeFor_39 : decode cX0_gradeFor 39 = .ok (.ireturn, 1) := by decide +kernel
theorem dX0_accept_0 : decode cX0_accept 0 = .ok (.aload_n 0, 1) := by decide +kernel
theorem dX0_accept_1 : decode cX0_accept 1 = .ok (.getfield 21, 3) := by decide +kernel
theorem dX0_accept_4 : decode cX0_accept 4 = .ok (.iload_n 1, 1) := by decide +kernel
theorem dX0_accept_5 : decode cX0_accept 5 = .ok (.invokevirtual 116, 3) := by decide +kernel
theorem dX0_accept_8 : decode cX0_accept 8 = .ok (.istore 4, 2) := by decide +kernel
theorem dX0_accept_10 : decode cX0_accept 10 = .ok (.aload_n 0, 1) := by decide +kernel
theorem dX0_accept_11 : decode cX0_accept 11 = .ok (.iload_n 1, 1) := by decide +kernel
theorem dX0_accept_12 : decode cX0_accept 12 = .ok (.iload_n 2, 1) := by decide +kernel
theorem dX0_accept_13 : decode cX0_accept 13 = .ok (.iload_n 3, 1) := by decide +kernel
theorem dX0_accept_14 : decode cX0_accept 14 = .ok (.invokevirtual 122, 3) := by decide +kernel
theorem dX0_accept_17 : decode cX0_accept 17 = .ok (.istore 5, 2) := by decide +kernel
theorem dX0_accept_19 : decode cX0_accept 19 = .ok (.aload_n 0, 1) := by decide +kernel
theorem dX0_accept_20 : decode cX0_accept 20 = .ok (.getfield 35, 3) := by decide +kernel
theorem dX0_accept_23 : decode cX0_accept 23 = .ok (.iload 4, 2) := by decide +kernel
theorem dX0_accept_25 : decode cX0_accept 25 = .ok (.iload_n 2, 1) := by decide +kernel
theorem dX0_accept_26 : decode cX0_accept 26 = .ok (.invokevirtual 119, 3) := by decide +kernel
theorem dX0_accept_29 : decode cX0_accept 29 = .ok (.istore 6, 2) := by decide +kernel
theorem dX0_accept_31 : decode cX0_accept 31 = .ok (.iload 6, 2) := by decide +kernel
theorem dX0_accept_33 : decode cX0_accept 33 = .ok (.ifCond .lt 19, 3) := by decide +kernel
theorem dX0_accept_36 : decode cX0_accept 36 = .ok (.iload 6, 2) := by decide +kernel
theorem dX0_accept_38 : decode cX0_accept 38 = .ok (.iconst 5, 1) := by decide +kernel
theorem dX0_accept_39 : decode cX0_accept 39 = .ok (.if_icmp .ge 13, 3) := by decide +kernel
theorem dX0_accept_42 : decode cX0_accept 42 = .ok (.aload_n 0, 1) := by decide +kernel
theorem dX0_accept_43 : decode cX0_accept 43 = .ok (.getfield 28, 3) := by decide +kernel
theorem dX0_accept_46 : decode cX0_accept 46 = .ok (.invokevirtual 109, 3) := by decide +kernel
theorem dX0_accept_49 : decode cX0_accept 49 = .ok (.ifCond .eq 5, 3) := by decide +kernel
theorem dX0_accept_52 : decode cX0_accept 52 = .ok (.iconst (-1), 1) := by decide +kernel
theorem dX0_accept_53 : decode cX0_accept 53 = .ok (.ireturn, 1) := by decide +kernel
theorem dX0_accept_54 : decode cX0_accept 54 = .ok (.aload_n 0, 1) := by decide +kernel
theorem dX0_accept_55 : decode cX0_accept 55 = .ok (.getfield 35, 3) := by decide +kernel
theorem dX0_accept_58 : decode cX0_accept 58 = .ok (.getfield 126, 3) := by decide +kernel
theorem dX0_accept_61 : decode cX0_accept 61 = .ok (.iload 6, 2) := by decide +kernel
theorem dX0_accept_63 : decode cX0_accept 63 = .ok (.aaload, 1) := by decide +kernel
theorem dX0_accept_64 : decode cX0_accept 64 = .ok (.iload 4, 2) := by decide +kernel
theorem dX0_accept_66 : decode cX0_accept 66 = .ok (.iload_n 2, 1) := by decide +kernel
theorem dX0_accept_67 : decode cX0_accept 67 = .ok (.iload_n 2, 1) := by decide +kernel
theorem dX0_accept_68 : decode cX0_accept 68 = .ok (.iload_n 3, 1) := by decide +kernel
theorem dX0_accept_69 : decode cX0_accept 69 = .ok (.imul, 1) := by decide +kernel
theorem dX0_accept_70 : decode cX0_accept 70 = .ok (.invokevirtual 130, 3) := by decide +kernel
theorem dX0_accept_73 : decode cX0_accept 73 = .ok (.aload_n 0, 1) := by decide +kernel
theorem dX0_accept_74 : decode cX0_accept 74 = .ok (.getfield 28, 3) := by decide +kernel
theorem dX0_accept_77 : decode cX0_accept 77 = .ok (.invokevirtual 136, 3) := by decide +kernel
theorem dX0_accept_80 : decode cX0_accept 80 = .ok (.astore 7, 2) := by decide +kernel
theorem dX0_accept_82 : decode cX0_accept 82 = .ok (.aload 7, 2) := by decide +kernel
theorem dX0_accept_84 : decode cX0_accept 84 = .ok (.iload_n 1, 1) := by decide +kernel
theorem dX0_accept_85 : decode cX0_accept 85 = .ok (.putfield 140, 3) := by decide +kernel
theorem dX0_accept_88 : decode cX0_accept 88 = .ok (.aload 7, 2) := by decide +kernel
theorem dX0_accept_90 : decode cX0_accept 90 = .ok (.aload_n 0, 1) := by decide +kernel
theorem dX0_accept_91 : decode cX0_accept 91 = .ok (.getfield 21, 3) := by decide +kernel
theorem dX0_accept_94 : decode cX0_accept 94 = .ok (.iload_n 1, 1) := by decide +kernel
theorem dX0_accept_95 : decode cX0_accept 95 = .ok (.invokevirtual 145, 3) := by decide +kernel
theorem dX0_accept_98 : decode cX0_accept 98 = .ok (.putfield 148, 3) := by decide +kernel
theorem dX0_accept_101 : decode cX0_accept 101 = .ok (.aload 7, 2) := by decide +kernel
theorem dX0_accept_103 : decode cX0_accept 103 = .ok (.iload 4, 2) := by decide +kernel
theorem dX0_accept_105 : decode cX0_accept 105 = .ok (.putfield 151, 3) := by decide +kernel
theorem dX0_accept_108 : decode cX0_accept 108 = .ok (.aload 7, 2) := by decide +kernel
theorem dX0_accept_110 : decode cX0_accept 110 = .ok (.iload_n 2, 1) := by decide +kernel
theorem dX0_accept_111 : decode cX0_accept 111 = .ok (.putfield 154, 3) := by decide +kernel
theorem dX0_accept_114 : decode cX0_accept 114 = .ok (.aload 7, 2) := by decide +kernel
theorem dX0_accept_116 : decode cX0_accept 116 = .ok (.iload_n 3, 1) := by decide +kernel
theorem dX0_accept_117 : decode cX0_accept 117 = .ok (.putfield 157, 3) := by decide +kernel
theorem dX0_accept_120 : decode cX0_accept 120 = .ok (.aload 7, 2) := by decide +kernel
theorem dX0_accept_122 : decode cX0_accept 122 = .ok (.iload 5, 2) := by decide +kernel
theorem dX0_accept_124 : decode cX0_accept 124 = .ok (.putfield 160, 3) := by decide +kernel
theorem dX0_accept_127 : decode cX0_accept 127 = .ok (.aload 7, 2) := by decide +kernel
theorem dX0_accept_129 : decode cX0_accept 129 = .ok (.iload 6, 2) := by decide +kernel
theorem dX0_accept_131 : decode cX0_accept 131 = .ok (.putfield 163, 3) := by decide +kernel
theorem dX0_accept_134 : decode cX0_accept 134 = .ok (.iload 5, 2) := by decide +kernel
theorem dX0_accept_136 : decode cX0_accept 136 = .ok (.ireturn, 1) := by decide +kernel
theorem dX0_centsOf_0 : decode cX0_centsOf 0 = .ok (.aload_n 1, 1) := by decide +kernel
theorem dX0_centsOf_1 : decode cX0_centsOf 1 = .ok (.getfield 166, 3) := by decide +kernel
theorem dX0_centsOf_4 : decode cX0_centsOf 4 = .ok (.ifCond .eq 10, 3) := by decide +kernel
theorem dX0_centsOf_7 : decode cX0_centsOf 7 = .ok (.aload_n 1, 1) := by decide +kernel
theorem dX0_centsOf_8 : decode cX0_centsOf 8 = .ok (.getfield 170, 3) := by decide +kernel
theorem dX0_centsOf_11 : decode cX0_centsOf 11 = .ok (.goto 23, 3) := by decide +kernel
theorem dX0_centsOf_14 : decode cX0_centsOf 14 = .ok (.aload_n 1, 1) := by decide +kernel
theorem dX0_centsOf_15 : decode cX0_centsOf 15 = .ok (.getfield 154, 3) := by decide +kernel
theorem dX0_centsOf_18 : decode cX0_centsOf 18 = .ok (.aload_n 0, 1) := by decide +kernel
theorem dX0_centsOf_19 : decode cX0_centsOf 19 = .ok (.getfield 12, 3) := by decide +kernel
theorem dX0_centsOf_22 : decode cX0_centsOf 22 = .ok (.aload_n 1, 1) := by decide +kernel
theorem dX0_centsOf_23 : decode cX0_centsOf 23 = .ok (.getfield 151, 3) := by decide +kernel
theorem dX0_centsOf_26 : decode cX0_centsOf 26 = .ok (.aload_n 1, 1) := by decide +kernel
theorem dX0_centsOf_27 : decode cX0_centsOf 27 = .ok (.getfield 160, 3) := by decide +kernel
theorem dX0_centsOf_30 : decode cX0_centsOf 30 = .ok (.invokevirtual 173, 3) := by decide +kernel
theorem dX0_centsOf_33 : decode cX0_centsOf 33 = .ok (.imul, 1) := by decide +kernel
theorem dX0_centsOf_34 : decode cX0_centsOf 34 = .ok (.ireturn, 1) := by decide +kernel
theorem dX0_unpaidTo_0 : decode cX0_unpaidTo 0 = .ok (.iconst 0, 1) := by decide +kernel
theorem dX0_unpaidTo_1 : decode cX0_unpaidTo 1 = .ok (.istore_n 2, 1) := by decide +kernel
theorem dX0_unpaidTo_2 : decode cX0_unpaidTo 2 = .ok (.iconst 0, 1) := by decide +kernel
theorem dX0_unpaidTo_3 : decode cX0_unpaidTo 3 = .ok (.istore_n 3, 1) := by decide +kernel
theorem dX0_unpaidTo_4 : decode cX0_unpaidTo 4 = .ok (.iload_n 3, 1) := by decide +kernel
theorem dX0_unpaidTo_5 : decode cX0_unpaidTo 5 = .ok (.aload_n 0, 1) := by decide +kernel
theorem dX0_unpaidTo_6 : decode cX0_unpaidTo 6 = .ok (.getfield 28, 3) := by decide +kernel
theorem dX0_unpaidTo_9 : decode cX0_unpaidTo 9 = .ok (.getfield 52, 3) := by decide +kernel
theorem dX0_unpaidTo_12 : decode cX0_unpaidTo 12 = .ok (.if_icmp .ge 55, 3) := by decide +kernel
theorem dX0_unpaidTo_15 : decode cX0_unpaidTo 15 = .ok (.aload_n 0, 1) := by decide +kernel
theorem dX0_unpaidTo_16 : decode cX0_unpaidTo 16 = .ok (.getfield 28, 3) := by decide +kernel
theorem dX0_unpaidTo_19 : decode cX0_unpaidTo 19 = .ok (.getfield 176, 3) := by decide +kernel
theorem dX0_unpaidTo_22 : decode cX0_unpaidTo 22 = .ok (.iload_n 3, 1) := by decide +kernel
theorem dX0_unpaidTo_23 : decode cX0_unpaidTo 23 = .ok (.aaload, 1) := by decide +kernel
theorem dX0_unpaidTo_24 : decode cX0_unpaidTo 24 = .ok (.astore 4, 2) := by decide +kernel
theorem dX0_unpaidTo_26 : decode cX0_unpaidTo 26 = .ok (.aload 4, 2) := by decide +kernel
theorem dX0_unpaidTo_28 : decode cX0_unpaidTo 28 = .ok (.iload_n 1, 1) := by decide +kernel
theorem dX0_unpaidTo_29 : decode cX0_unpaidTo 29 = .ok (.invokevirtual 180, 3) := by decide +kernel
theorem dX0_unpaidTo_32 : decode cX0_unpaidTo 32 = .ok (.ifCond .eq 29, 3) := by decide +kernel
theorem dX0_unpaidTo_35 : decode cX0_unpaidTo 35 = .ok (.iload_n 2, 1) := by decide +kernel
theorem dX0_unpaidTo_36 : decode cX0_unpaidTo 36 = .ok (.aload 4, 2) := by decide +kernel
theorem dX0_unpaidTo_38 : decode cX0_unpaidTo 38 = .ok (.getfield 154, 3) := by decide +kernel
theorem dX0_unpaidTo_41 : decode cX0_unpaidTo 41 = .ok (.aload_n 0, 1) := by decide +kernel
theorem dX0_unpaidTo_42 : decode cX0_unpaidTo 42 = .ok (.getfield 12, 3) := by decide +kernel
theorem dX0_unpaidTo_45 : decode cX0_unpaidTo 45 = .ok (.aload 4, 2) := by decide +kernel
theorem dX0_unpaidTo_47 : decode cX0_unpaidTo 47 = .ok (.getfield 151, 3) := by decide +kernel
theorem dX0_unpaidTo_50 : decode cX0_unpaidTo 50 = .ok (.aload 4, 2) := by decide +kernel
theorem dX0_unpaidTo_52 : decode cX0_unpaidTo 52 = .ok (.getfield 160, 3) := by decide +kernel
theorem dX0_unpaidTo_55 : decode cX0_unpaidTo 55 = .ok (.invokevirtual 173, 3) := by decide +kernel
theorem dX0_unpaidTo_58 : decode cX0_unpaidTo 58 = .ok (.imul, 1) := by decide +kernel
theorem dX0_unpaidTo_59 : decode cX0_unpaidTo 59 = .ok (.iadd, 1) := by decide +kernel
theorem dX0_unpaidTo_60 : decode cX0_unpaidTo 60 = .ok (.istore_n 2, 1) := by decide +kernel
theorem dX0_unpaidTo_61 : decode cX0_unpaidTo 61 = .ok (.iinc 3 1, 3) := by decide +kernel
theorem dX0_unpaidTo_64 : decode cX0_unpaidTo 64 = .ok (.goto (-60), 3) := by decide +kernel
theorem dX0_unpaidTo_67 : decode cX0_unpaidTo 67 = .ok (.iload_n 2, 1) := by decide +kernel
theorem dX0_unpaidTo_68 : decode cX0_unpaidTo 68 = .ok (.ireturn, 1) := by decide +kernel
theorem dX0_unpaidToAll_0 : decode cX0_unpaidToAll 0 = .ok (.iconst 0, 1) := by decide +kernel
theorem dX0_unpaidToAll_1 : decode cX0_unpaidToAll 1 = .ok (.istore_n 1, 1) := by decide +kernel
theorem dX0_unpaidToAll_2 : decode cX0_unpaidToAll 2 = .ok (.iconst 0, 1) := by decide +kernel
theorem dX0_unpaidToAll_3 : decode cX0_unpaidToAll 3 = .ok (.istore_n 2, 1) := by decide +kernel
theorem dX0_unpaidToAll_4 : decode cX0_unpaidToAll 4 = .ok (.iload_n 2, 1) := by decide +kernel
theorem dX0_unpaidToAll_5 : decode cX0_unpaidToAll 5 = .ok (.aload_n 0, 1) := by decide +kernel
theorem dX0_unpaidToAll_6 : decode cX0_unpaidToAll 6 = .ok (.getfield 21, 3) := by decide +kernel
theorem dX0_unpaidToAll_9 : decode cX0_unpaidToAll 9 = .ok (.getfield 46, 3) := by decide +kernel
theorem dX0_unpaidToAll_12 : decode cX0_unpaidToAll 12 = .ok (.if_icmp .ge 17, 3) := by decide +kernel
theorem dX0_unpaidToAll_15 : decode cX0_unpaidToAll 15 = .ok (.iload_n 1, 1) := by decide +kernel
theorem dX0_unpaidToAll_16 : decode cX0_unpaidToAll 16 = .ok (.aload_n 0, 1) := by decide +kernel
theorem dX0_unpaidToAll_17 : decode cX0_unpaidToAll 17 = .ok (.iload_n 2, 1) := by decide +kernel
theorem dX0_unpaidToAll_18 : decode cX0_unpaidToAll 18 = .ok (.invokevirtual 184, 3) := by decide +kernel
theorem dX0_unpaidToAll_21 : decode cX0_unpaidToAll 21 = .ok (.iadd, 1) := by decide +kernel
theorem dX0_unpaidToAll_22 : decode cX0_unpaidToAll 22 = .ok (.istore_n 1, 1) := by decide +kernel
theorem dX0_unpaidToAll_23 : decode cX0_unpaidToAll 23 = .ok (.iinc 2 1, 3) := by decide +kernel
theorem dX0_unpaidToAll_26 : decode cX0_unpaidToAll 26 = .ok (.goto (-22), 3) := by decide +kernel
theorem dX0_unpaidToAll_29 : decode cX0_unpaidToAll 29 = .ok (.iload_n 1, 1) := by decide +kernel
theorem dX0_unpaidToAll_30 : decode cX0_unpaidToAll 30 = .ok (.ireturn, 1) := by decide +kernel
theorem dX0_countPayable_0 : decode cX0_countPayable 0 = .ok (.aload_n 0, 1) := by decide +kernel
theorem dX0_countPayable_1 : decode cX0_countPayable 1 = .ok (.getfield 71, 3) := by decide +kernel
theorem dX0_countPayable_4 : decode cX0_countPayable 4 = .ok (.istore_n 1, 1) := by decide +kernel
theorem dX0_countPayable_5 : decode cX0_countPayable 5 = .ok (.iconst 0, 1) := by decide +kernel
theorem dX0_countPayable_6 : decode cX0_countPayable 6 = .ok (.istore_n 2, 1) := by decide +kernel
theorem dX0_countPayable_7 : decode cX0_countPayable 7 = .ok (.iconst 0, 1) := by decide +kernel
theorem dX0_countPayable_8 : decode cX0_countPayable 8 = .ok (.istore_n 3, 1) := by decide +kernel
theorem dX0_countPayable_9 : decode cX0_countPayable 9 = .ok (.iload_n 3, 1) := by decide +kernel
theorem dX0_countPayable_10 : decode cX0_countPayable 10 = .ok (.aload_n 0, 1) := by decide +kernel
theorem dX0_countPayable_11 : decode cX0_countPayable 11 = .ok (.getfield 21, 3) := by decide +kernel
theorem dX0_countPayable_14 : decode cX0_countPayable 14 = .ok (.getfield 46, 3) := by decide +kernel
theorem dX0_countPayable_17 : decode cX0_countPayable 17 = .ok (.if_icmp .ge 38, 3) := by decide +kernel
theorem dX0_countPayable_20 : decode cX0_countPayable 20 = .ok (.aload_n 0, 1) := by decide +kernel
theorem dX0_countPayable_21 : decode cX0_countPayable 21 = .ok (.iload_n 3, 1) := by decide +kernel
theorem dX0_countPayable_22 : decode cX0_countPayable 22 = .ok (.invokevirtual 184, 3) := by decide +kernel
theorem dX0_countPayable_25 : decode cX0_countPayable 25 = .ok (.istore 4, 2) := by decide +kernel
theorem dX0_countPayable_27 : decode cX0_countPayable 27 = .ok (.iload 4, 2) := by decide +kernel
theorem dX0_countPayable_29 : decode cX0_countPayable 29 = .ok (.iload_n 1, 1) := by decide +kernel
theorem dX0_countPayable_30 : decode cX0_countPayable 30 = .ok (.if_icmp .le 6, 3) := by decide +kernel
theorem dX0_countPayable_33 : decode cX0_countPayable 33 = .ok (.goto 22, 3) := by decide +kernel
theorem dX0_countPayable_36 : decode cX0_countPayable 36 = .ok (.iload 4, 2) := by decide +kernel
theorem dX0_countPayable_38 : decode cX0_countPayable 38 = .ok (.ifCond .le 11, 3) := by decide +kernel
theorem dX0_countPayable_41 : decode cX0_countPayable 41 = .ok (.iload_n 1, 1) := by decide +kernel
theorem dX0_countPayable_42 : decode cX0_countPayable 42 = .ok (.iload 4, 2) := by decide +kernel
theorem dX0_countPayable_44 : decode cX0_countPayable 44 = .ok (.isub, 1) := by decide +kernel
theorem dX0_countPayable_45 : decode cX0_countPayable 45 = .ok (.istore_n 1, 1) := by decide +kernel
theorem dX0_countPayable_46 : decode cX0_countPayable 46 = .ok (.iinc 2 1, 3) := by decide +kernel
theorem dX0_countPayable_49 : decode cX0_countPayable 49 = .ok (.iinc 3 1, 3) := by decide +kernel
theorem dX0_countPayable_52 : decode cX0_countPayable 52 = .ok (.goto (-43), 3) := by decide +kernel
theorem dX0_countPayable_55 : decode cX0_countPayable 55 = .ok (.iload_n 2, 1) := by decide +kernel
theorem dX0_countPayable_56 : decode cX0_countPayable 56 = .ok (.ireturn, 1) := by decide +kernel
theorem dX0_canSettleAll_0 : decode cX0_canSettleAll 0 = .ok (.aload_n 0, 1) := by decide +kernel
theorem dX0_canSettleAll_1 : decode cX0_canSettleAll 1 = .ok (.getfield 28, 3) := by decide +kernel
theorem dX0_canSettleAll_4 : decode cX0_canSettleAll 4 = .ok (.iload_n 1, 1) := by decide +kernel
theorem dX0_canSettleAll_5 : decode cX0_canSettleAll 5 = .ok (.invokevirtual 187, 3) := by decide +kernel
theorem dX0_canSettleAll_8 : decode cX0_canSettleAll 8 = .ok (.ifCond .eq 19, 3) := by decide +kernel
theorem dX0_canSettleAll_11 : decode cX0_canSettleAll 11 = .ok (.aload_n 0, 1) := by decide +kernel
theorem dX0_canSettleAll_12 : decode cX0_canSettleAll 12 = .ok (.iload_n 1, 1) := by decide +kernel
theorem dX0_canSettleAll_13 : decode cX0_canSettleAll 13 = .ok (.invokevirtual 184, 3) := by decide +kernel
theorem dX0_canSettleAll_16 : decode cX0_canSettleAll 16 = .ok (.aload_n 0, 1) := by decide +kernel
theorem dX0_canSettleAll_17 : decode cX0_canSettleAll 17 = .ok (.getfield 71, 3) := by decide +kernel
theorem dX0_canSettleAll_20 : decode cX0_canSettleAll 20 = .ok (.if_icmp .gt 7, 3) := by decide +kernel
theorem dX0_canSettleAll_23 : decode cX0_canSettleAll 23 = .ok (.iconst 1, 1) := by decide +kernel
theorem dX0_canSettleAll_24 : decode cX0_canSettleAll 24 = .ok (.goto 4, 3) := by decide +kernel
theorem dX0_canSettleAll_27 : decode cX0_canSettleAll 27 = .ok (.iconst 0, 1) := by decide +kernel
theorem dX0_canSettleAll_28 : decode cX0_canSettleAll 28 = .ok (.ireturn, 1) := by decide +kernel
theorem dX0_settleAll_0 : decode cX0_settleAll 0 = .ok (.iconst 0, 1) := by decide +kernel
theorem dX0_settleAll_1 : decode cX0_settleAll 1 = .ok (.istore_n 2, 1) := by decide +kernel
theorem dX0_settleAll_2 : decode cX0_settleAll 2 = .ok (.iconst 0, 1) := by decide +kernel
theorem dX0_settleAll_3 : decode cX0_settleAll 3 = .ok (.istore_n 3, 1) := by decide +kernel
theorem dX0_settleAll_4 : decode cX0_settleAll 4 = .ok (.iload_n 3, 1) := by decide +kernel
theorem dX0_settleAll_5 : decode cX0_settleAll 5 = .ok (.aload_n 0, 1) := by decide +kernel
theorem dX0_settleAll_6 : decode cX0_settleAll 6 = .ok (.getfield 28, 3) := by decide +kernel
theorem dX0_settleAll_9 : decode cX0_settleAll 9 = .ok (.getfield 52, 3) := by decide +kernel
theorem dX0_settleAll_12 : decode cX0_settleAll 12 = .ok (.if_icmp .ge 44, 3) := by decide +kernel
theorem dX0_settleAll_15 : decode cX0_settleAll 15 = .ok (.aload_n 0, 1) := by decide +kernel
theorem dX0_settleAll_16 : decode cX0_settleAll 16 = .ok (.getfield 28, 3) := by decide +kernel
theorem dX0_settleAll_19 : decode cX0_settleAll 19 = .ok (.getfield 176, 3) := by decide +kernel
theorem dX0_settleAll_22 : decode cX0_settleAll 22 = .ok (.iload_n 3, 1) := by decide +kernel
theorem dX0_settleAll_23 : decode cX0_settleAll 23 = .ok (.aaload, 1) := by decide +kernel
theorem dX0_settleAll_24 : decode cX0_settleAll 24 = .ok (.astore 4, 2) := by decide +kernel
theorem dX0_settleAll_26 : decode cX0_settleAll 26 = .ok (.aload 4, 2) := by decide +kernel
theorem dX0_settleAll_28 : decode cX0_settleAll 28 = .ok (.iload_n 1, 1) := by decide +kernel
theorem dX0_settleAll_29 : decode cX0_settleAll 29 = .ok (.invokevirtual 180, 3) := by decide +kernel
theorem dX0_settleAll_32 : decode cX0_settleAll 32 = .ok (.ifCond .eq 18, 3) := by decide +kernel
theorem dX0_settleAll_35 : decode cX0_settleAll 35 = .ok (.iload_n 2, 1) := by decide +kernel
theorem dX0_settleAll_36 : decode cX0_settleAll 36 = .ok (.aload_n 0, 1) := by decide +kernel
theorem dX0_settleAll_37 : decode cX0_settleAll 37 = .ok (.aload 4, 2) := by decide +kernel
theorem dX0_settleAll_39 : decode cX0_settleAll 39 = .ok (.aload_n 0, 1) := by decide +kernel
theorem dX0_settleAll_40 : decode cX0_settleAll 40 = .ok (.aload 4, 2) := by decide +kernel
theorem dX0_settleAll_42 : decode cX0_settleAll 42 = .ok (.invokevirtual 190, 3) := by decide +kernel
theorem dX0_settleAll_45 : decode cX0_settleAll 45 = .ok (.invokevirtual 194, 3) := by decide +kernel
theorem dX0_settleAll_48 : decode cX0_settleAll 48 = .ok (.iadd, 1) := by decide +kernel
theorem dX0_settleAll_49 : decode cX0_settleAll 49 = .ok (.istore_n 2, 1) := by decide +kernel
theorem dX0_settleAll_50 : decode cX0_settleAll 50 = .ok (.iinc 3 1, 3) := by decide +kernel
theorem dX0_settleAll_53 : decode cX0_settleAll 53 = .ok (.goto (-49), 3) := by decide +kernel
theorem dX0_settleAll_56 : decode cX0_settleAll 56 = .ok (.iload_n 2, 1) := by decide +kernel
theorem dX0_settleAll_57 : decode cX0_settleAll 57 = .ok (.ireturn, 1) := by decide +kernel
theorem dX0_settle_0 : decode cX0_settle 0 = .ok (.aload_n 1, 1) := by decide +kernel
theorem dX0_settle_1 : decode cX0_settle 1 = .ok (.iconst 1, 1) := by decide +kernel
theorem dX0_settle_2 : decode cX0_settle 2 = .ok (.putfield 166, 3) := by decide +kernel
theorem dX0_settle_5 : decode cX0_settle 5 = .ok (.aload_n 1, 1) := by decide +kernel
theorem dX0_settle_6 : decode cX0_settle 6 = .ok (.iload_n 2, 1) := by decide +kernel
theorem dX0_settle_7 : decode cX0_settle 7 = .ok (.putfield 170, 3) := by decide +kernel
theorem dX0_settle_10 : decode cX0_settle 10 = .ok (.aload_n 0, 1) := by decide +kernel
theorem dX0_settle_11 : decode cX0_settle 11 = .ok (.dup, 1) := by decide +kernel
theorem dX0_settle_12 : decode cX0_settle 12 = .ok (.getfield 71, 3) := by decide +kernel
theorem dX0_settle_15 : decode cX0_settle 15 = .ok (.iload_n 2, 1) := by decide +kernel
theorem dX0_settle_16 : decode cX0_settle 16 = .ok (.isub, 1) := by decide +kernel
theorem dX0_settle_17 : decode cX0_settle 17 = .ok (.putfield 71, 3) := by decide +kernel
theorem dX0_settle_20 : decode cX0_settle 20 = .ok (.iload_n 2, 1) := by decide +kernel
theorem dX0_settle_21 : decode cX0_settle 21 = .ok (.ireturn, 1) := by decide +kernel
theorem dX0_canTrade_0 : decode cX0_canTrade 0 = .ok (.iload_n 2, 1) := by decide +kernel
theorem dX0_canTrade_1 : decode cX0_canTrade 1 = .ok (.aload_n 1, 1) := by decide +kernel
theorem dX0_canTrade_2 : decode cX0_canTrade 2 = .ok (.getfield 198, 3) := by decide +kernel
theorem dX0_canTrade_5 : decode cX0_canTrade 5 = .ok (.if_icmp .gt 20, 3) := by decide +kernel
theorem dX0_canTrade_8 : decode cX0_canTrade 8 = .ok (.iload_n 2, 1) := by decide +kernel
theorem dX0_canTrade_9 : decode cX0_canTrade 9 = .ok (.iload_n 3, 1) := by decide +kernel
theorem dX0_canTrade_10 : decode cX0_canTrade 10 = .ok (.imul, 1) := by decide +kernel
theorem dX0_canTrade_11 : decode cX0_canTrade 11 = .ok (.ldc 203, 2) := by decide +kernel
theorem dX0_canTrade_13 : decode cX0_canTrade 13 = .ok (.aload_n 0, 1) := by decide +kernel
theorem dX0_canTrade_14 : decode cX0_canTrade 14 = .ok (.getfield 71, 3) := by decide +kernel
theorem dX0_canTrade_17 : decode cX0_canTrade 17 = .ok (.isub, 1) := by decide +kernel
theorem dX0_canTrade_18 : decode cX0_canTrade 18 = .ok (.if_icmp .gt 7, 3) := by decide +kernel
theorem dX0_canTrade_21 : decode cX0_canTrade 21 = .ok (.iconst 1, 1) := by decide +kernel
theorem dX0_canTrade_22 : decode cX0_canTrade 22 = .ok (.goto 4, 3) := by decide +kernel
theorem dX0_canTrade_25 : decode cX0_canTrade 25 = .ok (.iconst 0, 1) := by decide +kernel
theorem dX0_canTrade_26 : decode cX0_canTrade 26 = .ok (.ireturn, 1) := by decide +kernel
theorem dX0_trade_0 : decode cX0_trade 0 = .ok (.aload_n 1, 1) := by decide +kernel
theorem dX0_trade_1 : decode cX0_trade 1 = .ok (.dup, 1) := by decide +kernel
theorem dX0_trade_2 : decode cX0_trade 2 = .ok (.getfield 198, 3) := by decide +kernel
theorem dX0_trade_5 : decode cX0_trade 5 = .ok (.iload_n 2, 1) := by decide +kernel
theorem dX0_trade_6 : decode cX0_trade 6 = .ok (.isub, 1) := by decide +kernel
theorem dX0_trade_7 : decode cX0_trade 7 = .ok (.putfield 198, 3) := by decide +kernel
theorem dX0_trade_10 : decode cX0_trade 10 = .ok (.aload_n 0, 1) := by decide +kernel
theorem dX0_trade_11 : decode cX0_trade 11 = .ok (.dup, 1) := by decide +kernel
theorem dX0_trade_12 : decode cX0_trade 12 = .ok (.getfield 68, 3) := by decide +kernel
theorem dX0_trade_15 : decode cX0_trade 15 = .ok (.iload_n 2, 1) := by decide +kernel
theorem dX0_trade_16 : decode cX0_trade 16 = .ok (.iload_n 3, 1) := by decide +kernel
theorem dX0_trade_17 : decode cX0_trade 17 = .ok (.imul, 1) := by decide +kernel
theorem dX0_trade_18 : decode cX0_trade 18 = .ok (.iadd, 1) := by decide +kernel
theorem dX0_trade_19 : decode cX0_trade 19 = .ok (.putfield 68, 3) := by decide +kernel
theorem dX0_trade_22 : decode cX0_trade 22 = .ok (.aload_n 0, 1) := by decide +kernel
theorem dX0_trade_23 : decode cX0_trade 23 = .ok (.dup, 1) := by decide +kernel
theorem dX0_trade_24 : decode cX0_trade 24 = .ok (.getfield 71, 3) := by decide +kernel
theorem dX0_trade_27 : decode cX0_trade 27 = .ok (.iload_n 2, 1) := by decide +kernel
theorem dX0_trade_28 : decode cX0_trade 28 = .ok (.iload_n 3, 1) := by decide +kernel
theorem dX0_trade_29 : decode cX0_trade 29 = .ok (.imul, 1) := by decide +kernel
theorem dX0_trade_30 : decode cX0_trade 30 = .ok (.iadd, 1) := by decide +kernel
theorem dX0_trade_31 : decode cX0_trade 31 = .ok (.putfield 71, 3) := by decide +kernel
theorem dX0_trade_34 : decode cX0_trade 34 = .ok (.return_, 1) := by decide +kernel
theorem dX0_countVarietiesFrom_0 : decode cX0_countVarietiesFrom 0 = .ok (.iconst 0, 1) := by decide +kernel
theorem dX0_countVarietiesFrom_1 : decode cX0_countVarietiesFrom 1 = .ok (.istore_n 2, 1) := by decide +kernel
theorem dX0_countVarietiesFrom_2 : decode cX0_countVarietiesFrom 2 = .ok (.iconst 0, 1) := by decide +kernel
theorem dX0_countVarietiesFrom_3 : decode cX0_countVarietiesFrom 3 = .ok (.istore_n 3, 1) := by decide +kernel
theorem dX0_countVarietiesFrom_4 : decode cX0_countVarietiesFrom 4 = .ok (.iload_n 3, 1) := by decide +kernel
theorem dX0_countVarietiesFrom_5 : decode cX0_countVarietiesFrom 5 = .ok (.aload_n 0, 1) := by decide +kernel
theorem dX0_countVarietiesFrom_6 : decode cX0_countVarietiesFrom 6 = .ok (.getfield 12, 3) := by decide +kernel
theorem dX0_countVarietiesFrom_9 : decode cX0_countVarietiesFrom 9 = .ok (.getfield 43, 3) := by decide +kernel
theorem dX0_countVarietiesFrom_12 : decode cX0_countVarietiesFrom 12 = .ok (.if_icmp .ge 24, 3) := by decide +kernel
theorem dX0_countVarietiesFrom_15 : decode cX0_countVarietiesFrom 15 = .ok (.aload_n 0, 1) := by decide +kernel
theorem dX0_countVarietiesFrom_16 : decode cX0_countVarietiesFrom 16 = .ok (.getfield 28, 3) := by decide +kernel
theorem dX0_countVarietiesFrom_19 : decode cX0_countVarietiesFrom 19 = .ok (.iload_n 3, 1) := by decide +kernel
theorem dX0_countVarietiesFrom_20 : decode cX0_countVarietiesFrom 20 = .ok (.iload_n 1, 1) := by decide +kernel
theorem dX0_countVarietiesFrom_21 : decode cX0_countVarietiesFrom 21 = .ok (.invokevirtual 204, 3) := by decide +kernel
theorem dX0_countVarietiesFrom_24 : decode cX0_countVarietiesFrom 24 = .ok (.ifCond .eq 6, 3) := by decide +kernel
theorem dX0_countVarietiesFrom_27 : decode cX0_countVarietiesFrom 27 = .ok (.iinc 2 1, 3) := by decide +kernel
theorem dX0_countVarietiesFrom_30 : decode cX0_countVarietiesFrom 30 = .ok (.iinc 3 1, 3) := by decide +kernel
theorem dX0_countVarietiesFrom_33 : decode cX0_countVarietiesFrom 33 = .ok (.goto (-29), 3) := by decide +kernel
theorem dX0_countVarietiesFrom_36 : decode cX0_countVarietiesFrom 36 = .ok (.iload_n 2, 1) := by decide +kernel
theorem dX0_countVarietiesFrom_37 : decode cX0_countVarietiesFrom 37 = .ok (.ireturn, 1) := by decide +kernel
theorem dX0_heaviestGrower_0 : decode cX0_heaviestGrower 0 = .ok (.iconst (-1), 1) := by decide +kernel
theorem dX0_heaviestGrower_1 : decode cX0_heaviestGrower 1 = .ok (.istore_n 1, 1) := by decide +kernel
theorem dX0_heaviestGrower_2 : decode cX0_heaviestGrower 2 = .ok (.iconst (-1), 1) := by decide +kernel
theorem dX0_heaviestGrower_3 : decode cX0_heaviestGrower 3 = .ok (.istore_n 2, 1) := by decide +kernel
theorem dX0_heaviestGrower_4 : decode cX0_heaviestGrower 4 = .ok (.iconst 0, 1) := by decide +kernel
theorem dX0_heaviestGrower_5 : decode cX0_heaviestGrower 5 = .ok (.istore_n 3, 1) := by decide +kernel
theorem dX0_heaviestGrower_6 : decode cX0_heaviestGrower 6 = .ok (.iload_n 3, 1) := by decide +kernel
theorem dX0_heaviestGrower_7 : decode cX0_heaviestGrower 7 = .ok (.aload_n 0, 1) := by decide +kernel
theorem dX0_heaviestGrower_8 : decode cX0_heaviestGrower 8 = .ok (.getfield 21, 3) := by decide +kernel
theorem dX0_heaviestGrower_11 : decode cX0_heaviestGrower 11 = .ok (.getfield 46, 3) := by decide +kernel
theorem dX0_heaviestGrower_14 : decode cX0_heaviestGrower 14 = .ok (.if_icmp .ge 30, 3) := by decide +kernel
theorem dX0_heaviestGrower_17 : decode cX0_heaviestGrower 17 = .ok (.aload_n 0, 1) := by decide +kernel
theorem dX0_heaviestGrower_18 : decode cX0_heaviestGrower 18 = .ok (.getfield 28, 3) := by decide +kernel
theorem dX0_heaviestGrower_21 : decode cX0_heaviestGrower 21 = .ok (.iload_n 3, 1) := by decide +kernel
theorem dX0_heaviestGrower_22 : decode cX0_heaviestGrower 22 = .ok (.invokevirtual 208, 3) := by decide +kernel
theorem dX0_heaviestGrower_25 : decode cX0_heaviestGrower 25 = .ok (.istore 4, 2) := by decide +kernel
theorem dX0_heaviestGrower_27 : decode cX0_heaviestGrower 27 = .ok (.iload 4, 2) := by decide +kernel
theorem dX0_heaviestGrower_29 : decode cX0_heaviestGrower 29 = .ok (.iload_n 2, 1) := by decide +kernel
theorem dX0_heaviestGrower_30 : decode cX0_heaviestGrower 30 = .ok (.if_icmp .le 8, 3) := by decide +kernel
theorem dX0_heaviestGrower_33 : decode cX0_heaviestGrower 33 = .ok (.iload 4, 2) := by decide +kernel
theorem dX0_heaviestGrower_35 : decode cX0_heaviestGrower 35 = .ok (.istore_n 2, 1) := by decide +kernel
theorem dX0_heaviestGrower_36 : decode cX0_heaviestGrower 36 = .ok (.iload_n 3, 1) := by decide +kernel
theorem dX0_heaviestGrower_37 : decode cX0_heaviestGrower 37 = .ok (.istore_n 1, 1) := by decide +kernel
theorem dX0_heaviestGrower_38 : decode cX0_heaviestGrower 38 = .ok (.iinc 3 1, 3) := by decide +kernel
theorem dX0_heaviestGrower_41 : decode cX0_heaviestGrower 41 = .ok (.goto (-35), 3) := by decide +kernel
theorem dX0_heaviestGrower_44 : decode cX0_heaviestGrower 44 = .ok (.iload_n 1, 1) := by decide +kernel
theorem dX0_heaviestGrower_45 : decode cX0_heaviestGrower 45 = .ok (.ireturn, 1) := by decide +kernel
theorem dX1_init_0 : decode cX1_init 0 = .ok (.aload_n 0, 1) := by decide +kernel
theorem dX1_init_1 : decode cX1_init 1 = .ok (.invokespecial 3, 3) := by decide +kernel
theorem dX1_init_4 : decode cX1_init 4 = .ok (.aload_n 0, 1) := by decide +kernel
theorem dX1_init_5 : decode cX1_init 5 = .ok (.iconst 4, 1) := by decide +kernel
theorem dX1_init_6 : decode cX1_init 6 = .ok (.newarray .int, 2) := by decide +kernel
theorem dX1_init_8 : decode cX1_init 8 = .ok (.putfield 9, 3) := by decide +kernel
theorem dX1_init_11 : decode cX1_init 11 = .ok (.aload_n 0, 1) := by decide +kernel
theorem dX1_init_12 : decode cX1_init 12 = .ok (.iconst 4, 1) := by decide +kernel
theorem dX1_init_13 : decode cX1_init 13 = .ok (.newarray .int, 2) := by decide +kernel
theorem dX1_init_15 : decode cX1_init 15 = .ok (.putfield 15, 3) := by decide +kernel
theorem dX1_init_18 : decode cX1_init 18 = .ok (.aload_n 0, 1) := by decide +kernel
theorem dX1_init_19 : decode cX1_init 19 = .ok (.bipush 16, 2) := by decide +kernel
theorem dX1_init_21 : decode cX1_init 21 = .ok (.newarray .int, 2) := by decide +kernel
theorem dX1_init_23 : decode cX1_init 23 = .ok (.putfield 18, 3) := by decide +kernel
theorem dX1_init_26 : decode cX1_init 26 = .ok (.return_, 1) := by decide +kernel
theorem dX1_copyFrom_0 : decode cX1_copyFrom 0 = .ok (.aload_n 1, 1) := by decide +kernel
theorem dX1_copyFrom_1 : decode cX1_copyFrom 1 = .ok (.getfield 9, 3) := by decide +kernel
theorem dX1_copyFrom_4 : decode cX1_copyFrom 4 = .ok (.iconst 0, 1) := by decide +kernel
theorem dX1_copyFrom_5 : decode cX1_copyFrom 5 = .ok (.aload_n 0, 1) := by decide +kernel
theorem dX1_copyFrom_6 : decode cX1_copyFrom 6 = .ok (.getfield 9, 3) := by decide +kernel
theorem dX1_copyFrom_9 : decode cX1_copyFrom 9 = .ok (.iconst 0, 1) := by decide +kernel
theorem dX1_copyFrom_10 : decode cX1_copyFrom 10 = .ok (.iconst 4, 1) := by decide +kernel
theorem dX1_copyFrom_11 : decode cX1_copyFrom 11 = .ok (.invokestatic 21, 3) := by decide +kernel
theorem dX1_copyFrom_14 : decode cX1_copyFrom 14 = .ok (.aload_n 1, 1) := by decide +kernel
theorem dX1_copyFrom_15 : decode cX1_copyFrom 15 = .ok (.getfield 15, 3) := by decide +kernel
theorem dX1_copyFrom_18 : decode cX1_copyFrom 18 = .ok (.iconst 0, 1) := by decide +kernel
theorem dX1_copyFrom_19 : decode cX1_copyFrom 19 = .ok (.aload_n 0, 1) := by decide +kernel
theorem dX1_copyFrom_20 : decode cX1_copyFrom 20 = .ok (.getfield 15, 3) := by decide +kernel
theorem dX1_copyFrom_23 : decode cX1_copyFrom 23 = .ok (.iconst 0, 1) := by decide +kernel
theorem dX1_copyFrom_24 : decode cX1_copyFrom 24 = .ok (.iconst 4, 1) := by decide +kernel
theorem dX1_copyFrom_25 : decode cX1_copyFrom 25 = .ok (.invokestatic 21, 3) := by decide +kernel
theorem dX1_copyFrom_28 : decode cX1_copyFrom 28 = .ok (.aload_n 1, 1) := by decide +kernel
theorem dX1_copyFrom_29 : decode cX1_copyFrom 29 = .ok (.getfield 18, 3) := by decide +kernel
theorem dX1_copyFrom_32 : decode cX1_copyFrom 32 = .ok (.iconst 0, 1) := by decide +kernel
theorem dX1_copyFrom_33 : decode cX1_copyFrom 33 = .ok (.aload_n 0, 1) := by decide +kernel
theorem dX1_copyFrom_34 : decode cX1_copyFrom 34 = .ok (.getfield 18, 3) := by decide +kernel
theorem dX1_copyFrom_37 : decode cX1_copyFrom 37 = .ok (.iconst 0, 1) := by decide +kernel
theorem dX1_copyFrom_38 : decode cX1_copyFrom 38 = .ok (.bipush 16, 2) := by decide +kernel
theorem dX1_copyFrom_40 : decode cX1_copyFrom 40 = .ok (.invokestatic 21, 3) := by decide +kernel
theorem dX1_copyFrom_43 : decode cX1_copyFrom 43 = .ok (.aload_n 0, 1) := by decide +kernel
theorem dX1_copyFrom_44 : decode cX1_copyFrom 44 = .ok (.aload_n 1, 1) := by decide +kernel
theorem dX1_copyFrom_45 : decode cX1_copyFrom 45 = .ok (.getfield 27, 3) := by decide +kernel
theorem dX1_copyFrom_48 : decode cX1_copyFrom 48 = .ok (.putfield 27, 3) := by decide +kernel
theorem dX1_copyFrom_51 : decode cX1_copyFrom 51 = .ok (.aload_n 0, 1) := by decide +kernel
theorem dX1_copyFrom_52 : decode cX1_copyFrom 52 = .ok (.aload_n 1, 1) := by decide +kernel
theorem dX1_copyFrom_53 : decode cX1_copyFrom 53 = .ok (.getfield 31, 3) := by decide +kernel
theorem dX1_copyFrom_56 : decode cX1_copyFrom 56 = .ok (.putfield 31, 3) := by decide +kernel
theorem dX1_copyFrom_59 : decode cX1_copyFrom 59 = .ok (.return_, 1) := by decide +kernel
theorem dX1_hasVariety_0 : decode cX1_hasVariety 0 = .ok (.iload_n 1, 1) := by decide +kernel
theorem dX1_hasVariety_1 : decode cX1_hasVariety 1 = .ok (.ifCond .lt 15, 3) := by decide +kernel
theorem dX1_hasVariety_4 : decode cX1_hasVariety 4 = .ok (.iload_n 1, 1) := by decide +kernel
theorem dX1_hasVariety_5 : decode cX1_hasVariety 5 = .ok (.aload_n 0, 1) := by decide +kernel
theorem dX1_hasVariety_6 : decode cX1_hasVariety 6 = .ok (.getfield 31, 3) := by decide +kernel
theorem dX1_hasVariety_9 : decode cX1_hasVariety 9 = .ok (.if_icmp .ge 7, 3) := by decide +kernel
theorem dX1_hasVariety_12 : decode cX1_hasVariety 12 = .ok (.iconst 1, 1) := by decide +kernel
theorem dX1_hasVariety_13 : decode cX1_hasVariety 13 = .ok (.goto 4, 3) := by decide +kernel
theorem dX1_hasVariety_16 : decode cX1_hasVariety 16 = .ok (.iconst 0, 1) := by decide +kernel
theorem dX1_hasVariety_17 : decode cX1_hasVariety 17 = .ok (.ireturn, 1) := by decide +kernel
theorem dX1_hasGrade_0 : decode cX1_hasGrade 0 = .ok (.iload_n 1, 1) := by decide +kernel
theorem dX1_hasGrade_1 : decode cX1_hasGrade 1 = .ok (.ifCond .lt 15, 3) := by decide +kernel
theorem dX1_hasGrade_4 : decode cX1_hasGrade 4 = .ok (.iload_n 1, 1) := by decide +kernel
theorem dX1_hasGrade_5 : decode cX1_hasGrade 5 = .ok (.aload_n 0, 1) := by decide +kernel
theorem dX1_hasGrade_6 : decode cX1_hasGrade 6 = .ok (.getfield 27, 3) := by decide +kernel
theorem dX1_hasGrade_9 : decode cX1_hasGrade 9 = .ok (.if_icmp .ge 7, 3) := by decide +kernel
theorem dX1_hasGrade_12 : decode cX1_hasGrade 12 = .ok (.iconst 1, 1) := by decide +kernel
theorem dX1_hasGrade_13 : decode cX1_hasGrade 13 = .ok (.goto 4, 3) := by decide +kernel
theorem dX1_hasGrade_16 : decode cX1_hasGrade 16 = .ok (.iconst 0, 1) := by decide +kernel
theorem dX1_hasGrade_17 : decode cX1_hasGrade 17 = .ok (.ireturn, 1) := by decide +kernel
theorem dX1_isLessThanLast_0 : decode cX1_isLessThanLast 0 = .ok (.aload_n 0, 1) := by decide +kernel
theorem dX1_isLessThanLast_1 : decode cX1_isLessThanLast 1 = .ok (.getfield 27, 3) := by decide +kernel
theorem dX1_isLessThanLast_4 : decode cX1_isLessThanLast 4 = .ok (.iconst 1, 1) := by decide +kernel
theorem dX1_isLessThanLast_5 : decode cX1_isLessThanLast 5 = .ok (.isub, 1) := by decide +kernel
theorem dX1_isLessThanLast_6 : decode cX1_isLessThanLast 6 = .ok (.istore_n 2, 1) := by decide +kernel
theorem dX1_isLessThanLast_7 : decode cX1_isLessThanLast 7 = .ok (.aload_n 0, 1) := by decide +kernel
theorem dX1_isLessThanLast_8 : decode cX1_isLessThanLast 8 = .ok (.iload_n 2, 1) := by decide +kernel
theorem dX1_isLessThanLast_9 : decode cX1_isLessThanLast 9 = .ok (.invokevirtual 34, 3) := by decide +kernel
theorem dX1_isLessThanLast_12 : decode cX1_isLessThanLast 12 = .ok (.ifCond .eq 13, 3) := by decide +kernel
theorem dX1_isLessThanLast_15 : decode cX1_isLessThanLast 15 = .ok (.iload_n 1, 1) := by decide +kernel
theorem dX1_isLessThanLast_16 : decode cX1_isLessThanLast 16 = .ok (.aload_n 0, 1) := by decide +kernel
theorem dX1_isLessThanLast_17 : decode cX1_isLessThanLast 17 = .ok (.getfield 9, 3) := by decide +kernel
theorem dX1_isLessThanLast_20 : decode cX1_isLessThanLast 20 = .ok (.iload_n 2, 1) := by decide +kernel
theorem dX1_isLessThanLast_21 : decode cX1_isLessThanLast 21 = .ok (.iaload, 1) := by decide +kernel
theorem dX1_isLessThanLast_22 : decode cX1_isLessThanLast 22 = .ok (.if_icmp .ge 7, 3) := by decide +kernel
theorem dX1_isLessThanLast_25 : decode cX1_isLessThanLast 25 = .ok (.iconst 1, 1) := by decide +kernel
theorem dX1_isLessThanLast_26 : decode cX1_isLessThanLast 26 = .ok (.goto 4, 3) := by decide +kernel
theorem dX1_isLessThanLast_29 : decode cX1_isLessThanLast 29 = .ok (.iconst 0, 1) := by decide +kernel
theorem dX1_isLessThanLast_30 : decode cX1_isLessThanLast 30 = .ok (.ireturn, 1) := by decide +kernel
theorem dX1_addClass_0 : decode cX1_addClass 0 = .ok (.aload_n 0, 1) := by decide +kernel
theorem dX1_addClass_1 : decode cX1_addClass 1 = .ok (.getfield 27, 3) := by decide +kernel
theorem dX1_addClass_4 : decode cX1_addClass 4 = .ok (.iconst 4, 1) := by decide +kernel
theorem dX1_addClass_5 : decode cX1_addClass 5 = .ok (.if_icmp .ge 23, 3) := by decide +kernel
theorem dX1_addClass_8 : decode cX1_addClass 8 = .ok (.aload_n 0, 1) := by decide +kernel
theorem dX1_addClass_9 : decode cX1_addClass 9 = .ok (.getfield 9, 3) := by decide +kernel
theorem dX1_addClass_12 : decode cX1_addClass 12 = .ok (.aload_n 0, 1) := by decide +kernel
theorem dX1_addClass_13 : decode cX1_addClass 13 = .ok (.getfield 27, 3) := by decide +kernel
theorem dX1_addClass_16 : decode cX1_addClass 16 = .ok (.iload_n 1, 1) := by decide +kernel
theorem dX1_addClass_17 : decode cX1_addClass 17 = .ok (.iastore, 1) := by decide +kernel
theorem dX1_addClass_18 : decode cX1_addClass 18 = .ok (.aload_n 0, 1) := by decide +kernel
theorem dX1_addClass_19 : decode cX1_addClass 19 = .ok (.dup, 1) := by decide +kernel
theorem dX1_addClass_20 : decode cX1_addClass 20 = .ok (.getfield 27, 3) := by decide +kernel
theorem dX1_addClass_23 : decode cX1_addClass 23 = .ok (.iconst 1, 1) := by decide +kernel
theorem dX1_addClass_24 : decode cX1_addClass 24 = .ok (.iadd, 1) := by decide +kernel
theorem dX1_addClass_25 : decode cX1_addClass 25 = .ok (.putfield 27, 3) := by decide +kernel
theorem dX1_addClass_28 : decode cX1_addClass 28 = .ok (.return_, 1) := by decide +kernel
theorem dX1_addVariety_0 : decode cX1_addVariety 0 = .ok (.aload_n 0, 1) := by decide +kernel
theorem dX1_addVariety_1 : decode cX1_addVariety 1 = .ok (.getfield 31, 3) := by decide +kernel
theorem dX1_addVariety_4 : decode cX1_addVariety 4 = .ok (.iconst 4, 1) := by decide +kernel
theorem dX1_addVariety_5 : decode cX1_addVariety 5 = .ok (.if_icmp .ge 48, 3) := by decide +kernel
theorem dX1_addVariety_8 : decode cX1_addVariety 8 = .ok (.aload_n 0, 1) := by decide +kernel
theorem dX1_addVariety_9 : decode cX1_addVariety 9 = .ok (.getfield 31, 3) := by decide +kernel
theorem dX1_addVariety_12 : decode cX1_addVariety 12 = .ok (.istore_n 2, 1) := by decide +kernel
theorem dX1_addVariety_13 : decode cX1_addVariety 13 = .ok (.aload_n 0, 1) := by decide +kernel
theorem dX1_addVariety_14 : decode cX1_addVariety 14 = .ok (.getfield 15, 3) := by decide +kernel
theorem dX1_addVariety_17 : decode cX1_addVariety 17 = .ok (.iload_n 2, 1) := by decide +kernel
theorem dX1_addVariety_18 : decode cX1_addVariety 18 = .ok (.iload_n 1, 1) := by decide +kernel
theorem dX1_addVariety_19 : decode cX1_addVariety 19 = .ok (.iastore, 1) := by decide +kernel
theorem dX1_addVariety_20 : decode cX1_addVariety 20 = .ok (.aload_n 0, 1) := by decide +kernel
theorem dX1_addVariety_21 : decode cX1_addVariety 21 = .ok (.dup, 1) := by decide +kernel
theorem dX1_addVariety_22 : decode cX1_addVariety 22 = .ok (.getfield 31, 3) := by decide +kernel
theorem dX1_addVariety_25 : decode cX1_addVariety 25 = .ok (.iconst 1, 1) := by decide +kernel
theorem dX1_addVariety_26 : decode cX1_addVariety 26 = .ok (.iadd, 1) := by decide +kernel
theorem dX1_addVariety_27 : decode cX1_addVariety 27 = .ok (.putfield 31, 3) := by decide +kernel
theorem dX1_addVariety_30 : decode cX1_addVariety 30 = .ok (.iconst 0, 1) := by decide +kernel
theorem dX1_addVariety_31 : decode cX1_addVariety 31 = .ok (.istore_n 3, 1) := by decide +kernel
theorem dX1_addVariety_32 : decode cX1_addVariety 32 = .ok (.iload_n 3, 1) := by decide +kernel
theorem dX1_addVariety_33 : decode cX1_addVariety 33 = .ok (.aload_n 0, 1) := by decide +kernel
theorem dX1_addVariety_34 : decode cX1_addVariety 34 = .ok (.getfield 27, 3) := by decide +kernel
theorem dX1_addVariety_37 : decode cX1_addVariety 37 = .ok (.if_icmp .ge 16, 3) := by decide +kernel
theorem dX1_addVariety_40 : decode cX1_addVariety 40 = .ok (.aload_n 0, 1) := by decide +kernel
theorem dX1_addVariety_41 : decode cX1_addVariety 41 = .ok (.iload_n 2, 1) := by decide +kernel
theorem dX1_addVariety_42 : decode cX1_addVariety 42 = .ok (.iload_n 3, 1) := by decide +kernel
theorem dX1_addVariety_43 : decode cX1_addVariety 43 = .ok (.iconst 0, 1) := by decide +kernel
theorem dX1_addVariety_44 : decode cX1_addVariety 44 = .ok (.invokevirtual 38, 3) := by decide +kernel
theorem dX1_addVariety_47 : decode cX1_addVariety 47 = .ok (.iinc 3 1, 3) := by decide +kernel
theorem dX1_addVariety_50 : decode cX1_addVariety 50 = .ok (.goto (-18), 3) := by decide +kernel
theorem dX1_addVariety_53 : decode cX1_addVariety 53 = .ok (.return_, 1) := by decide +kernel
theorem dX1_varietyNamed_0 : decode cX1_varietyNamed 0 = .ok (.iconst 0, 1) := by decide +kernel
theorem dX1_varietyNamed_1 : decode cX1_varietyNamed 1 = .ok (.istore_n 2, 1) := by decide +kernel
theorem dX1_varietyNamed_2 : decode cX1_varietyNamed 2 = .ok (.iload_n 2, 1) := by decide +kernel
theorem dX1_varietyNamed_3 : decode cX1_varietyNamed 3 = .ok (.aload_n 0, 1) := by decide +kernel
theorem dX1_varietyNamed_4 : decode cX1_varietyNamed 4 = .ok (.getfield 31, 3) := by decide +kernel
theorem dX1_varietyNamed_7 : decode cX1_varietyNamed 7 = .ok (.if_icmp .ge 21, 3) := by decide +kernel
theorem dX1_varietyNamed_10 : decode cX1_varietyNamed 10 = .ok (.aload_n 0, 1) := by decide +kernel
theorem dX1_varietyNamed_11 : decode cX1_varietyNamed 11 = .ok (.getfield 15, 3) := by decide +kernel
theorem dX1_varietyNamed_14 : decode cX1_varietyNamed 14 = .ok (.iload_n 2, 1) := by decide +kernel
theorem dX1_varietyNamed_15 : decode cX1_varietyNamed 15 = .ok (.iaload, 1) := by decide +kernel
theorem dX1_varietyNamed_16 : decode cX1_varietyNamed 16 = .ok (.iload_n 1, 1) := by decide +kernel
theorem dX1_varietyNamed_17 : decode cX1_varietyNamed 17 = .ok (.if_icmp .ne 5, 3) := by decide +kernel
theorem dX1_varietyNamed_20 : decode cX1_varietyNamed 20 = .ok (.iload_n 2, 1) := by decide +kernel
theorem dX1_varietyNamed_21 : decode cX1_varietyNamed 21 = .ok (.ireturn, 1) := by decide +kernel
theorem dX1_varietyNamed_22 : decode cX1_varietyNamed 22 = .ok (.iinc 2 1, 3) := by decide +kernel
theorem dX1_varietyNamed_25 : decode cX1_varietyNamed 25 = .ok (.goto (-23), 3) := by decide +kernel
theorem dX1_varietyNamed_28 : decode cX1_varietyNamed 28 = .ok (.iconst (-1), 1) := by decide +kernel
theorem dX1_varietyNamed_29 : decode cX1_varietyNamed 29 = .ok (.ireturn, 1) := by decide +kernel
theorem dX1_gradeOfSugar_0 : decode cX1_gradeOfSugar 0 = .ok (.iconst 0, 1) := by decide +kernel
theorem dX1_gradeOfSugar_1 : decode cX1_gradeOfSugar 1 = .ok (.istore_n 2, 1) := by decide +kernel
theorem dX1_gradeOfSugar_2 : decode cX1_gradeOfSugar 2 = .ok (.iload_n 2, 1) := by decide +kernel
theorem dX1_gradeOfSugar_3 : decode cX1_gradeOfSugar 3 = .ok (.aload_n 0, 1) := by decide +kernel
theorem dX1_gradeOfSugar_4 : decode cX1_gradeOfSugar 4 = .ok (.getfield 27, 3) := by decide +kernel
theorem dX1_gradeOfSugar_7 : decode cX1_gradeOfSugar 7 = .ok (.if_icmp .ge 21, 3) := by decide +kernel
theorem dX1_gradeOfSugar_10 : decode cX1_gradeOfSugar 10 = .ok (.aload_n 0, 1) := by decide +kernel
theorem dX1_gradeOfSugar_11 : decode cX1_gradeOfSugar 11 = .ok (.getfield 9, 3) := by decide +kernel
theorem dX1_gradeOfSugar_14 : decode cX1_gradeOfSugar 14 = .ok (.iload_n 2, 1) := by decide +kernel
theorem dX1_gradeOfSugar_15 : decode cX1_gradeOfSugar 15 = .ok (.iaload, 1) := by decide +kernel
theorem dX1_gradeOfSugar_16 : decode cX1_gradeOfSugar 16 = .ok (.iload_n 1, 1) := by decide +kernel
theorem dX1_gradeOfSugar_17 : decode cX1_gradeOfSugar 17 = .ok (.if_icmp .gt 5, 3) := by decide +kernel
theorem dX1_gradeOfSugar_20 : decode cX1_gradeOfSugar 20 = .ok (.iload_n 2, 1) := by decide +kernel
theorem dX1_gradeOfSugar_21 : decode cX1_gradeOfSugar 21 = .ok (.ireturn, 1) := by decide +kernel
theorem dX1_gradeOfSugar_22 : decode cX1_gradeOfSugar 22 = .ok (.iinc 2 1, 3) := by decide +kernel
theorem dX1_gradeOfSugar_25 : decode cX1_gradeOfSugar 25 = .ok (.goto (-23), 3) := by decide +kernel
theorem dX1_gradeOfSugar_28 : decode cX1_gradeOfSugar 28 = .ok (.iconst (-1), 1) := by decide +kernel
theorem dX1_gradeOfSugar_29 : decode cX1_gradeOfSugar 29 = .ok (.ireturn, 1) := by decide +kernel
theorem dX1_centsFor_0 : decode cX1_centsFor 0 = .ok (.iload_n 1, 1) := by decide +kernel
theorem dX1_centsFor_1 : decode cX1_centsFor 1 = .ok (.ifCond .lt 23, 3) := by decide +kernel
theorem dX1_centsFor_4 : decode cX1_centsFor 4 = .ok (.iload_n 1, 1) := by decide +kernel
theorem dX1_centsFor_5 : decode cX1_centsFor 5 = .ok (.aload_n 0, 1) := by decide +kernel
theorem dX1_centsFor_6 : decode cX1_centsFor 6 = .ok (.getfield 31, 3) := by decide +kernel
theorem dX1_centsFor_9 : decode cX1_centsFor 9 = .ok (.if_icmp .ge 15, 3) := by decide +kernel
theorem dX1_centsFor_12 : decode cX1_centsFor 12 = .ok (.iload_n 2, 1) := by decide +kernel
theorem dX1_centsFor_13 : decode cX1_centsFor 13 = .ok (.ifCond .lt 11, 3) := by decide +kernel
theorem dX1_centsFor_16 : decode cX1_centsFor 16 = .ok (.iload_n 2, 1) := by decide +kernel
theorem dX1_centsFor_17 : decode cX1_centsFor 17 = .ok (.aload_n 0, 1) := by decide +kernel
theorem dX1_centsFor_18 : decode cX1_centsFor 18 = .ok (.getfield 27, 3) := by decide +kernel
theorem dX1_centsFor_21 : decode cX1_centsFor 21 = .ok (.if_icmp .lt 5, 3) := by decide +kernel
theorem dX1_centsFor_24 : decode cX1_centsFor 24 = .ok (.iconst 0, 1) := by decide +kernel
theorem dX1_centsFor_25 : decode cX1_centsFor 25 = .ok (.ireturn, 1) := by decide +kernel
theorem dX1_centsFor_26 : decode cX1_centsFor 26 = .ok (.aload_n 0, 1) := by decide +kernel
theorem dX1_centsFor_27 : decode cX1_centsFor 27 = .ok (.getfield 18, 3) := by decide +kernel
theorem dX1_centsFor_30 : decode cX1_centsFor 30 = .ok (.iload_n 1, 1) := by decide +kernel
theorem dX1_centsFor_31 : decode cX1_centsFor 31 = .ok (.iconst 4, 1) := by decide +kernel
theorem dX1_centsFor_32 : decode cX1_centsFor 32 = .ok (.imul, 1) := by decide +kernel
theorem dX1_centsFor_33 : decode cX1_centsFor 33 = .ok (.iload_n 2, 1) := by decide +kernel
theorem dX1_centsFor_34 : decode cX1_centsFor 34 = .ok (.iadd, 1) := by decide +kernel
theorem dX1_centsFor_35 : decode cX1_centsFor 35 = .ok (.iaload, 1) := by decide +kernel
theorem dX1_centsFor_36 : decode cX1_centsFor 36 = .ok (.ireturn, 1) := by decide +kernel
theorem dX1_putPrice_0 : decode cX1_putPrice 0 = .ok (.aload_n 0, 1) := by decide +kernel
theorem dX1_putPrice_1 : decode cX1_putPrice 1 = .ok (.iload_n 1, 1) := by decide +kernel
theorem dX1_putPrice_2 : decode cX1_putPrice 2 = .ok (.invokevirtual 42, 3) := by decide +kernel
theorem dX1_putPrice_5 : decode cX1_putPrice 5 = .ok (.ifCond .eq 22, 3) := by decide +kernel
theorem dX1_putPrice_8 : decode cX1_putPrice 8 = .ok (.aload_n 0, 1) := by decide +kernel
theorem dX1_putPrice_9 : decode cX1_putPrice 9 = .ok (.iload_n 2, 1) := by decide +kernel
theorem dX1_putPrice_10 : decode cX1_putPrice 10 = .ok (.invokevirtual 34, 3) := by decide +kernel
theorem dX1_putPrice_13 : decode cX1_putPrice 13 = .ok (.ifCond .eq 14, 3) := by decide +kernel
theorem dX1_putPrice_16 : decode cX1_putPrice 16 = .ok (.aload_n 0, 1) := by decide +kernel
theorem dX1_putPrice_17 : decode cX1_putPrice 17 = .ok (.getfield 18, 3) := by decide +kernel
theorem dX1_putPrice_20 : decode cX1_putPrice 20 = .ok (.iload_n 1, 1) := by decide +kernel
theorem dX1_putPrice_21 : decode cX1_putPrice 21 = .ok (.iconst 4, 1) := by decide +kernel
theorem dX1_putPrice_22 : decode cX1_putPrice 22 = .ok (.imul, 1) := by decide +kernel
theorem dX1_putPrice_23 : decode cX1_putPrice 23 = .ok (.iload_n 2, 1) := by decide +kernel
theorem dX1_putPrice_24 : decode cX1_putPrice 24 = .ok (.iadd, 1) := by decide +kernel
theorem dX1_putPrice_25 : decode cX1_putPrice 25 = .ok (.iload_n 3, 1) := by decide +kernel
theorem dX1_putPrice_26 : decode cX1_putPrice 26 = .ok (.iastore, 1) := by decide +kernel
theorem dX1_putPrice_27 : decode cX1_putPrice 27 = .ok (.return_, 1) := by decide +kernel
theorem dX2_init_0 : decode cX2_init 0 = .ok (.aload_n 0, 1) := by decide +kernel
theorem dX2_init_1 : decode cX2_init 1 = .ok (.invokespecial 3, 3) := by decide +kernel
theorem dX2_init_4 : decode cX2_init 4 = .ok (.aload_n 0, 1) := by decide +kernel
theorem dX2_init_5 : decode cX2_init 5 = .ok (.iconst 5, 1) := by decide +kernel
theorem dX2_init_6 : decode cX2_init 6 = .ok (.anewarray 9, 3) := by decide +kernel
theorem dX2_init_9 : decode cX2_init 9 = .ok (.putfield 11, 3) := by decide +kernel
theorem dX2_init_12 : decode cX2_init 12 = .ok (.aload_n 0, 1) := by decide +kernel
theorem dX2_init_13 : decode cX2_init 13 = .ok (.bipush 12, 2) := by decide +kernel
theorem dX2_init_15 : decode cX2_init 15 = .ok (.anewarray 17, 3) := by decide +kernel
theorem dX2_init_18 : decode cX2_init 18 = .ok (.putfield 19, 3) := by decide +kernel
theorem dX2_init_21 : decode cX2_init 21 = .ok (.iconst 0, 1) := by decide +kernel
theorem dX2_init_22 : decode cX2_init 22 = .ok (.istore_n 1, 1) := by decide +kernel
theorem dX2_init_23 : decode cX2_init 23 = .ok (.iload_n 1, 1) := by decide +kernel
theorem dX2_init_24 : decode cX2_init 24 = .ok (.iconst 5, 1) := by decide +kernel
theorem dX2_init_25 : decode cX2_init 25 = .ok (.if_icmp .ge 22, 3) := by decide +kernel
theorem dX2_init_28 : decode cX2_init 28 = .ok (.aload_n 0, 1) := by decide +kernel
theorem dX2_init_29 : decode cX2_init 29 = .ok (.getfield 11, 3) := by decide +kernel
theorem dX2_init_32 : decode cX2_init 32 = .ok (.iload_n 1, 1) := by decide +kernel
theorem dX2_init_33 : decode cX2_init 33 = .ok (.new 9, 3) := by decide +kernel
theorem dX2_init_36 : decode cX2_init 36 = .ok (.dup, 1) := by decide +kernel
theorem dX2_init_37 : decode cX2_init 37 = .ok (.invokespecial 23, 3) := by decide +kernel
theorem dX2_init_40 : decode cX2_init 40 = .ok (.aastore, 1) := by decide +kernel
theorem dX2_init_41 : decode cX2_init 41 = .ok (.iinc 1 1, 3) := by decide +kernel
theorem dX2_init_44 : decode cX2_init 44 = .ok (.goto (-21), 3) := by decide +kernel
theorem dX2_init_47 : decode cX2_init 47 = .ok (.iconst 0, 1) := by decide +kernel
theorem dX2_init_48 : decode cX2_init 48 = .ok (.istore_n 1, 1) := by decide +kernel
theorem dX2_init_49 : decode cX2_init 49 = .ok (.iload_n 1, 1) := by decide +kernel
theorem dX2_init_50 : decode cX2_init 50 = .ok (.bipush 12, 2) := by decide +kernel
theorem dX2_init_52 : decode cX2_init 52 = .ok (.if_icmp .ge 22, 3) := by decide +kernel
theorem dX2_init_55 : decode cX2_init 55 = .ok (.aload_n 0, 1) := by decide +kernel
theorem dX2_init_56 : decode cX2_init 56 = .ok (.getfield 19, 3) := by decide +kernel
theorem dX2_init_59 : decode cX2_init 59 = .ok (.iload_n 1, 1) := by decide +kernel
theorem dX2_init_60 : decode cX2_init 60 = .ok (.new 17, 3) := by decide +kernel
theorem dX2_init_63 : decode cX2_init 63 = .ok (.dup, 1) := by decide +kernel
theorem dX2_init_64 : decode cX2_init 64 = .ok (.invokespecial 24, 3) := by decide +kernel
theorem dX2_init_67 : decode cX2_init 67 = .ok (.aastore, 1) := by decide +kernel
theorem dX2_init_68 : decode cX2_init 68 = .ok (.iinc 1 1, 3) := by decide +kernel
theorem dX2_init_71 : decode cX2_init 71 = .ok (.goto (-22), 3) := by decide +kernel
theorem dX2_init_74 : decode cX2_init 74 = .ok (.return_, 1) := by decide +kernel
theorem dX2_copyFrom_0 : decode cX2_copyFrom 0 = .ok (.iconst 0, 1) := by decide +kernel
theorem dX2_copyFrom_1 : decode cX2_copyFrom 1 = .ok (.istore_n 2, 1) := by decide +kernel
theorem dX2_copyFrom_2 : decode cX2_copyFrom 2 = .ok (.iload_n 2, 1) := by decide +kernel
theorem dX2_copyFrom_3 : decode cX2_copyFrom 3 = .ok (.iconst 5, 1) := by decide +kernel
theorem dX2_copyFrom_4 : decode cX2_copyFrom 4 = .ok (.if_icmp .ge 24, 3) := by decide +kernel
theorem dX2_copyFrom_7 : decode cX2_copyFrom 7 = .ok (.aload_n 0, 1) := by decide +kernel
theorem dX2_copyFrom_8 : decode cX2_copyFrom 8 = .ok (.getfield 11, 3) := by decide +kernel
theorem dX2_copyFrom_11 : decode cX2_copyFrom 11 = .ok (.iload_n 2, 1) := by decide +kernel
theorem dX2_copyFrom_12 : decode cX2_copyFrom 12 = .ok (.aaload, 1) := by decide +kernel
theorem dX2_copyFrom_13 : decode cX2_copyFrom 13 = .ok (.aload_n 1, 1) := by decide +kernel
theorem dX2_copyFrom_14 : decode cX2_copyFrom 14 = .ok (.getfield 11, 3) := by decide +kernel
theorem dX2_copyFrom_17 : decode cX2_copyFrom 17 = .ok (.iload_n 2, 1) := by decide +kernel
theorem dX2_copyFrom_18 : decode cX2_copyFrom 18 = .ok (.aaload, 1) := by decide +kernel
theorem dX2_copyFrom_19 : decode cX2_copyFrom 19 = .ok (.invokevirtual 25, 3) := by decide +kernel
theorem dX2_copyFrom_22 : decode cX2_copyFrom 22 = .ok (.iinc 2 1, 3) := by decide +kernel
theorem dX2_copyFrom_25 : decode cX2_copyFrom 25 = .ok (.goto (-23), 3) := by decide +kernel
theorem dX2_copyFrom_28 : decode cX2_copyFrom 28 = .ok (.iconst 0, 1) := by decide +kernel
theorem dX2_copyFrom_29 : decode cX2_copyFrom 29 = .ok (.istore_n 2, 1) := by decide +kernel
theorem dX2_copyFrom_30 : decode cX2_copyFrom 30 = .ok (.iload_n 2, 1) := by decide +kernel
theorem dX2_copyFrom_31 : decode cX2_copyFrom 31 = .ok (.bipush 12, 2) := by decide +kernel
theorem dX2_copyFrom_33 : decode cX2_copyFrom 33 = .ok (.if_icmp .ge 24, 3) := by decide +kernel
theorem dX2_copyFrom_36 : decode cX2_copyFrom 36 = .ok (.aload_n 0, 1) := by decide +kernel
theorem dX2_copyFrom_37 : decode cX2_copyFrom 37 = .ok (.getfield 19, 3) := by decide +kernel
theorem dX2_copyFrom_40 : decode cX2_copyFrom 40 = .ok (.iload_n 2, 1) := by decide +kernel
theorem dX2_copyFrom_41 : decode cX2_copyFrom 41 = .ok (.aaload, 1) := by decide +kernel
theorem dX2_copyFrom_42 : decode cX2_copyFrom 42 = .ok (.aload_n 1, 1) := by decide +kernel
theorem dX2_copyFrom_43 : decode cX2_copyFrom 43 = .ok (.getfield 19, 3) := by decide +kernel
theorem dX2_copyFrom_46 : decode cX2_copyFrom 46 = .ok (.iload_n 2, 1) := by decide +kernel
theorem dX2_copyFrom_47 : decode cX2_copyFrom 47 = .ok (.aaload, 1) := by decide +kernel
theorem dX2_copyFrom_48 : decode cX2_copyFrom 48 = .ok (.invokevirtual 29, 3) := by decide +kernel
theorem dX2_copyFrom_51 : decode cX2_copyFrom 51 = .ok (.iinc 2 1, 3) := by decide +kernel
theorem dX2_copyFrom_54 : decode cX2_copyFrom 54 = .ok (.goto (-24), 3) := by decide +kernel
theorem dX2_copyFrom_57 : decode cX2_copyFrom 57 = .ok (.aload_n 0, 1) := by decide +kernel
theorem dX2_copyFrom_58 : decode cX2_copyFrom 58 = .ok (.aload_n 1, 1) := by decide +kernel
theorem dX2_copyFrom_59 : decode cX2_copyFrom 59 = .ok (.getfield 32, 3) := by decide +kernel
theorem dX2_copyFrom_62 : decode cX2_copyFrom 62 = .ok (.putfield 32, 3) := by decide +kernel
theorem dX2_copyFrom_65 : decode cX2_copyFrom 65 = .ok (.aload_n 0, 1) := by decide +kernel
theorem dX2_copyFrom_66 : decode cX2_copyFrom 66 = .ok (.aload_n 1, 1) := by decide +kernel
theorem dX2_copyFrom_67 : decode cX2_copyFrom 67 = .ok (.getfield 36, 3) := by decide +kernel
theorem dX2_copyFrom_70 : decode cX2_copyFrom 70 = .ok (.putfield 36, 3) := by decide +kernel
theorem dX2_copyFrom_73 : decode cX2_copyFrom 73 = .ok (.return_, 1) := by decide +kernel
theorem dX2_addTank_0 : decode cX2_addTank 0 = .ok (.aload_n 0, 1) := by decide +kernel
theorem dX2_addTank_1 : decode cX2_addTank 1 = .ok (.getfield 32, 3) := by decide +kernel
theorem dX2_addTank_4 : decode cX2_addTank 4 = .ok (.iconst 5, 1) := by decide +kernel
theorem dX2_addTank_5 : decode cX2_addTank 5 = .ok (.if_icmp .ge 38, 3) := by decide +kernel
theorem dX2_addTank_8 : decode cX2_addTank 8 = .ok (.aload_n 0, 1) := by decide +kernel
theorem dX2_addTank_9 : decode cX2_addTank 9 = .ok (.getfield 11, 3) := by decide +kernel
theorem dX2_addTank_12 : decode cX2_addTank 12 = .ok (.aload_n 0, 1) := by decide +kernel
theorem dX2_addTank_13 : decode cX2_addTank 13 = .ok (.getfield 32, 3) := by decide +kernel
theorem dX2_addTank_16 : decode cX2_addTank 16 = .ok (.aaload, 1) := by decide +kernel
theorem dX2_addTank_17 : decode cX2_addTank 17 = .ok (.invokevirtual 39, 3) := by decide +kernel
theorem dX2_addTank_20 : decode cX2_addTank 20 = .ok (.aload_n 0, 1) := by decide +kernel
theorem dX2_addTank_21 : decode cX2_addTank 21 = .ok (.getfield 11, 3) := by decide +kernel
theorem dX2_addTank_24 : decode cX2_addTank 24 = .ok (.aload_n 0, 1) := by decide +kernel
theorem dX2_addTank_25 : decode cX2_addTank 25 = .ok (.getfield 32, 3) := by decide +kernel
theorem dX2_addTank_28 : decode cX2_addTank 28 = .ok (.aaload, 1) := by decide +kernel
theorem dX2_addTank_29 : decode cX2_addTank 29 = .ok (.iload_n 1, 1) := by decide +kernel
theorem dX2_addTank_30 : decode cX2_addTank 30 = .ok (.putfield 42, 3) := by decide +kernel
theorem dX2_addTank_33 : decode cX2_addTank 33 = .ok (.aload_n 0, 1) := by decide +kernel
theorem dX2_addTank_34 : decode cX2_addTank 34 = .ok (.dup, 1) := by decide +kernel
theorem dX2_addTank_35 : decode cX2_addTank 35 = .ok (.getfield 32, 3) := by decide +kernel
theorem dX2_addTank_38 : decode cX2_addTank 38 = .ok (.iconst 1, 1) := by decide +kernel
theorem dX2_addTank_39 : decode cX2_addTank 39 = .ok (.iadd, 1) := by decide +kernel
theorem dX2_addTank_40 : decode cX2_addTank 40 = .ok (.putfield 32, 3) := by decide +kernel
theorem dX2_addTank_43 : decode cX2_addTank 43 = .ok (.return_, 1) := by decide +kernel
theorem dX2_chooseTank_0 : decode cX2_chooseTank 0 = .ok (.iconst (-1), 1) := by decide +kernel
theorem dX2_chooseTank_1 : decode cX2_chooseTank 1 = .ok (.istore_n 3, 1) := by decide +kernel
theorem dX2_chooseTank_2 : decode cX2_chooseTank 2 = .ok (.iconst 0, 1) := by decide +kernel
theorem dX2_chooseTank_3 : decode cX2_chooseTank 3 = .ok (.istore 4, 2) := by decide +kernel
theorem dX2_chooseTank_5 : decode cX2_chooseTank 5 = .ok (.iload 4, 2) := by decide +kernel
theorem dX2_chooseTank_7 : decode cX2_chooseTank 7 = .ok (.aload_n 0, 1) := by decide +kernel
theorem dX2_chooseTank_8 : decode cX2_chooseTank 8 = .ok (.getfield 32, 3) := by decide +kernel
theorem dX2_chooseTank_11 : decode cX2_chooseTank 11 = .ok (.if_icmp .ge 55, 3) := by decide +kernel
theorem dX2_chooseTank_14 : decode cX2_chooseTank 14 = .ok (.aload_n 0, 1) := by decide +kernel
theorem dX2_chooseTank_15 : decode cX2_chooseTank 15 = .ok (.getfield 11, 3) := by decide +kernel
theorem dX2_chooseTank_18 : decode cX2_chooseTank 18 = .ok (.iload 4, 2) := by decide +kernel
theorem dX2_chooseTank_20 : decode cX2_chooseTank 20 = .ok (.aaload, 1) := by decide +kernel
theorem dX2_chooseTank_21 : decode cX2_chooseTank 21 = .ok (.astore 5, 2) := by decide +kernel
theorem dX2_chooseTank_23 : decode cX2_chooseTank 23 = .ok (.aload 5, 2) := by decide +kernel
theorem dX2_chooseTank_25 : decode cX2_chooseTank 25 = .ok (.invokevirtual 45, 3) := by decide +kernel
theorem dX2_chooseTank_28 : decode cX2_chooseTank 28 = .ok (.iload_n 2, 1) := by decide +kernel
theorem dX2_chooseTank_29 : decode cX2_chooseTank 29 = .ok (.if_icmp .lt 31, 3) := by decide +kernel
theorem dX2_chooseTank_32 : decode cX2_chooseTank 32 = .ok (.aload 5, 2) := by decide +kernel
theorem dX2_chooseTank_34 : decode cX2_chooseTank 34 = .ok (.iload_n 1, 1) := by decide +kernel
theorem dX2_chooseTank_35 : decode cX2_chooseTank 35 = .ok (.invokevirtual 49, 3) := by decide +kernel
theorem dX2_chooseTank_38 : decode cX2_chooseTank 38 = .ok (.ifCond .eq 6, 3) := by decide +kernel
theorem dX2_chooseTank_41 : decode cX2_chooseTank 41 = .ok (.iload 4, 2) := by decide +kernel
theorem dX2_chooseTank_43 : decode cX2_chooseTank 43 = .ok (.ireturn, 1) := by decide +kernel
theorem dX2_chooseTank_44 : decode cX2_chooseTank 44 = .ok (.aload 5, 2) := by decide +kernel
theorem dX2_chooseTank_46 : decode cX2_chooseTank 46 = .ok (.getfield 53, 3) := by decide +kernel
theorem dX2_chooseTank_49 : decode cX2_chooseTank 49 = .ok (.ifCond .ne 11, 3) := by decide +kernel
theorem dX2_chooseTank_52 : decode cX2_chooseTank 52 = .ok (.iload_n 3, 1) := by decide +kernel
theorem dX2_chooseTank_53 : decode cX2_chooseTank 53 = .ok (.iconst (-1), 1) := by decide +kernel
theorem dX2_chooseTank_54 : decode cX2_chooseTank 54 = .ok (.if_icmp .ne 6, 3) := by decide +kernel
theorem dX2_chooseTank_57 : decode cX2_chooseTank 57 = .ok (.iload 4, 2) := by decide +kernel
theorem dX2_chooseTank_59 : decode cX2_chooseTank 59 = .ok (.istore_n 3, 1) := by decide +kernel
theorem dX2_chooseTank_60 : decode cX2_chooseTank 60 = .ok (.iinc 4 1, 3) := by decide +kernel
theorem dX2_chooseTank_63 : decode cX2_chooseTank 63 = .ok (.goto (-58), 3) := by decide +kernel
theorem dX2_chooseTank_66 : decode cX2_chooseTank 66 = .ok (.iload_n 3, 1) := by decide +kernel
theorem dX2_chooseTank_67 : decode cX2_chooseTank 67 = .ok (.ireturn, 1) := by decide +kernel
theorem dX2_greatestWeightFor_0 : decode cX2_greatestWeightFor 0 = .ok (.iconst 0, 1) := by decide +kernel
theorem dX2_greatestWeightFor_1 : decode cX2_greatestWeightFor 1 = .ok (.istore_n 2, 1) := by decide +kernel
theorem dX2_greatestWeightFor_2 : decode cX2_greatestWeightFor 2 = .ok (.iconst 0, 1) := by decide +kernel
theorem dX2_greatestWeightFor_3 : decode cX2_greatestWeightFor 3 = .ok (.istore_n 3, 1) := by decide +kernel
theorem dX2_greatestWeightFor_4 : decode cX2_greatestWeightFor 4 = .ok (.iload_n 3, 1) := by decide +kernel
theorem dX2_greatestWeightFor_5 : decode cX2_greatestWeightFor 5 = .ok (.aload_n 0, 1) := by decide +kernel
theorem dX2_greatestWeightFor_6 : decode cX2_greatestWeightFor 6 = .ok (.getfield 32, 3) := by decide +kernel
theorem dX2_greatestWeightFor_9 : decode cX2_greatestWeightFor 9 = .ok (.if_icmp .ge 36, 3) := by decide +kernel
theorem dX2_greatestWeightFor_12 : decode cX2_greatestWeightFor 12 = .ok (.aload_n 0, 1) := by decide +kernel
theorem dX2_greatestWeightFor_13 : decode cX2_greatestWeightFor 13 = .ok (.getfield 11, 3) := by decide +kernel
theorem dX2_greatestWeightFor_16 : decode cX2_greatestWeightFor 16 = .ok (.iload_n 3, 1) := by decide +kernel
theorem dX2_greatestWeightFor_17 : decode cX2_greatestWeightFor 17 = .ok (.aaload, 1) := by decide +kernel
theorem dX2_greatestWeightFor_18 : decode cX2_greatestWeightFor 18 = .ok (.iload_n 1, 1) := by decide +kernel
theorem dX2_greatestWeightFor_19 : decode cX2_greatestWeightFor 19 = .ok (.invokevirtual 56, 3) := by decide +kernel
theorem dX2_greatestWeightFor_22 : decode cX2_greatestWeightFor 22 = .ok (.ifCond .eq 17, 3) := by decide +kernel
theorem dX2_greatestWeightFor_25 : decode cX2_greatestWeightFor 25 = .ok (.iload_n 2, 1) := by decide +kernel
theorem dX2_greatestWeightFor_26 : decode cX2_greatestWeightFor 26 = .ok (.aload_n 0, 1) := by decide +kernel
theorem dX2_greatestWeightFor_27 : decode cX2_greatestWeightFor 27 = .ok (.getfield 11, 3) := by decide +kernel
theorem dX2_greatestWeightFor_30 : decode cX2_greatestWeightFor 30 = .ok (.iload_n 3, 1) := by decide +kernel
theorem dX2_greatestWeightFor_31 : decode cX2_greatestWeightFor 31 = .ok (.aaload, 1) := by decide +kernel
theorem dX2_greatestWeightFor_32 : decode cX2_greatestWeightFor 32 = .ok (.invokevirtual 45, 3) := by decide +kernel
theorem dX2_greatestWeightFor_35 : decode cX2_greatestWeightFor 35 = .ok (.invokestatic 59, 3) := by decide +kernel
theorem dX2_greatestWeightFor_38 : decode cX2_greatestWeightFor 38 = .ok (.istore_n 2, 1) := by decide +kernel
theorem dX2_greatestWeightFor_39 : decode cX2_greatestWeightFor 39 = .ok (.iinc 3 1, 3) := by decide +kernel
theorem dX2_greatestWeightFor_42 : decode cX2_greatestWeightFor 42 = .ok (.goto (-38), 3) := by decide +kernel
theorem dX2_greatestWeightFor_45 : decode cX2_greatestWeightFor 45 = .ok (.iload_n 2, 1) := by decide +kernel
theorem dX2_greatestWeightFor_46 : decode cX2_greatestWeightFor 46 = .ok (.sipush 5000, 3) := by decide +kernel
theorem dX2_greatestWeightFor_49 : decode cX2_greatestWeightFor 49 = .ok (.invokestatic 65, 3) := by decide +kernel
theorem dX2_greatestWeightFor_52 : decode cX2_greatestWeightFor 52 = .ok (.ireturn, 1) := by decide +kernel
theorem dX2_canFillLot_0 : decode cX2_canFillLot 0 = .ok (.iload_n 2, 1) := by decide +kernel
theorem dX2_canFillLot_1 : decode cX2_canFillLot 1 = .ok (.aload_n 1, 1) := by decide +kernel
theorem dX2_canFillLot_2 : decode cX2_canFillLot 2 = .ok (.getfield 53, 3) := by decide +kernel
theorem dX2_canFillLot_5 : decode cX2_canFillLot 5 = .ok (.if_icmp .gt 16, 3) := by decide +kernel
theorem dX2_canFillLot_8 : decode cX2_canFillLot 8 = .ok (.aload_n 0, 1) := by decide +kernel
theorem dX2_canFillLot_9 : decode cX2_canFillLot 9 = .ok (.getfield 36, 3) := by decide +kernel
theorem dX2_canFillLot_12 : decode cX2_canFillLot 12 = .ok (.bipush 12, 2) := by decide +kernel
theorem dX2_canFillLot_14 : decode cX2_canFillLot 14 = .ok (.if_icmp .ge 7, 3) := by decide +kernel
theorem dX2_canFillLot_17 : decode cX2_canFillLot 17 = .ok (.iconst 1, 1) := by decide +kernel
theorem dX2_canFillLot_18 : decode cX2_canFillLot 18 = .ok (.goto 4, 3) := by decide +kernel
theorem dX2_canFillLot_21 : decode cX2_canFillLot 21 = .ok (.iconst 0, 1) := by decide +kernel
theorem dX2_canFillLot_22 : decode cX2_canFillLot 22 = .ok (.ireturn, 1) := by decide +kernel
theorem dX2_fillLot_0 : decode cX2_fillLot 0 = .ok (.aload_n 0, 1) := by decide +kernel
theorem dX2_fillLot_1 : decode cX2_fillLot 1 = .ok (.getfield 36, 3) := by decide +kernel
theorem dX2_fillLot_4 : decode cX2_fillLot 4 = .ok (.bipush 12, 2) := by decide +kernel
theorem dX2_fillLot_6 : decode cX2_fillLot 6 = .ok (.if_icmp .lt 5, 3) := by decide +kernel
theorem dX2_fillLot_9 : decode cX2_fillLot 9 = .ok (.iconst (-1), 1) := by decide +kernel
theorem dX2_fillLot_10 : decode cX2_fillLot 10 = .ok (.ireturn, 1) := by decide +kernel
theorem dX2_fillLot_11 : decode cX2_fillLot 11 = .ok (.aload_n 0, 1) := by decide +kernel
theorem dX2_fillLot_12 : decode cX2_fillLot 12 = .ok (.getfield 19, 3) := by decide +kernel
theorem dX2_fillLot_15 : decode cX2_fillLot 15 = .ok (.aload_n 0, 1) := by decide +kernel
theorem dX2_fillLot_16 : decode cX2_fillLot 16 = .ok (.getfield 36, 3) := by decide +kernel
theorem dX2_fillLot_19 : decode cX2_fillLot 19 = .ok (.aaload, 1) := by decide +kernel
theorem dX2_fillLot_20 : decode cX2_fillLot 20 = .ok (.astore_n 3, 1) := by decide +kernel
theorem dX2_fillLot_21 : decode cX2_fillLot 21 = .ok (.aload_n 3, 1) := by decide +kernel
theorem dX2_fillLot_22 : decode cX2_fillLot 22 = .ok (.aload_n 1, 1) := by decide +kernel
theorem dX2_fillLot_23 : decode cX2_fillLot 23 = .ok (.getfield 68, 3) := by decide +kernel
theorem dX2_fillLot_26 : decode cX2_fillLot 26 = .ok (.putfield 71, 3) := by decide +kernel
theorem dX2_fillLot_29 : decode cX2_fillLot 29 = .ok (.aload_n 3, 1) := by decide +kernel
theorem dX2_fillLot_30 : decode cX2_fillLot 30 = .ok (.aload_n 1, 1) := by decide +kernel
theorem dX2_fillLot_31 : decode cX2_fillLot 31 = .ok (.invokevirtual 72, 3) := by decide +kernel
theorem dX2_fillLot_34 : decode cX2_fillLot 34 = .ok (.putfield 75, 3) := by decide +kernel
theorem dX2_fillLot_37 : decode cX2_fillLot 37 = .ok (.aload_n 3, 1) := by decide +kernel
theorem dX2_fillLot_38 : decode cX2_fillLot 38 = .ok (.iload_n 2, 1) := by decide +kernel
theorem dX2_fillLot_39 : decode cX2_fillLot 39 = .ok (.putfield 78, 3) := by decide +kernel
theorem dX2_fillLot_42 : decode cX2_fillLot 42 = .ok (.aload_n 3, 1) := by decide +kernel
theorem dX2_fillLot_43 : decode cX2_fillLot 43 = .ok (.iload_n 2, 1) := by decide +kernel
theorem dX2_fillLot_44 : decode cX2_fillLot 44 = .ok (.putfield 81, 3) := by decide +kernel
theorem dX2_fillLot_47 : decode cX2_fillLot 47 = .ok (.aload_n 1, 1) := by decide +kernel
theorem dX2_fillLot_48 : decode cX2_fillLot 48 = .ok (.iload_n 2, 1) := by decide +kernel
theorem dX2_fillLot_49 : decode cX2_fillLot 49 = .ok (.invokevirtual 84, 3) := by decide +kernel
theorem dX2_fillLot_52 : decode cX2_fillLot 52 = .ok (.aload_n 0, 1) := by decide +kernel
theorem dX2_fillLot_53 : decode cX2_fillLot 53 = .ok (.dup, 1) := by decide +kernel
theorem dX2_fillLot_54 : decode cX2_fillLot 54 = .ok (.getfield 36, 3) := by decide +kernel
theorem dX2_fillLot_57 : decode cX2_fillLot 57 = .ok (.iconst 1, 1) := by decide +kernel
theorem dX2_fillLot_58 : decode cX2_fillLot 58 = .ok (.iadd, 1) := by decide +kernel
theorem dX2_fillLot_59 : decode cX2_fillLot 59 = .ok (.putfield 36, 3) := by decide +kernel
theorem dX2_fillLot_62 : decode cX2_fillLot 62 = .ok (.aload_n 0, 1) := by decide +kernel
theorem dX2_fillLot_63 : decode cX2_fillLot 63 = .ok (.getfield 36, 3) := by decide +kernel
theorem dX2_fillLot_66 : decode cX2_fillLot 66 = .ok (.iconst 1, 1) := by decide +kernel
theorem dX2_fillLot_67 : decode cX2_fillLot 67 = .ok (.isub, 1) := by decide +kernel
theorem dX2_fillLot_68 : decode cX2_fillLot 68 = .ok (.ireturn, 1) := by decide +kernel
theorem dX2_sweetestUnsold_0 : decode cX2_sweetestUnsold 0 = .ok (.iconst (-1), 1) := by decide +kernel
theorem dX2_sweetestUnsold_1 : decode cX2_sweetestUnsold 1 = .ok (.istore_n 1, 1) := by decide +kernel
theorem dX2_sweetestUnsold_2 : decode cX2_sweetestUnsold 2 = .ok (.iconst (-1), 1) := by decide +kernel
theorem dX2_sweetestUnsold_3 : decode cX2_sweetestUnsold 3 = .ok (.istore_n 2, 1) := by decide +kernel
theorem dX2_sweetestUnsold_4 : decode cX2_sweetestUnsold 4 = .ok (.iconst 0, 1) := by decide +kernel
theorem dX2_sweetestUnsold_5 : decode cX2_sweetestUnsold 5 = .ok (.istore_n 3, 1) := by decide +kernel
theorem dX2_sweetestUnsold_6 : decode cX2_sweetestUnsold 6 = .ok (.iload_n 3, 1) := by decide +kernel
theorem dX2_sweetestUnsold_7 : decode cX2_sweetestUnsold 7 = .ok (.aload_n 0, 1) := by decide +kernel
theorem dX2_sweetestUnsold_8 : decode cX2_sweetestUnsold 8 = .ok (.getfield 36, 3) := by decide +kernel
theorem dX2_sweetestUnsold_11 : decode cX2_sweetestUnsold 11 = .ok (.if_icmp .ge 46, 3) := by decide +kernel
theorem dX2_sweetestUnsold_14 : decode cX2_sweetestUnsold 14 = .ok (.aload_n 0, 1) := by decide +kernel
theorem dX2_sweetestUnsold_15 : decode cX2_sweetestUnsold 15 = .ok (.getfield 19, 3) := by decide +kernel
theorem dX2_sweetestUnsold_18 : decode cX2_sweetestUnsold 18 = .ok (.iload_n 3, 1) := by decide +kernel
theorem dX2_sweetestUnsold_19 : decode cX2_sweetestUnsold 19 = .ok (.aaload, 1) := by decide +kernel
theorem dX2_sweetestUnsold_20 : decode cX2_sweetestUnsold 20 = .ok (.getfield 81, 3) := by decide +kernel
theorem dX2_sweetestUnsold_23 : decode cX2_sweetestUnsold 23 = .ok (.ifCond .le 28, 3) := by decide +kernel
theorem dX2_sweetestUnsold_26 : decode cX2_sweetestUnsold 26 = .ok (.aload_n 0, 1) := by decide +kernel
theorem dX2_sweetestUnsold_27 : decode cX2_sweetestUnsold 27 = .ok (.getfield 19, 3) := by decide +kernel
theorem dX2_sweetestUnsold_30 : decode cX2_sweetestUnsold 30 = .ok (.iload_n 3, 1) := by decide +kernel
theorem dX2_sweetestUnsold_31 : decode cX2_sweetestUnsold 31 = .ok (.aaload, 1) := by decide +kernel
theorem dX2_sweetestUnsold_32 : decode cX2_sweetestUnsold 32 = .ok (.getfield 75, 3) := by decide +kernel
theorem dX2_sweetestUnsold_35 : decode cX2_sweetestUnsold 35 = .ok (.iload_n 2, 1) := by decide +kernel
theorem dX2_sweetestUnsold_36 : decode cX2_sweetestUnsold 36 = .ok (.if_icmp .le 15, 3) := by decide +kernel
theorem dX2_sweetestUnsold_39 : decode cX2_sweetestUnsold 39 = .ok (.aload_n 0, 1) := by decide +kernel
theorem dX2_sweetestUnsold_40 : decode cX2_sweetestUnsold 40 = .ok (.getfield 19, 3) := by decide +kernel
theorem dX2_sweetestUnsold_43 : decode cX2_sweetestUnsold 43 = .ok (.iload_n 3, 1) := by decide +kernel
theorem dX2_sweetestUnsold_44 : decode cX2_sweetestUnsold 44 = .ok (.aaload, 1) := by decide +kernel
theorem dX2_sweetestUnsold_45 : decode cX2_sweetestUnsold 45 = .ok (.getfield 75, 3) := by decide +kernel
theorem dX2_sweetestUnsold_48 : decode cX2_sweetestUnsold 48 = .ok (.istore_n 2, 1) := by decide +kernel
theorem dX2_sweetestUnsold_49 : decode cX2_sweetestUnsold 49 = .ok (.iload_n 3, 1) := by decide +kernel
theorem dX2_sweetestUnsold_50 : decode cX2_sweetestUnsold 50 = .ok (.istore_n 1, 1) := by decide +kernel
theorem dX2_sweetestUnsold_51 : decode cX2_sweetestUnsold 51 = .ok (.iinc 3 1, 3) := by decide +kernel
theorem dX2_sweetestUnsold_54 : decode cX2_sweetestUnsold 54 = .ok (.goto (-48), 3) := by decide +kernel
theorem dX2_sweetestUnsold_57 : decode cX2_sweetestUnsold 57 = .ok (.iload_n 1, 1) := by decide +kernel
theorem dX2_sweetestUnsold_58 : decode cX2_sweetestUnsold 58 = .ok (.ireturn, 1) := by decide +kernel
theorem dX2_stockOf_0 : decode cX2_stockOf 0 = .ok (.iconst 0, 1) := by decide +kernel
theorem dX2_stockOf_1 : decode cX2_stockOf 1 = .ok (.istore_n 2, 1) := by decide +kernel
theorem dX2_stockOf_2 : decode cX2_stockOf 2 = .ok (.iconst 0, 1) := by decide +kernel
theorem dX2_stockOf_3 : decode cX2_stockOf 3 = .ok (.istore_n 3, 1) := by decide +kernel
theorem dX2_stockOf_4 : decode cX2_stockOf 4 = .ok (.iload_n 3, 1) := by decide +kernel
theorem dX2_stockOf_5 : decode cX2_stockOf 5 = .ok (.aload_n 0, 1) := by decide +kernel
theorem dX2_stockOf_6 : decode cX2_stockOf 6 = .ok (.getfield 32, 3) := by decide +kernel
theorem dX2_stockOf_9 : decode cX2_stockOf 9 = .ok (.if_icmp .ge 34, 3) := by decide +kernel
theorem dX2_stockOf_12 : decode cX2_stockOf 12 = .ok (.aload_n 0, 1) := by decide +kernel
theorem dX2_stockOf_13 : decode cX2_stockOf 13 = .ok (.getfield 11, 3) := by decide +kernel
theorem dX2_stockOf_16 : decode cX2_stockOf 16 = .ok (.iload_n 3, 1) := by decide +kernel
theorem dX2_stockOf_17 : decode cX2_stockOf 17 = .ok (.aaload, 1) := by decide +kernel
theorem dX2_stockOf_18 : decode cX2_stockOf 18 = .ok (.iload_n 1, 1) := by decide +kernel
theorem dX2_stockOf_19 : decode cX2_stockOf 19 = .ok (.invokevirtual 49, 3) := by decide +kernel
theorem dX2_stockOf_22 : decode cX2_stockOf 22 = .ok (.ifCond .eq 15, 3) := by decide +kernel
theorem dX2_stockOf_25 : decode cX2_stockOf 25 = .ok (.iload_n 2, 1) := by decide +kernel
theorem dX2_stockOf_26 : decode cX2_stockOf 26 = .ok (.aload_n 0, 1) := by decide +kernel
theorem dX2_stockOf_27 : decode cX2_stockOf 27 = .ok (.getfield 11, 3) := by decide +kernel
theorem dX2_stockOf_30 : decode cX2_stockOf 30 = .ok (.iload_n 3, 1) := by decide +kernel
theorem dX2_stockOf_31 : decode cX2_stockOf 31 = .ok (.aaload, 1) := by decide +kernel
theorem dX2_stockOf_32 : decode cX2_stockOf 32 = .ok (.getfield 53, 3) := by decide +kernel
theorem dX2_stockOf_35 : decode cX2_stockOf 35 = .ok (.iadd, 1) := by decide +kernel
theorem dX2_stockOf_36 : decode cX2_stockOf 36 = .ok (.istore_n 2, 1) := by decide +kernel
theorem dX2_stockOf_37 : decode cX2_stockOf 37 = .ok (.iinc 3 1, 3) := by decide +kernel
theorem dX2_stockOf_40 : decode cX2_stockOf 40 = .ok (.goto (-36), 3) := by decide +kernel
theorem dX2_stockOf_43 : decode cX2_stockOf 43 = .ok (.iconst 0, 1) := by decide +kernel
theorem dX2_stockOf_44 : decode cX2_stockOf 44 = .ok (.istore_n 3, 1) := by decide +kernel
theorem dX2_stockOf_45 : decode cX2_stockOf 45 = .ok (.iload_n 3, 1) := by decide +kernel
theorem dX2_stockOf_46 : decode cX2_stockOf 46 = .ok (.aload_n 0, 1) := by decide +kernel
theorem dX2_stockOf_47 : decode cX2_stockOf 47 = .ok (.getfield 36, 3) := by decide +kernel
theorem dX2_stockOf_50 : decode cX2_stockOf 50 = .ok (.if_icmp .ge 34, 3) := by decide +kernel
theorem dX2_stockOf_53 : decode cX2_stockOf 53 = .ok (.aload_n 0, 1) := by decide +kernel
theorem dX2_stockOf_54 : decode cX2_stockOf 54 = .ok (.getfield 19, 3) := by decide +kernel
theorem dX2_stockOf_57 : decode cX2_stockOf 57 = .ok (.iload_n 3, 1) := by decide +kernel
theorem dX2_stockOf_58 : decode cX2_stockOf 58 = .ok (.aaload, 1) := by decide +kernel
theorem dX2_stockOf_59 : decode cX2_stockOf 59 = .ok (.getfield 71, 3) := by decide +kernel
theorem dX2_stockOf_62 : decode cX2_stockOf 62 = .ok (.iload_n 1, 1) := by decide +kernel
theorem dX2_stockOf_63 : decode cX2_stockOf 63 = .ok (.if_icmp .ne 15, 3) := by decide +kernel
theorem dX2_stockOf_66 : decode cX2_stockOf 66 = .ok (.iload_n 2, 1) := by decide +kernel
theorem dX2_stockOf_67 : decode cX2_stockOf 67 = .ok (.aload_n 0, 1) := by decide +kernel
theorem dX2_stockOf_68 : decode cX2_stockOf 68 = .ok (.getfield 19, 3) := by decide +kernel
theorem dX2_stockOf_71 : decode cX2_stockOf 71 = .ok (.iload_n 3, 1) := by decide +kernel
theorem dX2_stockOf_72 : decode cX2_stockOf 72 = .ok (.aaload, 1) := by decide +kernel
theorem dX2_stockOf_73 : decode cX2_stockOf 73 = .ok (.getfield 81, 3) := by decide +kernel
theorem dX2_stockOf_76 : decode cX2_stockOf 76 = .ok (.iadd, 1) := by decide +kernel
theorem dX2_stockOf_77 : decode cX2_stockOf 77 = .ok (.istore_n 2, 1) := by decide +kernel
theorem dX2_stockOf_78 : decode cX2_stockOf 78 = .ok (.iinc 3 1, 3) := by decide +kernel
theorem dX2_stockOf_81 : decode cX2_stockOf 81 = .ok (.goto (-36), 3) := by decide +kernel
theorem dX2_stockOf_84 : decode cX2_stockOf 84 = .ok (.iload_n 2, 1) := by decide +kernel
theorem dX2_stockOf_85 : decode cX2_stockOf 85 = .ok (.ireturn, 1) := by decide +kernel
theorem dX2_totalContent_0 : decode cX2_totalContent 0 = .ok (.iconst 0, 1) := by decide +kernel
theorem dX2_totalContent_1 : decode cX2_totalContent 1 = .ok (.istore_n 1, 1) := by decide +kernel
theorem dX2_totalContent_2 : decode cX2_totalContent 2 = .ok (.iconst 0, 1) := by decide +kernel
theorem dX2_totalContent_3 : decode cX2_totalContent 3 = .ok (.istore_n 2, 1) := by decide +kernel
theorem dX2_totalContent_4 : decode cX2_totalContent 4 = .ok (.iload_n 2, 1) := by decide +kernel
theorem dX2_totalContent_5 : decode cX2_totalContent 5 = .ok (.aload_n 0, 1) := by decide +kernel
theorem dX2_totalContent_6 : decode cX2_totalContent 6 = .ok (.getfield 32, 3) := by decide +kernel
theorem dX2_totalContent_9 : decode cX2_totalContent 9 = .ok (.if_icmp .ge 21, 3) := by decide +kernel
theorem dX2_totalContent_12 : decode cX2_totalContent 12 = .ok (.iload_n 1, 1) := by decide +kernel
theorem dX2_totalContent_13 : decode cX2_totalContent 13 = .ok (.aload_n 0, 1) := by decide +kernel
theorem dX2_totalContent_14 : decode cX2_totalContent 14 = .ok (.getfield 11, 3) := by decide +kernel
theorem dX2_totalContent_17 : decode cX2_totalContent 17 = .ok (.iload_n 2, 1) := by decide +kernel
theorem dX2_totalContent_18 : decode cX2_totalContent 18 = .ok (.aaload, 1) := by decide +kernel
theorem dX2_totalContent_19 : decode cX2_totalContent 19 = .ok (.getfield 53, 3) := by decide +kernel
theorem dX2_totalContent_22 : decode cX2_totalContent 22 = .ok (.iadd, 1) := by decide +kernel
theorem dX2_totalContent_23 : decode cX2_totalContent 23 = .ok (.istore_n 1, 1) := by decide +kernel
theorem dX2_totalContent_24 : decode cX2_totalContent 24 = .ok (.iinc 2 1, 3) := by decide +kernel
theorem dX2_totalContent_27 : decode cX2_totalContent 27 = .ok (.goto (-23), 3) := by decide +kernel
theorem dX2_totalContent_30 : decode cX2_totalContent 30 = .ok (.iload_n 1, 1) := by decide +kernel
theorem dX2_totalContent_31 : decode cX2_totalContent 31 = .ok (.ireturn, 1) := by decide +kernel
theorem dX2_totalCapacity_0 : decode cX2_totalCapacity 0 = .ok (.iconst 0, 1) := by decide +kernel
theorem dX2_totalCapacity_1 : decode cX2_totalCapacity 1 = .ok (.istore_n 1, 1) := by decide +kernel
theorem dX2_totalCapacity_2 : decode cX2_totalCapacity 2 = .ok (.iconst 0, 1) := by decide +kernel
theorem dX2_totalCapacity_3 : decode cX2_totalCapacity 3 = .ok (.istore_n 2, 1) := by decide +kernel
theorem dX2_totalCapacity_4 : decode cX2_totalCapacity 4 = .ok (.iload_n 2, 1) := by decide +kernel
theorem dX2_totalCapacity_5 : decode cX2_totalCapacity 5 = .ok (.aload_n 0, 1) := by decide +kernel
theorem dX2_totalCapacity_6 : decode cX2_totalCapacity 6 = .ok (.getfield 32, 3) := by decide +kernel
theorem dX2_totalCapacity_9 : decode cX2_totalCapacity 9 = .ok (.if_icmp .ge 21, 3) := by decide +kernel
theorem dX2_totalCapacity_12 : decode cX2_totalCapacity 12 = .ok (.iload_n 1, 1) := by decide +kernel
theorem dX2_totalCapacity_13 : decode cX2_totalCapacity 13 = .ok (.aload_n 0, 1) := by decide +kernel
theorem dX2_totalCapacity_14 : decode cX2_totalCapacity 14 = .ok (.getfield 11, 3) := by decide +kernel
theorem dX2_totalCapacity_17 : decode cX2_totalCapacity 17 = .ok (.iload_n 2, 1) := by decide +kernel
theorem dX2_totalCapacity_18 : decode cX2_totalCapacity 18 = .ok (.aaload, 1) := by decide +kernel
theorem dX2_totalCapacity_19 : decode cX2_totalCapacity 19 = .ok (.getfield 42, 3) := by decide +kernel
theorem dX2_totalCapacity_22 : decode cX2_totalCapacity 22 = .ok (.iadd, 1) := by decide +kernel
theorem dX2_totalCapacity_23 : decode cX2_totalCapacity 23 = .ok (.istore_n 1, 1) := by decide +kernel
theorem dX2_totalCapacity_24 : decode cX2_totalCapacity 24 = .ok (.iinc 2 1, 3) := by decide +kernel
theorem dX2_totalCapacity_27 : decode cX2_totalCapacity 27 = .ok (.goto (-23), 3) := by decide +kernel
theorem dX2_totalCapacity_30 : decode cX2_totalCapacity 30 = .ok (.iload_n 1, 1) := by decide +kernel
theorem dX2_totalCapacity_31 : decode cX2_totalCapacity 31 = .ok (.ireturn, 1) := by decide +kernel
theorem dX2_totalBottled_0 : decode cX2_totalBottled 0 = .ok (.iconst 0, 1) := by decide +kernel
theorem dX2_totalBottled_1 : decode cX2_totalBottled 1 = .ok (.istore_n 1, 1) := by decide +kernel
theorem dX2_totalBottled_2 : decode cX2_totalBottled 2 = .ok (.iconst 0, 1) := by decide +kernel
theorem dX2_totalBottled_3 : decode cX2_totalBottled 3 = .ok (.istore_n 2, 1) := by decide +kernel
theorem dX2_totalBottled_4 : decode cX2_totalBottled 4 = .ok (.iload_n 2, 1) := by decide +kernel
theorem dX2_totalBottled_5 : decode cX2_totalBottled 5 = .ok (.aload_n 0, 1) := by decide +kernel
theorem dX2_totalBottled_6 : decode cX2_totalBottled 6 = .ok (.getfield 36, 3) := by decide +kernel
theorem dX2_totalBottled_9 : decode cX2_totalBottled 9 = .ok (.if_icmp .ge 21, 3) := by decide +kernel
theorem dX2_totalBottled_12 : decode cX2_totalBottled 12 = .ok (.iload_n 1, 1) := by decide +kernel
theorem dX2_totalBottled_13 : decode cX2_totalBottled 13 = .ok (.aload_n 0, 1) := by decide +kernel
theorem dX2_totalBottled_14 : decode cX2_totalBottled 14 = .ok (.getfield 19, 3) := by decide +kernel
theorem dX2_totalBottled_17 : decode cX2_totalBottled 17 = .ok (.iload_n 2, 1) := by decide +kernel
theorem dX2_totalBottled_18 : decode cX2_totalBottled 18 = .ok (.aaload, 1) := by decide +kernel
theorem dX2_totalBottled_19 : decode cX2_totalBottled 19 = .ok (.getfield 78, 3) := by decide +kernel
theorem dX2_totalBottled_22 : decode cX2_totalBottled 22 = .ok (.iadd, 1) := by decide +kernel
theorem dX2_totalBottled_23 : decode cX2_totalBottled 23 = .ok (.istore_n 1, 1) := by decide +kernel
theorem dX2_totalBottled_24 : decode cX2_totalBottled 24 = .ok (.iinc 2 1, 3) := by decide +kernel
theorem dX2_totalBottled_27 : decode cX2_totalBottled 27 = .ok (.goto (-23), 3) := by decide +kernel
theorem dX2_totalBottled_30 : decode cX2_totalBottled 30 = .ok (.iload_n 1, 1) := by decide +kernel
theorem dX2_totalBottled_31 : decode cX2_totalBottled 31 = .ok (.ireturn, 1) := by decide +kernel
theorem dX3_init_0 : decode cX3_init 0 = .ok (.aload_n 0, 1) := by decide +kernel
theorem dX3_init_1 : decode cX3_init 1 = .ok (.invokespecial 3, 3) := by decide +kernel
theorem dX3_init_4 : decode cX3_init 4 = .ok (.aload_n 0, 1) := by decide +kernel
theorem dX3_init_5 : decode cX3_init 5 = .ok (.bipush 20, 2) := by decide +kernel
theorem dX3_init_7 : decode cX3_init 7 = .ok (.anewarray 9, 3) := by decide +kernel
theorem dX3_init_10 : decode cX3_init 10 = .ok (.putfield 11, 3) := by decide +kernel
theorem dX3_init_13 : decode cX3_init 13 = .ok (.iconst 0, 1) := by decide +kernel
theorem dX3_init_14 : decode cX3_init 14 = .ok (.istore_n 1, 1) := by decide +kernel
theorem dX3_init_15 : decode cX3_init 15 = .ok (.iload_n 1, 1) := by decide +kernel
theorem dX3_init_16 : decode cX3_init 16 = .ok (.bipush 20, 2) := by decide +kernel
theorem dX3_init_18 : decode cX3_init 18 = .ok (.if_icmp .ge 22, 3) := by decide +kernel
theorem dX3_init_21 : decode cX3_init 21 = .ok (.aload_n 0, 1) := by decide +kernel
theorem dX3_init_22 : decode cX3_init 22 = .ok (.getfield 11, 3) := by decide +kernel
theorem dX3_init_25 : decode cX3_init 25 = .ok (.iload_n 1, 1) := by decide +kernel
theorem dX3_init_26 : decode cX3_init 26 = .ok (.new 9, 3) := by decide +kernel
theorem dX3_init_29 : decode cX3_init 29 = .ok (.dup, 1) := by decide +kernel
theorem dX3_init_30 : decode cX3_init 30 = .ok (.invokespecial 17, 3) := by decide +kernel
theorem dX3_init_33 : decode cX3_init 33 = .ok (.aastore, 1) := by decide +kernel
theorem dX3_init_34 : decode cX3_init 34 = .ok (.iinc 1 1, 3) := by decide +kernel
theorem dX3_init_37 : decode cX3_init 37 = .ok (.goto (-22), 3) := by decide +kernel
theorem dX3_init_40 : decode cX3_init 40 = .ok (.return_, 1) := by decide +kernel
theorem dX3_copyFrom_0 : decode cX3_copyFrom 0 = .ok (.iconst 0, 1) := by decide +kernel
theorem dX3_copyFrom_1 : decode cX3_copyFrom 1 = .ok (.istore_n 2, 1) := by decide +kernel
theorem dX3_copyFrom_2 : decode cX3_copyFrom 2 = .ok (.iload_n 2, 1) := by decide +kernel
theorem dX3_copyFrom_3 : decode cX3_copyFrom 3 = .ok (.bipush 20, 2) := by decide +kernel
theorem dX3_copyFrom_5 : decode cX3_copyFrom 5 = .ok (.if_icmp .ge 24, 3) := by decide +kernel
theorem dX3_copyFrom_8 : decode cX3_copyFrom 8 = .ok (.aload_n 0, 1) := by decide +kernel
theorem dX3_copyFrom_9 : decode cX3_copyFrom 9 = .ok (.getfield 11, 3) := by decide +kernel
theorem dX3_copyFrom_12 : decode cX3_copyFrom 12 = .ok (.iload_n 2, 1) := by decide +kernel
theorem dX3_copyFrom_13 : decode cX3_copyFrom 13 = .ok (.aaload, 1) := by decide +kernel
theorem dX3_copyFrom_14 : decode cX3_copyFrom 14 = .ok (.aload_n 1, 1) := by decide +kernel
theorem dX3_copyFrom_15 : decode cX3_copyFrom 15 = .ok (.getfield 11, 3) := by decide +kernel
theorem dX3_copyFrom_18 : decode cX3_copyFrom 18 = .ok (.iload_n 2, 1) := by decide +kernel
theorem dX3_copyFrom_19 : decode cX3_copyFrom 19 = .ok (.aaload, 1) := by decide +kernel
theorem dX3_copyFrom_20 : decode cX3_copyFrom 20 = .ok (.invokevirtual 18, 3) := by decide +kernel
theorem dX3_copyFrom_23 : decode cX3_copyFrom 23 = .ok (.iinc 2 1, 3) := by decide +kernel
theorem dX3_copyFrom_26 : decode cX3_copyFrom 26 = .ok (.goto (-24), 3) := by decide +kernel
theorem dX3_copyFrom_29 : decode cX3_copyFrom 29 = .ok (.aload_n 0, 1) := by decide +kernel
theorem dX3_copyFrom_30 : decode cX3_copyFrom 30 = .ok (.aload_n 1, 1) := by decide +kernel
theorem dX3_copyFrom_31 : decode cX3_copyFrom 31 = .ok (.getfield 22, 3) := by decide +kernel
theorem dX3_copyFrom_34 : decode cX3_copyFrom 34 = .ok (.putfield 22, 3) := by decide +kernel
theorem dX3_copyFrom_37 : decode cX3_copyFrom 37 = .ok (.return_, 1) := by decide +kernel
theorem dX3_isFull_0 : decode cX3_isFull 0 = .ok (.aload_n 0, 1) := by decide +kernel
theorem dX3_isFull_1 : decode cX3_isFull 1 = .ok (.getfield 22, 3) := by decide +kernel
theorem dX3_isFull_4 : decode cX3_isFull 4 = .ok (.bipush 20, 2) := by decide +kernel
theorem dX3_isFull_6 : decode cX3_isFull 6 = .ok (.if_icmp .lt 7, 3) := by decide +kernel
theorem dX3_isFull_9 : decode cX3_isFull 9 = .ok (.iconst 1, 1) := by decide +kernel
theorem dX3_isFull_10 : decode cX3_isFull 10 = .ok (.goto 4, 3) := by decide +kernel
theorem dX3_isFull_13 : decode cX3_isFull 13 = .ok (.iconst 0, 1) := by decide +kernel
theorem dX3_isFull_14 : decode cX3_isFull 14 = .ok (.ireturn, 1) := by decide +kernel
theorem dX3_addLoad_0 : decode cX3_addLoad 0 = .ok (.aload_n 0, 1) := by decide +kernel
theorem dX3_addLoad_1 : decode cX3_addLoad 1 = .ok (.getfield 11, 3) := by decide +kernel
theorem dX3_addLoad_4 : decode cX3_addLoad 4 = .ok (.aload_n 0, 1) := by decide +kernel
theorem dX3_addLoad_5 : decode cX3_addLoad 5 = .ok (.getfield 22, 3) := by decide +kernel
theorem dX3_addLoad_8 : decode cX3_addLoad 8 = .ok (.bipush 19, 2) := by decide +kernel
theorem dX3_addLoad_10 : decode cX3_addLoad 10 = .ok (.invokestatic 26, 3) := by decide +kernel
theorem dX3_addLoad_13 : decode cX3_addLoad 13 = .ok (.aaload, 1) := by decide +kernel
theorem dX3_addLoad_14 : decode cX3_addLoad 14 = .ok (.astore_n 1, 1) := by decide +kernel
theorem dX3_addLoad_15 : decode cX3_addLoad 15 = .ok (.aload_n 1, 1) := by decide +kernel
theorem dX3_addLoad_16 : decode cX3_addLoad 16 = .ok (.iconst 0, 1) := by decide +kernel
theorem dX3_addLoad_17 : decode cX3_addLoad 17 = .ok (.putfield 32, 3) := by decide +kernel
theorem dX3_addLoad_20 : decode cX3_addLoad 20 = .ok (.aload_n 1, 1) := by decide +kernel
theorem dX3_addLoad_21 : decode cX3_addLoad 21 = .ok (.iconst 0, 1) := by decide +kernel
theorem dX3_addLoad_22 : decode cX3_addLoad 22 = .ok (.putfield 36, 3) := by decide +kernel
theorem dX3_addLoad_25 : decode cX3_addLoad 25 = .ok (.aload_n 0, 1) := by decide +kernel
theorem dX3_addLoad_26 : decode cX3_addLoad 26 = .ok (.aload_n 0, 1) := by decide +kernel
theorem dX3_addLoad_27 : decode cX3_addLoad 27 = .ok (.getfield 22, 3) := by decide +kernel
theorem dX3_addLoad_30 : decode cX3_addLoad 30 = .ok (.iconst 1, 1) := by decide +kernel
theorem dX3_addLoad_31 : decode cX3_addLoad 31 = .ok (.iadd, 1) := by decide +kernel
theorem dX3_addLoad_32 : decode cX3_addLoad 32 = .ok (.bipush 20, 2) := by decide +kernel
theorem dX3_addLoad_34 : decode cX3_addLoad 34 = .ok (.invokestatic 26, 3) := by decide +kernel
theorem dX3_addLoad_37 : decode cX3_addLoad 37 = .ok (.putfield 22, 3) := by decide +kernel
theorem dX3_addLoad_40 : decode cX3_addLoad 40 = .ok (.aload_n 1, 1) := by decide +kernel
theorem dX3_addLoad_41 : decode cX3_addLoad 41 = .ok (.areturn, 1) := by decide +kernel
theorem dX3_totalWeight_0 : decode cX3_totalWeight 0 = .ok (.iconst 0, 1) := by decide +kernel
theorem dX3_totalWeight_1 : decode cX3_totalWeight 1 = .ok (.istore_n 1, 1) := by decide +kernel
theorem dX3_totalWeight_2 : decode cX3_totalWeight 2 = .ok (.iconst 0, 1) := by decide +kernel
theorem dX3_totalWeight_3 : decode cX3_totalWeight 3 = .ok (.istore_n 2, 1) := by decide +kernel
theorem dX3_totalWeight_4 : decode cX3_totalWeight 4 = .ok (.iload_n 2, 1) := by decide +kernel
theorem dX3_totalWeight_5 : decode cX3_totalWeight 5 = .ok (.aload_n 0, 1) := by decide +kernel
theorem dX3_totalWeight_6 : decode cX3_totalWeight 6 = .ok (.getfield 22, 3) := by decide +kernel
theorem dX3_totalWeight_9 : decode cX3_totalWeight 9 = .ok (.if_icmp .ge 21, 3) := by decide +kernel
theorem dX3_totalWeight_12 : decode cX3_totalWeight 12 = .ok (.iload_n 1, 1) := by decide +kernel
theorem dX3_totalWeight_13 : decode cX3_totalWeight 13 = .ok (.aload_n 0, 1) := by decide +kernel
theorem dX3_totalWeight_14 : decode cX3_totalWeight 14 = .ok (.getfield 11, 3) := by decide +kernel
theorem dX3_totalWeight_17 : decode cX3_totalWeight 17 = .ok (.iload_n 2, 1) := by decide +kernel
theorem dX3_totalWeight_18 : decode cX3_totalWeight 18 = .ok (.aaload, 1) := by decide +kernel
theorem dX3_totalWeight_19 : decode cX3_totalWeight 19 = .ok (.getfield 39, 3) := by decide +kernel
theorem dX3_totalWeight_22 : decode cX3_totalWeight 22 = .ok (.iadd, 1) := by decide +kernel
theorem dX3_totalWeight_23 : decode cX3_totalWeight 23 = .ok (.istore_n 1, 1) := by decide +kernel
theorem dX3_totalWeight_24 : decode cX3_totalWeight 24 = .ok (.iinc 2 1, 3) := by decide +kernel
theorem dX3_totalWeight_27 : decode cX3_totalWeight 27 = .ok (.goto (-23), 3) := by decide +kernel
theorem dX3_totalWeight_30 : decode cX3_totalWeight 30 = .ok (.iload_n 1, 1) := by decide +kernel
theorem dX3_totalWeight_31 : decode cX3_totalWeight 31 = .ok (.ireturn, 1) := by decide +kernel
theorem dX3_totalSugar_0 : decode cX3_totalSugar 0 = .ok (.iconst 0, 1) := by decide +kernel
theorem dX3_totalSugar_1 : decode cX3_totalSugar 1 = .ok (.istore_n 1, 1) := by decide +kernel
theorem dX3_totalSugar_2 : decode cX3_totalSugar 2 = .ok (.iconst 0, 1) := by decide +kernel
theorem dX3_totalSugar_3 : decode cX3_totalSugar 3 = .ok (.istore_n 2, 1) := by decide +kernel
theorem dX3_totalSugar_4 : decode cX3_totalSugar 4 = .ok (.iload_n 2, 1) := by decide +kernel
theorem dX3_totalSugar_5 : decode cX3_totalSugar 5 = .ok (.aload_n 0, 1) := by decide +kernel
theorem dX3_totalSugar_6 : decode cX3_totalSugar 6 = .ok (.getfield 22, 3) := by decide +kernel
theorem dX3_totalSugar_9 : decode cX3_totalSugar 9 = .ok (.if_icmp .ge 31, 3) := by decide +kernel
theorem dX3_totalSugar_12 : decode cX3_totalSugar 12 = .ok (.iload_n 1, 1) := by decide +kernel
theorem dX3_totalSugar_13 : decode cX3_totalSugar 13 = .ok (.aload_n 0, 1) := by decide +kernel
theorem dX3_totalSugar_14 : decode cX3_totalSugar 14 = .ok (.getfield 11, 3) := by decide +kernel
theorem dX3_totalSugar_17 : decode cX3_totalSugar 17 = .ok (.iload_n 2, 1) := by decide +kernel
theorem dX3_totalSugar_18 : decode cX3_totalSugar 18 = .ok (.aaload, 1) := by decide +kernel
theorem dX3_totalSugar_19 : decode cX3_totalSugar 19 = .ok (.getfield 39, 3) := by decide +kernel
theorem dX3_totalSugar_22 : decode cX3_totalSugar 22 = .ok (.aload_n 0, 1) := by decide +kernel
theorem dX3_totalSugar_23 : decode cX3_totalSugar 23 = .ok (.getfield 11, 3) := by decide +kernel
theorem dX3_totalSugar_26 : decode cX3_totalSugar 26 = .ok (.iload_n 2, 1) := by decide +kernel
theorem dX3_totalSugar_27 : decode cX3_totalSugar 27 = .ok (.aaload, 1) := by decide +kernel
theorem dX3_totalSugar_28 : decode cX3_totalSugar 28 = .ok (.getfield 42, 3) := by decide +kernel
theorem dX3_totalSugar_31 : decode cX3_totalSugar 31 = .ok (.imul, 1) := by decide +kernel
theorem dX3_totalSugar_32 : decode cX3_totalSugar 32 = .ok (.iadd, 1) := by decide +kernel
theorem dX3_totalSugar_33 : decode cX3_totalSugar 33 = .ok (.istore_n 1, 1) := by decide +kernel
theorem dX3_totalSugar_34 : decode cX3_totalSugar 34 = .ok (.iinc 2 1, 3) := by decide +kernel
theorem dX3_totalSugar_37 : decode cX3_totalSugar 37 = .ok (.goto (-33), 3) := by decide +kernel
theorem dX3_totalSugar_40 : decode cX3_totalSugar 40 = .ok (.iload_n 1, 1) := by decide +kernel
theorem dX3_totalSugar_41 : decode cX3_totalSugar 41 = .ok (.ireturn, 1) := by decide +kernel
theorem dX3_totalPayments_0 : decode cX3_totalPayments 0 = .ok (.iconst 0, 1) := by decide +kernel
theorem dX3_totalPayments_1 : decode cX3_totalPayments 1 = .ok (.istore_n 1, 1) := by decide +kernel
theorem dX3_totalPayments_2 : decode cX3_totalPayments 2 = .ok (.iconst 0, 1) := by decide +kernel
theorem dX3_totalPayments_3 : decode cX3_totalPayments 3 = .ok (.istore_n 2, 1) := by decide +kernel
theorem dX3_totalPayments_4 : decode cX3_totalPayments 4 = .ok (.iload_n 2, 1) := by decide +kernel
theorem dX3_totalPayments_5 : decode cX3_totalPayments 5 = .ok (.aload_n 0, 1) := by decide +kernel
theorem dX3_totalPayments_6 : decode cX3_totalPayments 6 = .ok (.getfield 22, 3) := by decide +kernel
theorem dX3_totalPayments_9 : decode cX3_totalPayments 9 = .ok (.if_icmp .ge 21, 3) := by decide +kernel
theorem dX3_totalPayments_12 : decode cX3_totalPayments 12 = .ok (.iload_n 1, 1) := by decide +kernel
theorem dX3_totalPayments_13 : decode cX3_totalPayments 13 = .ok (.aload_n 0, 1) := by decide +kernel
theorem dX3_totalPayments_14 : decode cX3_totalPayments 14 = .ok (.getfield 11, 3) := by decide +kernel
theorem dX3_totalPayments_17 : decode cX3_totalPayments 17 = .ok (.iload_n 2, 1) := by decide +kernel
theorem dX3_totalPayments_18 : decode cX3_totalPayments 18 = .ok (.aaload, 1) := by decide +kernel
theorem dX3_totalPayments_19 : decode cX3_totalPayments 19 = .ok (.getfield 36, 3) := by decide +kernel
theorem dX3_totalPayments_22 : decode cX3_totalPayments 22 = .ok (.iadd, 1) := by decide +kernel
theorem dX3_totalPayments_23 : decode cX3_totalPayments 23 = .ok (.istore_n 1, 1) := by decide +kernel
theorem dX3_totalPayments_24 : decode cX3_totalPayments 24 = .ok (.iinc 2 1, 3) := by decide +kernel
theorem dX3_totalPayments_27 : decode cX3_totalPayments 27 = .ok (.goto (-23), 3) := by decide +kernel
theorem dX3_totalPayments_30 : decode cX3_totalPayments 30 = .ok (.iload_n 1, 1) := by decide +kernel
theorem dX3_totalPayments_31 : decode cX3_totalPayments 31 = .ok (.ireturn, 1) := by decide +kernel
theorem dX3_paymentsTo_0 : decode cX3_paymentsTo 0 = .ok (.iconst 0, 1) := by decide +kernel
theorem dX3_paymentsTo_1 : decode cX3_paymentsTo 1 = .ok (.istore_n 2, 1) := by decide +kernel
theorem dX3_paymentsTo_2 : decode cX3_paymentsTo 2 = .ok (.iconst 0, 1) := by decide +kernel
theorem dX3_paymentsTo_3 : decode cX3_paymentsTo 3 = .ok (.istore_n 3, 1) := by decide +kernel
theorem dX3_paymentsTo_4 : decode cX3_paymentsTo 4 = .ok (.iload_n 3, 1) := by decide +kernel
theorem dX3_paymentsTo_5 : decode cX3_paymentsTo 5 = .ok (.aload_n 0, 1) := by decide +kernel
theorem dX3_paymentsTo_6 : decode cX3_paymentsTo 6 = .ok (.getfield 22, 3) := by decide +kernel
theorem dX3_paymentsTo_9 : decode cX3_paymentsTo 9 = .ok (.if_icmp .ge 34, 3) := by decide +kernel
theorem dX3_paymentsTo_12 : decode cX3_paymentsTo 12 = .ok (.aload_n 0, 1) := by decide +kernel
theorem dX3_paymentsTo_13 : decode cX3_paymentsTo 13 = .ok (.getfield 11, 3) := by decide +kernel
theorem dX3_paymentsTo_16 : decode cX3_paymentsTo 16 = .ok (.iload_n 3, 1) := by decide +kernel
theorem dX3_paymentsTo_17 : decode cX3_paymentsTo 17 = .ok (.aaload, 1) := by decide +kernel
theorem dX3_paymentsTo_18 : decode cX3_paymentsTo 18 = .ok (.getfield 45, 3) := by decide +kernel
theorem dX3_paymentsTo_21 : decode cX3_paymentsTo 21 = .ok (.iload_n 1, 1) := by decide +kernel
theorem dX3_paymentsTo_22 : decode cX3_paymentsTo 22 = .ok (.if_icmp .ne 15, 3) := by decide +kernel
theorem dX3_paymentsTo_25 : decode cX3_paymentsTo 25 = .ok (.iload_n 2, 1) := by decide +kernel
theorem dX3_paymentsTo_26 : decode cX3_paymentsTo 26 = .ok (.aload_n 0, 1) := by decide +kernel
theorem dX3_paymentsTo_27 : decode cX3_paymentsTo 27 = .ok (.getfield 11, 3) := by decide +kernel
theorem dX3_paymentsTo_30 : decode cX3_paymentsTo 30 = .ok (.iload_n 3, 1) := by decide +kernel
theorem dX3_paymentsTo_31 : decode cX3_paymentsTo 31 = .ok (.aaload, 1) := by decide +kernel
theorem dX3_paymentsTo_32 : decode cX3_paymentsTo 32 = .ok (.getfield 36, 3) := by decide +kernel
theorem dX3_paymentsTo_35 : decode cX3_paymentsTo 35 = .ok (.iadd, 1) := by decide +kernel
theorem dX3_paymentsTo_36 : decode cX3_paymentsTo 36 = .ok (.istore_n 2, 1) := by decide +kernel
theorem dX3_paymentsTo_37 : decode cX3_paymentsTo 37 = .ok (.iinc 3 1, 3) := by decide +kernel
theorem dX3_paymentsTo_40 : decode cX3_paymentsTo 40 = .ok (.goto (-36), 3) := by decide +kernel
theorem dX3_paymentsTo_43 : decode cX3_paymentsTo 43 = .ok (.iload_n 2, 1) := by decide +kernel
theorem dX3_paymentsTo_44 : decode cX3_paymentsTo 44 = .ok (.ireturn, 1) := by decide +kernel
theorem dX3_hasUnpaidOf_0 : decode cX3_hasUnpaidOf 0 = .ok (.iconst 0, 1) := by decide +kernel
theorem dX3_hasUnpaidOf_1 : decode cX3_hasUnpaidOf 1 = .ok (.istore_n 2, 1) := by decide +kernel
theorem dX3_hasUnpaidOf_2 : decode cX3_hasUnpaidOf 2 = .ok (.iload_n 2, 1) := by decide +kernel
theorem dX3_hasUnpaidOf_3 : decode cX3_hasUnpaidOf 3 = .ok (.aload_n 0, 1) := by decide +kernel
theorem dX3_hasUnpaidOf_4 : decode cX3_hasUnpaidOf 4 = .ok (.getfield 22, 3) := by decide +kernel
theorem dX3_hasUnpaidOf_7 : decode cX3_hasUnpaidOf 7 = .ok (.if_icmp .ge 24, 3) := by decide +kernel
theorem dX3_hasUnpaidOf_10 : decode cX3_hasUnpaidOf 10 = .ok (.aload_n 0, 1) := by decide +kernel
theorem dX3_hasUnpaidOf_11 : decode cX3_hasUnpaidOf 11 = .ok (.getfield 11, 3) := by decide +kernel
theorem dX3_hasUnpaidOf_14 : decode cX3_hasUnpaidOf 14 = .ok (.iload_n 2, 1) := by decide +kernel
theorem dX3_hasUnpaidOf_15 : decode cX3_hasUnpaidOf 15 = .ok (.aaload, 1) := by decide +kernel
theorem dX3_hasUnpaidOf_16 : decode cX3_hasUnpaidOf 16 = .ok (.iload_n 1, 1) := by decide +kernel
theorem dX3_hasUnpaidOf_17 : decode cX3_hasUnpaidOf 17 = .ok (.invokevirtual 48, 3) := by decide +kernel
theorem dX3_hasUnpaidOf_20 : decode cX3_hasUnpaidOf 20 = .ok (.ifCond .eq 5, 3) := by decide +kernel
theorem dX3_hasUnpaidOf_23 : decode cX3_hasUnpaidOf 23 = .ok (.iconst 1, 1) := by decide +kernel
theorem dX3_hasUnpaidOf_24 : decode cX3_hasUnpaidOf 24 = .ok (.ireturn, 1) := by decide +kernel
theorem dX3_hasUnpaidOf_25 : decode cX3_hasUnpaidOf 25 = .ok (.iinc 2 1, 3) := by decide +kernel
theorem dX3_hasUnpaidOf_28 : decode cX3_hasUnpaidOf 28 = .ok (.goto (-26), 3) := by decide +kernel
theorem dX3_hasUnpaidOf_31 : decode cX3_hasUnpaidOf 31 = .ok (.iconst 0, 1) := by decide +kernel
theorem dX3_hasUnpaidOf_32 : decode cX3_hasUnpaidOf 32 = .ok (.ireturn, 1) := by decide +kernel
theorem dX3_hasVarietyFrom_0 : decode cX3_hasVarietyFrom 0 = .ok (.iconst 0, 1) := by decide +kernel
theorem dX3_hasVarietyFrom_1 : decode cX3_hasVarietyFrom 1 = .ok (.istore_n 3, 1) := by decide +kernel
theorem dX3_hasVarietyFrom_2 : decode cX3_hasVarietyFrom 2 = .ok (.iload_n 3, 1) := by decide +kernel
theorem dX3_hasVarietyFrom_3 : decode cX3_hasVarietyFrom 3 = .ok (.aload_n 0, 1) := by decide +kernel
theorem dX3_hasVarietyFrom_4 : decode cX3_hasVarietyFrom 4 = .ok (.getfield 22, 3) := by decide +kernel
theorem dX3_hasVarietyFrom_7 : decode cX3_hasVarietyFrom 7 = .ok (.if_icmp .ge 37, 3) := by decide +kernel
theorem dX3_hasVarietyFrom_10 : decode cX3_hasVarietyFrom 10 = .ok (.aload_n 0, 1) := by decide +kernel
theorem dX3_hasVarietyFrom_11 : decode cX3_hasVarietyFrom 11 = .ok (.getfield 11, 3) := by decide +kernel
theorem dX3_hasVarietyFrom_14 : decode cX3_hasVarietyFrom 14 = .ok (.iload_n 3, 1) := by decide +kernel
theorem dX3_hasVarietyFrom_15 : decode cX3_hasVarietyFrom 15 = .ok (.aaload, 1) := by decide +kernel
theorem dX3_hasVarietyFrom_16 : decode cX3_hasVarietyFrom 16 = .ok (.getfield 52, 3) := by decide +kernel
theorem dX3_hasVarietyFrom_19 : decode cX3_hasVarietyFrom 19 = .ok (.iload_n 1, 1) := by decide +kernel
theorem dX3_hasVarietyFrom_20 : decode cX3_hasVarietyFrom 20 = .ok (.if_icmp .ne 18, 3) := by decide +kernel
theorem dX3_hasVarietyFrom_23 : decode cX3_hasVarietyFrom 23 = .ok (.aload_n 0, 1) := by decide +kernel
theorem dX3_hasVarietyFrom_24 : decode cX3_hasVarietyFrom 24 = .ok (.getfield 11, 3) := by decide +kernel
theorem dX3_hasVarietyFrom_27 : decode cX3_hasVarietyFrom 27 = .ok (.iload_n 3, 1) := by decide +kernel
theorem dX3_hasVarietyFrom_28 : decode cX3_hasVarietyFrom 28 = .ok (.aaload, 1) := by decide +kernel
theorem dX3_hasVarietyFrom_29 : decode cX3_hasVarietyFrom 29 = .ok (.getfield 45, 3) := by decide +kernel
theorem dX3_hasVarietyFrom_32 : decode cX3_hasVarietyFrom 32 = .ok (.iload_n 2, 1) := by decide +kernel
theorem dX3_hasVarietyFrom_33 : decode cX3_hasVarietyFrom 33 = .ok (.if_icmp .ne 5, 3) := by decide +kernel
theorem dX3_hasVarietyFrom_36 : decode cX3_hasVarietyFrom 36 = .ok (.iconst 1, 1) := by decide +kernel
theorem dX3_hasVarietyFrom_37 : decode cX3_hasVarietyFrom 37 = .ok (.ireturn, 1) := by decide +kernel
theorem dX3_hasVarietyFrom_38 : decode cX3_hasVarietyFrom 38 = .ok (.iinc 3 1, 3) := by decide +kernel
theorem dX3_hasVarietyFrom_41 : decode cX3_hasVarietyFrom 41 = .ok (.goto (-39), 3) := by decide +kernel
theorem dX3_hasVarietyFrom_44 : decode cX3_hasVarietyFrom 44 = .ok (.iconst 0, 1) := by decide +kernel
theorem dX3_hasVarietyFrom_45 : decode cX3_hasVarietyFrom 45 = .ok (.ireturn, 1) := by decide +kernel
theorem dX3_weightFromPlot_0 : decode cX3_weightFromPlot 0 = .ok (.iconst 0, 1) := by decide +kernel
theorem dX3_weightFromPlot_1 : decode cX3_weightFromPlot 1 = .ok (.istore_n 2, 1) := by decide +kernel
theorem dX3_weightFromPlot_2 : decode cX3_weightFromPlot 2 = .ok (.iconst 0, 1) := by decide +kernel
theorem dX3_weightFromPlot_3 : decode cX3_weightFromPlot 3 = .ok (.istore_n 3, 1) := by decide +kernel
theorem dX3_weightFromPlot_4 : decode cX3_weightFromPlot 4 = .ok (.iload_n 3, 1) := by decide +kernel
theorem dX3_weightFromPlot_5 : decode cX3_weightFromPlot 5 = .ok (.aload_n 0, 1) := by decide +kernel
theorem dX3_weightFromPlot_6 : decode cX3_weightFromPlot 6 = .ok (.getfield 22, 3) := by decide +kernel
theorem dX3_weightFromPlot_9 : decode cX3_weightFromPlot 9 = .ok (.if_icmp .ge 34, 3) := by decide +kernel
theorem dX3_weightFromPlot_12 : decode cX3_weightFromPlot 12 = .ok (.aload_n 0, 1) := by decide +kernel
theorem dX3_weightFromPlot_13 : decode cX3_weightFromPlot 13 = .ok (.getfield 11, 3) := by decide +kernel
theorem dX3_weightFromPlot_16 : decode cX3_weightFromPlot 16 = .ok (.iload_n 3, 1) := by decide +kernel
theorem dX3_weightFromPlot_17 : decode cX3_weightFromPlot 17 = .ok (.aaload, 1) := by decide +kernel
theorem dX3_weightFromPlot_18 : decode cX3_weightFromPlot 18 = .ok (.getfield 55, 3) := by decide +kernel
theorem dX3_weightFromPlot_21 : decode cX3_weightFromPlot 21 = .ok (.iload_n 1, 1) := by decide +kernel
theorem dX3_weightFromPlot_22 : decode cX3_weightFromPlot 22 = .ok (.if_icmp .ne 15, 3) := by decide +kernel
theorem dX3_weightFromPlot_25 : decode cX3_weightFromPlot 25 = .ok (.iload_n 2, 1) := by decide +kernel
theorem dX3_weightFromPlot_26 : decode cX3_weightFromPlot 26 = .ok (.aload_n 0, 1) := by decide +kernel
theorem dX3_weightFromPlot_27 : decode cX3_weightFromPlot 27 = .ok (.getfield 11, 3) := by decide +kernel
theorem dX3_weightFromPlot_30 : decode cX3_weightFromPlot 30 = .ok (.iload_n 3, 1) := by decide +kernel
theorem dX3_weightFromPlot_31 : decode cX3_weightFromPlot 31 = .ok (.aaload, 1) := by decide +kernel
theorem dX3_weightFromPlot_32 : decode cX3_weightFromPlot 32 = .ok (.getfield 39, 3) := by decide +kernel
theorem dX3_weightFromPlot_35 : decode cX3_weightFromPlot 35 = .ok (.iadd, 1) := by decide +kernel
theorem dX3_weightFromPlot_36 : decode cX3_weightFromPlot 36 = .ok (.istore_n 2, 1) := by decide +kernel
theorem dX3_weightFromPlot_37 : decode cX3_weightFromPlot 37 = .ok (.iinc 3 1, 3) := by decide +kernel
theorem dX3_weightFromPlot_40 : decode cX3_weightFromPlot 40 = .ok (.goto (-36), 3) := by decide +kernel
theorem dX3_weightFromPlot_43 : decode cX3_weightFromPlot 43 = .ok (.iload_n 2, 1) := by decide +kernel
theorem dX3_weightFromPlot_44 : decode cX3_weightFromPlot 44 = .ok (.ireturn, 1) := by decide +kernel
theorem dX3_weightFromGrower_0 : decode cX3_weightFromGrower 0 = .ok (.iconst 0, 1) := by decide +kernel
theorem dX3_weightFromGrower_1 : decode cX3_weightFromGrower 1 = .ok (.istore_n 2, 1) := by decide +kernel
theorem dX3_weightFromGrower_2 : decode cX3_weightFromGrower 2 = .ok (.iconst 0, 1) := by decide +kernel
theorem dX3_weightFromGrower_3 : decode cX3_weightFromGrower 3 = .ok (.istore_n 3, 1) := by decide +kernel
theorem dX3_weightFromGrower_4 : decode cX3_weightFromGrower 4 = .ok (.iload_n 3, 1) := by decide +kernel
theorem dX3_weightFromGrower_5 : decode cX3_weightFromGrower 5 = .ok (.aload_n 0, 1) := by decide +kernel
theorem dX3_weightFromGrower_6 : decode cX3_weightFromGrower 6 = .ok (.getfield 22, 3) := by decide +kernel
theorem dX3_weightFromGrower_9 : decode cX3_weightFromGrower 9 = .ok (.if_icmp .ge 34, 3) := by decide +kernel
theorem dX3_weightFromGrower_12 : decode cX3_weightFromGrower 12 = .ok (.aload_n 0, 1) := by decide +kernel
theorem dX3_weightFromGrower_13 : decode cX3_weightFromGrower 13 = .ok (.getfield 11, 3) := by decide +kernel
theorem dX3_weightFromGrower_16 : decode cX3_weightFromGrower 16 = .ok (.iload_n 3, 1) := by decide +kernel
theorem dX3_weightFromGrower_17 : decode cX3_weightFromGrower 17 = .ok (.aaload, 1) := by decide +kernel
theorem dX3_weightFromGrower_18 : decode cX3_weightFromGrower 18 = .ok (.getfield 45, 3) := by decide +kernel
theorem dX3_weightFromGrower_21 : decode cX3_weightFromGrower 21 = .ok (.iload_n 1, 1) := by decide +kernel
theorem dX3_weightFromGrower_22 : decode cX3_weightFromGrower 22 = .ok (.if_icmp .ne 15, 3) := by decide +kernel
theorem dX3_weightFromGrower_25 : decode cX3_weightFromGrower 25 = .ok (.iload_n 2, 1) := by decide +kernel
theorem dX3_weightFromGrower_26 : decode cX3_weightFromGrower 26 = .ok (.aload_n 0, 1) := by decide +kernel
theorem dX3_weightFromGrower_27 : decode cX3_weightFromGrower 27 = .ok (.getfield 11, 3) := by decide +kernel
theorem dX3_weightFromGrower_30 : decode cX3_weightFromGrower 30 = .ok (.iload_n 3, 1) := by decide +kernel
theorem dX3_weightFromGrower_31 : decode cX3_weightFromGrower 31 = .ok (.aaload, 1) := by decide +kernel
theorem dX3_weightFromGrower_32 : decode cX3_weightFromGrower 32 = .ok (.getfield 39, 3) := by decide +kernel
theorem dX3_weightFromGrower_35 : decode cX3_weightFromGrower 35 = .ok (.iadd, 1) := by decide +kernel
theorem dX3_weightFromGrower_36 : decode cX3_weightFromGrower 36 = .ok (.istore_n 2, 1) := by decide +kernel
theorem dX3_weightFromGrower_37 : decode cX3_weightFromGrower 37 = .ok (.iinc 3 1, 3) := by decide +kernel
theorem dX3_weightFromGrower_40 : decode cX3_weightFromGrower 40 = .ok (.goto (-36), 3) := by decide +kernel
theorem dX3_weightFromGrower_43 : decode cX3_weightFromGrower 43 = .ok (.iload_n 2, 1) := by decide +kernel
theorem dX3_weightFromGrower_44 : decode cX3_weightFromGrower 44 = .ok (.ireturn, 1) := by decide +kernel
theorem dX3_weightOfPair_0 : decode cX3_weightOfPair 0 = .ok (.iconst 0, 1) := by decide +kernel
theorem dX3_weightOfPair_1 : decode cX3_weightOfPair 1 = .ok (.istore_n 3, 1) := by decide +kernel
theorem dX3_weightOfPair_2 : decode cX3_weightOfPair 2 = .ok (.iconst 0, 1) := by decide +kernel
theorem dX3_weightOfPair_3 : decode cX3_weightOfPair 3 = .ok (.istore 4, 2) := by decide +kernel
theorem dX3_weightOfPair_5 : decode cX3_weightOfPair 5 = .ok (.iload 4, 2) := by decide +kernel
theorem dX3_weightOfPair_7 : decode cX3_weightOfPair 7 = .ok (.aload_n 0, 1) := by decide +kernel
theorem dX3_weightOfPair_8 : decode cX3_weightOfPair 8 = .ok (.getfield 22, 3) := by decide +kernel
theorem dX3_weightOfPair_11 : decode cX3_weightOfPair 11 = .ok (.if_icmp .ge 37, 3) := by decide +kernel
theorem dX3_weightOfPair_14 : decode cX3_weightOfPair 14 = .ok (.aload_n 0, 1) := by decide +kernel
theorem dX3_weightOfPair_15 : decode cX3_weightOfPair 15 = .ok (.getfield 11, 3) := by decide +kernel
theorem dX3_weightOfPair_18 : decode cX3_weightOfPair 18 = .ok (.iload 4, 2) := by decide +kernel
theorem dX3_weightOfPair_20 : decode cX3_weightOfPair 20 = .ok (.aaload, 1) := by decide +kernel
theorem dX3_weightOfPair_21 : decode cX3_weightOfPair 21 = .ok (.iload_n 1, 1) := by decide +kernel
theorem dX3_weightOfPair_22 : decode cX3_weightOfPair 22 = .ok (.iload_n 2, 1) := by decide +kernel
theorem dX3_weightOfPair_23 : decode cX3_weightOfPair 23 = .ok (.invokevirtual 58, 3) := by decide +kernel
theorem dX3_weightOfPair_26 : decode cX3_weightOfPair 26 = .ok (.ifCond .eq 16, 3) := by decide +kernel
theorem dX3_weightOfPair_29 : decode cX3_weightOfPair 29 = .ok (.iload_n 3, 1) := by decide +kernel
theorem dX3_weightOfPair_30 : decode cX3_weightOfPair 30 = .ok (.aload_n 0, 1) := by decide +kernel
theorem dX3_weightOfPair_31 : decode cX3_weightOfPair 31 = .ok (.getfield 11, 3) := by decide +kernel
theorem dX3_weightOfPair_34 : decode cX3_weightOfPair 34 = .ok (.iload 4, 2) := by decide +kernel
theorem dX3_weightOfPair_36 : decode cX3_weightOfPair 36 = .ok (.aaload, 1) := by decide +kernel
theorem dX3_weightOfPair_37 : decode cX3_weightOfPair 37 = .ok (.getfield 39, 3) := by decide +kernel
theorem dX3_weightOfPair_40 : decode cX3_weightOfPair 40 = .ok (.iadd, 1) := by decide +kernel
theorem dX3_weightOfPair_41 : decode cX3_weightOfPair 41 = .ok (.istore_n 3, 1) := by decide +kernel
theorem dX3_weightOfPair_42 : decode cX3_weightOfPair 42 = .ok (.iinc 4 1, 3) := by decide +kernel
theorem dX3_weightOfPair_45 : decode cX3_weightOfPair 45 = .ok (.goto (-40), 3) := by decide +kernel
theorem dX3_weightOfPair_48 : decode cX3_weightOfPair 48 = .ok (.iload_n 3, 1) := by decide +kernel
theorem dX3_weightOfPair_49 : decode cX3_weightOfPair 49 = .ok (.ireturn, 1) := by decide +kernel
theorem dX3_isNewPair_0 : decode cX3_isNewPair 0 = .ok (.iconst 0, 1) := by decide +kernel
theorem dX3_isNewPair_1 : decode cX3_isNewPair 1 = .ok (.istore_n 3, 1) := by decide +kernel
theorem dX3_isNewPair_2 : decode cX3_isNewPair 2 = .ok (.iload_n 3, 1) := by decide +kernel
theorem dX3_isNewPair_3 : decode cX3_isNewPair 3 = .ok (.iload_n 2, 1) := by decide +kernel
theorem dX3_isNewPair_4 : decode cX3_isNewPair 4 = .ok (.if_icmp .ge 39, 3) := by decide +kernel
theorem dX3_isNewPair_7 : decode cX3_isNewPair 7 = .ok (.iload_n 3, 1) := by decide +kernel
theorem dX3_isNewPair_8 : decode cX3_isNewPair 8 = .ok (.aload_n 0, 1) := by decide +kernel
theorem dX3_isNewPair_9 : decode cX3_isNewPair 9 = .ok (.getfield 22, 3) := by decide +kernel
theorem dX3_isNewPair_12 : decode cX3_isNewPair 12 = .ok (.if_icmp .ge 31, 3) := by decide +kernel
theorem dX3_isNewPair_15 : decode cX3_isNewPair 15 = .ok (.aload_n 0, 1) := by decide +kernel
theorem dX3_isNewPair_16 : decode cX3_isNewPair 16 = .ok (.getfield 11, 3) := by decide +kernel
theorem dX3_isNewPair_19 : decode cX3_isNewPair 19 = .ok (.iload_n 3, 1) := by decide +kernel
theorem dX3_isNewPair_20 : decode cX3_isNewPair 20 = .ok (.aaload, 1) := by decide +kernel
theorem dX3_isNewPair_21 : decode cX3_isNewPair 21 = .ok (.aload_n 1, 1) := by decide +kernel
theorem dX3_isNewPair_22 : decode cX3_isNewPair 22 = .ok (.getfield 52, 3) := by decide +kernel
theorem dX3_isNewPair_25 : decode cX3_isNewPair 25 = .ok (.aload_n 1, 1) := by decide +kernel
theorem dX3_isNewPair_26 : decode cX3_isNewPair 26 = .ok (.getfield 62, 3) := by decide +kernel
theorem dX3_isNewPair_29 : decode cX3_isNewPair 29 = .ok (.invokevirtual 58, 3) := by decide +kernel
theorem dX3_isNewPair_32 : decode cX3_isNewPair 32 = .ok (.ifCond .eq 5, 3) := by decide +kernel
theorem dX3_isNewPair_35 : decode cX3_isNewPair 35 = .ok (.iconst 0, 1) := by decide +kernel
theorem dX3_isNewPair_36 : decode cX3_isNewPair 36 = .ok (.ireturn, 1) := by decide +kernel
theorem dX3_isNewPair_37 : decode cX3_isNewPair 37 = .ok (.iinc 3 1, 3) := by decide +kernel
theorem dX3_isNewPair_40 : decode cX3_isNewPair 40 = .ok (.goto (-38), 3) := by decide +kernel
theorem dX3_isNewPair_43 : decode cX3_isNewPair 43 = .ok (.iconst 1, 1) := by decide +kernel
theorem dX3_isNewPair_44 : decode cX3_isNewPair 44 = .ok (.ireturn, 1) := by decide +kernel
theorem dX3_countPairs_0 : decode cX3_countPairs 0 = .ok (.iconst 0, 1) := by decide +kernel
theorem dX3_countPairs_1 : decode cX3_countPairs 1 = .ok (.istore_n 1, 1) := by decide +kernel
theorem dX3_countPairs_2 : decode cX3_countPairs 2 = .ok (.iconst 0, 1) := by decide +kernel
theorem dX3_countPairs_3 : decode cX3_countPairs 3 = .ok (.istore_n 2, 1) := by decide +kernel
theorem dX3_countPairs_4 : decode cX3_countPairs 4 = .ok (.iload_n 2, 1) := by decide +kernel
theorem dX3_countPairs_5 : decode cX3_countPairs 5 = .ok (.aload_n 0, 1) := by decide +kernel
theorem dX3_countPairs_6 : decode cX3_countPairs 6 = .ok (.getfield 22, 3) := by decide +kernel
theorem dX3_countPairs_9 : decode cX3_countPairs 9 = .ok (.if_icmp .ge 26, 3) := by decide +kernel
theorem dX3_countPairs_12 : decode cX3_countPairs 12 = .ok (.aload_n 0, 1) := by decide +kernel
theorem dX3_countPairs_13 : decode cX3_countPairs 13 = .ok (.aload_n 0, 1) := by decide +kernel
theorem dX3_countPairs_14 : decode cX3_countPairs 14 = .ok (.getfield 11, 3) := by decide +kernel
theorem dX3_countPairs_17 : decode cX3_countPairs 17 = .ok (.iload_n 2, 1) := by decide +kernel
theorem dX3_countPairs_18 : decode cX3_countPairs 18 = .ok (.aaload, 1) := by decide +kernel
theorem dX3_countPairs_19 : decode cX3_countPairs 19 = .ok (.iload_n 2, 1) := by decide +kernel
theorem dX3_countPairs_20 : decode cX3_countPairs 20 = .ok (.invokevirtual 65, 3) := by decide +kernel
theorem dX3_countPairs_23 : decode cX3_countPairs 23 = .ok (.ifCond .eq 6, 3) := by decide +kernel
theorem dX3_countPairs_26 : decode cX3_countPairs 26 = .ok (.iinc 1 1, 3) := by decide +kernel
theorem dX3_countPairs_29 : decode cX3_countPairs 29 = .ok (.iinc 2 1, 3) := by decide +kernel
theorem dX3_countPairs_32 : decode cX3_countPairs 32 = .ok (.goto (-28), 3) := by decide +kernel
theorem dX3_countPairs_35 : decode cX3_countPairs 35 = .ok (.iload_n 1, 1) := by decide +kernel
theorem dX3_countPairs_36 : decode cX3_countPairs 36 = .ok (.ireturn, 1) := by decide +kernel
theorem dX3_pairAtRank_0 : decode cX3_pairAtRank 0 = .ok (.iconst 0, 1) := by decide +kernel
theorem dX3_pairAtRank_1 : decode cX3_pairAtRank 1 = .ok (.istore_n 2, 1) := by decide +kernel
theorem dX3_pairAtRank_2 : decode cX3_pairAtRank 2 = .ok (.iconst 0, 1) := by decide +kernel
theorem dX3_pairAtRank_3 : decode cX3_pairAtRank 3 = .ok (.istore_n 3, 1) := by decide +kernel
theorem dX3_pairAtRank_4 : decode cX3_pairAtRank 4 = .ok (.iload_n 3, 1) := by decide +kernel
theorem dX3_pairAtRank_5 : decode cX3_pairAtRank 5 = .ok (.aload_n 0, 1) := by decide +kernel
theorem dX3_pairAtRank_6 : decode cX3_pairAtRank 6 = .ok (.getfield 22, 3) := by decide +kernel
theorem dX3_pairAtRank_9 : decode cX3_pairAtRank 9 = .ok (.if_icmp .ge 41, 3) := by decide +kernel
theorem dX3_pairAtRank_12 : decode cX3_pairAtRank 12 = .ok (.aload_n 0, 1) := by decide +kernel
theorem dX3_pairAtRank_13 : decode cX3_pairAtRank 13 = .ok (.aload_n 0, 1) := by decide +kernel
theorem dX3_pairAtRank_14 : decode cX3_pairAtRank 14 = .ok (.getfield 11, 3) := by decide +kernel
theorem dX3_pairAtRank_17 : decode cX3_pairAtRank 17 = .ok (.iload_n 3, 1) := by decide +kernel
theorem dX3_pairAtRank_18 : decode cX3_pairAtRank 18 = .ok (.aaload, 1) := by decide +kernel
theorem dX3_pairAtRank_19 : decode cX3_pairAtRank 19 = .ok (.iload_n 3, 1) := by decide +kernel
theorem dX3_pairAtRank_20 : decode cX3_pairAtRank 20 = .ok (.invokevirtual 65, 3) := by decide +kernel
theorem dX3_pairAtRank_23 : decode cX3_pairAtRank 23 = .ok (.ifCond .eq 21, 3) := by decide +kernel
theorem dX3_pairAtRank_26 : decode cX3_pairAtRank 26 = .ok (.iload_n 2, 1) := by decide +kernel
theorem dX3_pairAtRank_27 : decode cX3_pairAtRank 27 = .ok (.iload_n 1, 1) := by decide +kernel
theorem dX3_pairAtRank_28 : decode cX3_pairAtRank 28 = .ok (.if_icmp .ne 13, 3) := by decide +kernel
theorem dX3_pairAtRank_31 : decode cX3_pairAtRank 31 = .ok (.aload_n 0, 1) := by decide +kernel
theorem dX3_pairAtRank_32 : decode cX3_pairAtRank 32 = .ok (.getfield 11, 3) := by decide +kernel
theorem dX3_pairAtRank_35 : decode cX3_pairAtRank 35 = .ok (.iload_n 3, 1) := by decide +kernel
theorem dX3_pairAtRank_36 : decode cX3_pairAtRank 36 = .ok (.aaload, 1) := by decide +kernel
theorem dX3_pairAtRank_37 : decode cX3_pairAtRank 37 = .ok (.invokevirtual 69, 3) := by decide +kernel
theorem dX3_pairAtRank_40 : decode cX3_pairAtRank 40 = .ok (.ireturn, 1) := by decide +kernel
theorem dX3_pairAtRank_41 : decode cX3_pairAtRank 41 = .ok (.iinc 2 1, 3) := by decide +kernel
theorem dX3_pairAtRank_44 : decode cX3_pairAtRank 44 = .ok (.iinc 3 1, 3) := by decide +kernel
theorem dX3_pairAtRank_47 : decode cX3_pairAtRank 47 = .ok (.goto (-43), 3) := by decide +kernel
theorem dX3_pairAtRank_50 : decode cX3_pairAtRank 50 = .ok (.iconst (-1), 1) := by decide +kernel
theorem dX3_pairAtRank_51 : decode cX3_pairAtRank 51 = .ok (.ireturn, 1) := by decide +kernel
theorem dX3_heaviestPair_0 : decode cX3_heaviestPair 0 = .ok (.iconst (-1), 1) := by decide +kernel
theorem dX3_heaviestPair_1 : decode cX3_heaviestPair 1 = .ok (.istore_n 1, 1) := by decide +kernel
theorem dX3_heaviestPair_2 : decode cX3_heaviestPair 2 = .ok (.iconst 0, 1) := by decide +kernel
theorem dX3_heaviestPair_3 : decode cX3_heaviestPair 3 = .ok (.istore_n 2, 1) := by decide +kernel
theorem dX3_heaviestPair_4 : decode cX3_heaviestPair 4 = .ok (.iconst 0, 1) := by decide +kernel
theorem dX3_heaviestPair_5 : decode cX3_heaviestPair 5 = .ok (.istore_n 3, 1) := by decide +kernel
theorem dX3_heaviestPair_6 : decode cX3_heaviestPair 6 = .ok (.iload_n 3, 1) := by decide +kernel
theorem dX3_heaviestPair_7 : decode cX3_heaviestPair 7 = .ok (.aload_n 0, 1) := by decide +kernel
theorem dX3_heaviestPair_8 : decode cX3_heaviestPair 8 = .ok (.getfield 22, 3) := by decide +kernel
theorem dX3_heaviestPair_11 : decode cX3_heaviestPair 11 = .ok (.if_icmp .ge 52, 3) := by decide +kernel
theorem dX3_heaviestPair_14 : decode cX3_heaviestPair 14 = .ok (.aload_n 0, 1) := by decide +kernel
theorem dX3_heaviestPair_15 : decode cX3_heaviestPair 15 = .ok (.aload_n 0, 1) := by decide +kernel
theorem dX3_heaviestPair_16 : decode cX3_heaviestPair 16 = .ok (.getfield 11, 3) := by decide +kernel
theorem dX3_heaviestPair_19 : decode cX3_heaviestPair 19 = .ok (.iload_n 3, 1) := by decide +kernel
theorem dX3_heaviestPair_20 : decode cX3_heaviestPair 20 = .ok (.aaload, 1) := by decide +kernel
theorem dX3_heaviestPair_21 : decode cX3_heaviestPair 21 = .ok (.getfield 52, 3) := by decide +kernel
theorem dX3_heaviestPair_24 : decode cX3_heaviestPair 24 = .ok (.aload_n 0, 1) := by decide +kernel
theorem dX3_heaviestPair_25 : decode cX3_heaviestPair 25 = .ok (.getfield 11, 3) := by decide +kernel
theorem dX3_heaviestPair_28 : decode cX3_heaviestPair 28 = .ok (.iload_n 3, 1) := by decide +kernel
theorem dX3_heaviestPair_29 : decode cX3_heaviestPair 29 = .ok (.aaload, 1) := by decide +kernel
theorem dX3_heaviestPair_30 : decode cX3_heaviestPair 30 = .ok (.getfield 62, 3) := by decide +kernel
theorem dX3_heaviestPair_33 : decode cX3_heaviestPair 33 = .ok (.invokevirtual 73, 3) := by decide +kernel
theorem dX3_heaviestPair_36 : decode cX3_heaviestPair 36 = .ok (.istore 4, 2) := by decide +kernel
theorem dX3_heaviestPair_38 : decode cX3_heaviestPair 38 = .ok (.iload 4, 2) := by decide +kernel
theorem dX3_heaviestPair_40 : decode cX3_heaviestPair 40 = .ok (.iload_n 2, 1) := by decide +kernel
theorem dX3_heaviestPair_41 : decode cX3_heaviestPair 41 = .ok (.if_icmp .le 16, 3) := by decide +kernel
theorem dX3_heaviestPair_44 : decode cX3_heaviestPair 44 = .ok (.iload 4, 2) := by decide +kernel
theorem dX3_heaviestPair_46 : decode cX3_heaviestPair 46 = .ok (.istore_n 2, 1) := by decide +kernel
theorem dX3_heaviestPair_47 : decode cX3_heaviestPair 47 = .ok (.aload_n 0, 1) := by decide +kernel
theorem dX3_heaviestPair_48 : decode cX3_heaviestPair 48 = .ok (.getfield 11, 3) := by decide +kernel
theorem dX3_heaviestPair_51 : decode cX3_heaviestPair 51 = .ok (.iload_n 3, 1) := by decide +kernel
theorem dX3_heaviestPair_52 : decode cX3_heaviestPair 52 = .ok (.aaload, 1) := by decide +kernel
theorem dX3_heaviestPair_53 : decode cX3_heaviestPair 53 = .ok (.invokevirtual 69, 3) := by decide +kernel
theorem dX3_heaviestPair_56 : decode cX3_heaviestPair 56 = .ok (.istore_n 1, 1) := by decide +kernel
theorem dX3_heaviestPair_57 : decode cX3_heaviestPair 57 = .ok (.iinc 3 1, 3) := by decide +kernel
theorem dX3_heaviestPair_60 : decode cX3_heaviestPair 60 = .ok (.goto (-54), 3) := by decide +kernel
theorem dX3_heaviestPair_63 : decode cX3_heaviestPair 63 = .ok (.iload_n 1, 1) := by decide +kernel
theorem dX3_heaviestPair_64 : decode cX3_heaviestPair 64 = .ok (.ireturn, 1) := by decide +kernel
theorem dX4_init_0 : decode cX4_init 0 = .ok (.aload_n 0, 1) := by decide +kernel
theorem dX4_init_1 : decode cX4_init 1 = .ok (.invokespecial 3, 3) := by decide +kernel
theorem dX4_init_4 : decode cX4_init 4 = .ok (.aload_n 0, 1) := by decide +kernel
theorem dX4_init_5 : decode cX4_init 5 = .ok (.bipush 6, 2) := by decide +kernel
theorem dX4_init_7 : decode cX4_init 7 = .ok (.anewarray 9, 3) := by decide +kernel
theorem dX4_init_10 : decode cX4_init 10 = .ok (.putfield 11, 3) := by decide +kernel
theorem dX4_init_13 : decode cX4_init 13 = .ok (.iconst 0, 1) := by decide +kernel
theorem dX4_init_14 : decode cX4_init 14 = .ok (.istore_n 1, 1) := by decide +kernel
theorem dX4_init_15 : decode cX4_init 15 = .ok (.iload_n 1, 1) := by decide +kernel
theorem dX4_init_16 : decode cX4_init 16 = .ok (.bipush 6, 2) := by decide +kernel
theorem dX4_init_18 : decode cX4_init 18 = .ok (.if_icmp .ge 22, 3) := by decide +kernel
theorem dX4_init_21 : decode cX4_init 21 = .ok (.aload_n 0, 1) := by decide +kernel
theorem dX4_init_22 : decode cX4_init 22 = .ok (.getfield 11, 3) := by decide +kernel
theorem dX4_init_25 : decode cX4_init 25 = .ok (.iload_n 1, 1) := by decide +kernel
theorem dX4_init_26 : decode cX4_init 26 = .ok (.new 9, 3) := by decide +kernel
theorem dX4_init_29 : decode cX4_init 29 = .ok (.dup, 1) := by decide +kernel
theorem dX4_init_30 : decode cX4_init 30 = .ok (.invokespecial 17, 3) := by decide +kernel
theorem dX4_init_33 : decode cX4_init 33 = .ok (.aastore, 1) := by decide +kernel
theorem dX4_init_34 : decode cX4_init 34 = .ok (.iinc 1 1, 3) := by decide +kernel
theorem dX4_init_37 : decode cX4_init 37 = .ok (.goto (-22), 3) := by decide +kernel
theorem dX4_init_40 : decode cX4_init 40 = .ok (.return_, 1) := by decide +kernel
theorem dX4_note_0 : decode cX4_note 0 = .ok (.aload_n 0, 1) := by decide +kernel
theorem dX4_note_1 : decode cX4_note 1 = .ok (.getfield 11, 3) := by decide +kernel
theorem dX4_note_4 : decode cX4_note 4 = .ok (.aload_n 0, 1) := by decide +kernel
theorem dX4_note_5 : decode cX4_note 5 = .ok (.getfield 18, 3) := by decide +kernel
theorem dX4_note_8 : decode cX4_note 8 = .ok (.aaload, 1) := by decide +kernel
theorem dX4_note_9 : decode cX4_note 9 = .ok (.aload_n 1, 1) := by decide +kernel
theorem dX4_note_10 : decode cX4_note 10 = .ok (.invokevirtual 22, 3) := by decide +kernel
theorem dX4_note_13 : decode cX4_note 13 = .ok (.aload_n 0, 1) := by decide +kernel
theorem dX4_note_14 : decode cX4_note 14 = .ok (.aload_n 0, 1) := by decide +kernel
theorem dX4_note_15 : decode cX4_note 15 = .ok (.getfield 18, 3) := by decide +kernel
theorem dX4_note_18 : decode cX4_note 18 = .ok (.iconst 1, 1) := by decide +kernel
theorem dX4_note_19 : decode cX4_note 19 = .ok (.iadd, 1) := by decide +kernel
theorem dX4_note_20 : decode cX4_note 20 = .ok (.bipush 6, 2) := by decide +kernel
theorem dX4_note_22 : decode cX4_note 22 = .ok (.irem, 1) := by decide +kernel
theorem dX4_note_23 : decode cX4_note 23 = .ok (.putfield 18, 3) := by decide +kernel
theorem dX4_note_26 : decode cX4_note 26 = .ok (.aload_n 0, 1) := by decide +kernel
theorem dX4_note_27 : decode cX4_note 27 = .ok (.aload_n 0, 1) := by decide +kernel
theorem dX4_note_28 : decode cX4_note 28 = .ok (.getfield 26, 3) := by decide +kernel
theorem dX4_note_31 : decode cX4_note 31 = .ok (.iconst 1, 1) := by decide +kernel
theorem dX4_note_32 : decode cX4_note 32 = .ok (.iadd, 1) := by decide +kernel
theorem dX4_note_33 : decode cX4_note 33 = .ok (.bipush 6, 2) := by decide +kernel
theorem dX4_note_35 : decode cX4_note 35 = .ok (.invokestatic 29, 3) := by decide +kernel
theorem dX4_note_38 : decode cX4_note 38 = .ok (.putfield 26, 3) := by decide +kernel
theorem dX4_note_41 : decode cX4_note 41 = .ok (.return_, 1) := by decide +kernel
theorem dX4_bringBack_0 : decode cX4_bringBack 0 = .ok (.aload_n 0, 1) := by decide +kernel
theorem dX4_bringBack_1 : decode cX4_bringBack 1 = .ok (.aload_n 0, 1) := by decide +kernel
theorem dX4_bringBack_2 : decode cX4_bringBack 2 = .ok (.getfield 18, 3) := by decide +kernel
theorem dX4_bringBack_5 : decode cX4_bringBack 5 = .ok (.bipush 6, 2) := by decide +kernel
theorem dX4_bringBack_7 : decode cX4_bringBack 7 = .ok (.iadd, 1) := by decide +kernel
theorem dX4_bringBack_8 : decode cX4_bringBack 8 = .ok (.iconst 1, 1) := by decide +kernel
theorem dX4_bringBack_9 : decode cX4_bringBack 9 = .ok (.isub, 1) := by decide +kernel
theorem dX4_bringBack_10 : decode cX4_bringBack 10 = .ok (.bipush 6, 2) := by decide +kernel
theorem dX4_bringBack_12 : decode cX4_bringBack 12 = .ok (.irem, 1) := by decide +kernel
theorem dX4_bringBack_13 : decode cX4_bringBack 13 = .ok (.putfield 18, 3) := by decide +kernel
theorem dX4_bringBack_16 : decode cX4_bringBack 16 = .ok (.aload_n 0, 1) := by decide +kernel
theorem dX4_bringBack_17 : decode cX4_bringBack 17 = .ok (.dup, 1) := by decide +kernel
theorem dX4_bringBack_18 : decode cX4_bringBack 18 = .ok (.getfield 26, 3) := by decide +kernel
theorem dX4_bringBack_21 : decode cX4_bringBack 21 = .ok (.iconst 1, 1) := by decide +kernel
theorem dX4_bringBack_22 : decode cX4_bringBack 22 = .ok (.isub, 1) := by decide +kernel
theorem dX4_bringBack_23 : decode cX4_bringBack 23 = .ok (.putfield 26, 3) := by decide +kernel
theorem dX4_bringBack_26 : decode cX4_bringBack 26 = .ok (.aload_n 1, 1) := by decide +kernel
theorem dX4_bringBack_27 : decode cX4_bringBack 27 = .ok (.aload_n 0, 1) := by decide +kernel
theorem dX4_bringBack_28 : decode cX4_bringBack 28 = .ok (.getfield 11, 3) := by decide +kernel
theorem dX4_bringBack_31 : decode cX4_bringBack 31 = .ok (.aload_n 0, 1) := by decide +kernel
theorem dX4_bringBack_32 : decode cX4_bringBack 32 = .ok (.getfield 18, 3) := by decide +kernel
theorem dX4_bringBack_35 : decode cX4_bringBack 35 = .ok (.aaload, 1) := by decide +kernel
theorem dX4_bringBack_36 : decode cX4_bringBack 36 = .ok (.invokevirtual 22, 3) := by decide +kernel
theorem dX4_bringBack_39 : decode cX4_bringBack 39 = .ok (.return_, 1) := by decide +kernel
theorem dX5_init_0 : decode cX5_init 0 = .ok (.aload_n 0, 1) := by decide +kernel
theorem dX5_init_1 : decode cX5_init 1 = .ok (.invokespecial 3, 3) := by decide +kernel
theorem dX5_init_4 : decode cX5_init 4 = .ok (.aload_n 0, 1) := by decide +kernel
theorem dX5_init_5 : decode cX5_init 5 = .ok (.bipush 6, 2) := by decide +kernel
theorem dX5_init_7 : decode cX5_init 7 = .ok (.newarray .int, 2) := by decide +kernel
theorem dX5_init_9 : decode cX5_init 9 = .ok (.putfield 9, 3) := by decide +kernel
theorem dX5_init_12 : decode cX5_init 12 = .ok (.aload_n 0, 1) := by decide +kernel
theorem dX5_init_13 : decode cX5_init 13 = .ok (.bipush 8, 2) := by decide +kernel
theorem dX5_init_15 : decode cX5_init 15 = .ok (.newarray .int, 2) := by decide +kernel
theorem dX5_init_17 : decode cX5_init 17 = .ok (.putfield 15, 3) := by decide +kernel
theorem dX5_init_20 : decode cX5_init 20 = .ok (.aload_n 0, 1) := by decide +kernel
theorem dX5_init_21 : decode cX5_init 21 = .ok (.bipush 8, 2) := by decide +kernel
theorem dX5_init_23 : decode cX5_init 23 = .ok (.newarray .int, 2) := by decide +kernel
theorem dX5_init_25 : decode cX5_init 25 = .ok (.putfield 18, 3) := by decide +kernel
theorem dX5_init_28 : decode cX5_init 28 = .ok (.aload_n 0, 1) := by decide +kernel
theorem dX5_init_29 : decode cX5_init 29 = .ok (.bipush 8, 2) := by decide +kernel
theorem dX5_init_31 : decode cX5_init 31 = .ok (.newarray .int, 2) := by decide +kernel
theorem dX5_init_33 : decode cX5_init 33 = .ok (.putfield 21, 3) := by decide +kernel
theorem dX5_init_36 : decode cX5_init 36 = .ok (.return_, 1) := by decide +kernel
theorem dX5_copyFrom_0 : decode cX5_copyFrom 0 = .ok (.aload_n 1, 1) := by decide +kernel
theorem dX5_copyFrom_1 : decode cX5_copyFrom 1 = .ok (.getfield 9, 3) := by decide +kernel
theorem dX5_copyFrom_4 : decode cX5_copyFrom 4 = .ok (.iconst 0, 1) := by decide +kernel
theorem dX5_copyFrom_5 : decode cX5_copyFrom 5 = .ok (.aload_n 0, 1) := by decide +kernel
theorem dX5_copyFrom_6 : decode cX5_copyFrom 6 = .ok (.getfield 9, 3) := by decide +kernel
theorem dX5_copyFrom_9 : decode cX5_copyFrom 9 = .ok (.iconst 0, 1) := by decide +kernel
theorem dX5_copyFrom_10 : decode cX5_copyFrom 10 = .ok (.bipush 6, 2) := by decide +kernel
theorem dX5_copyFrom_12 : decode cX5_copyFrom 12 = .ok (.invokestatic 24, 3) := by decide +kernel
theorem dX5_copyFrom_15 : decode cX5_copyFrom 15 = .ok (.aload_n 1, 1) := by decide +kernel
theorem dX5_copyFrom_16 : decode cX5_copyFrom 16 = .ok (.getfield 15, 3) := by decide +kernel
theorem dX5_copyFrom_19 : decode cX5_copyFrom 19 = .ok (.iconst 0, 1) := by decide +kernel
theorem dX5_copyFrom_20 : decode cX5_copyFrom 20 = .ok (.aload_n 0, 1) := by decide +kernel
theorem dX5_copyFrom_21 : decode cX5_copyFrom 21 = .ok (.getfield 15, 3) := by decide +kernel
theorem dX5_copyFrom_24 : decode cX5_copyFrom 24 = .ok (.iconst 0, 1) := by decide +kernel
theorem dX5_copyFrom_25 : decode cX5_copyFrom 25 = .ok (.bipush 8, 2) := by decide +kernel
theorem dX5_copyFrom_27 : decode cX5_copyFrom 27 = .ok (.invokestatic 24, 3) := by decide +kernel
theorem dX5_copyFrom_30 : decode cX5_copyFrom 30 = .ok (.aload_n 1, 1) := by decide +kernel
theorem dX5_copyFrom_31 : decode cX5_copyFrom 31 = .ok (.getfield 18, 3) := by decide +kernel
theorem dX5_copyFrom_34 : decode cX5_copyFrom 34 = .ok (.iconst 0, 1) := by decide +kernel
theorem dX5_copyFrom_35 : decode cX5_copyFrom 35 = .ok (.aload_n 0, 1) := by decide +kernel
theorem dX5_copyFrom_36 : decode cX5_copyFrom 36 = .ok (.getfield 18, 3) := by decide +kernel
theorem dX5_copyFrom_39 : decode cX5_copyFrom 39 = .ok (.iconst 0, 1) := by decide +kernel
theorem dX5_copyFrom_40 : decode cX5_copyFrom 40 = .ok (.bipush 8, 2) := by decide +kernel
theorem dX5_copyFrom_42 : decode cX5_copyFrom 42 = .ok (.invokestatic 24, 3) := by decide +kernel
theorem dX5_copyFrom_45 : decode cX5_copyFrom 45 = .ok (.aload_n 1, 1) := by decide +kernel
theorem dX5_copyFrom_46 : decode cX5_copyFrom 46 = .ok (.getfield 21, 3) := by decide +kernel
theorem dX5_copyFrom_49 : decode cX5_copyFrom 49 = .ok (.iconst 0, 1) := by decide +kernel
theorem dX5_copyFrom_50 : decode cX5_copyFrom 50 = .ok (.aload_n 0, 1) := by decide +kernel
theorem dX5_copyFrom_51 : decode cX5_copyFrom 51 = .ok (.getfield 21, 3) := by decide +kernel
theorem dX5_copyFrom_54 : decode cX5_copyFrom 54 = .ok (.iconst 0, 1) := by decide +kernel
theorem dX5_copyFrom_55 : decode cX5_copyFrom 55 = .ok (.bipush 8, 2) := by decide +kernel
theorem dX5_copyFrom_57 : decode cX5_copyFrom 57 = .ok (.invokestatic 24, 3) := by decide +kernel
theorem dX5_copyFrom_60 : decode cX5_copyFrom 60 = .ok (.aload_n 0, 1) := by decide +kernel
theorem dX5_copyFrom_61 : decode cX5_copyFrom 61 = .ok (.aload_n 1, 1) := by decide +kernel
theorem dX5_copyFrom_62 : decode cX5_copyFrom 62 = .ok (.getfield 30, 3) := by decide +kernel
theorem dX5_copyFrom_65 : decode cX5_copyFrom 65 = .ok (.putfield 30, 3) := by decide +kernel
theorem dX5_copyFrom_68 : decode cX5_copyFrom 68 = .ok (.aload_n 0, 1) := by decide +kernel
theorem dX5_copyFrom_69 : decode cX5_copyFrom 69 = .ok (.aload_n 1, 1) := by decide +kernel
theorem dX5_copyFrom_70 : decode cX5_copyFrom 70 = .ok (.getfield 34, 3) := by decide +kernel
theorem dX5_copyFrom_73 : decode cX5_copyFrom 73 = .ok (.putfield 34, 3) := by decide +kernel
theorem dX5_copyFrom_76 : decode cX5_copyFrom 76 = .ok (.return_, 1) := by decide +kernel
theorem dX5_hasPlot_0 : decode cX5_hasPlot 0 = .ok (.iload_n 1, 1) := by decide +kernel
theorem dX5_hasPlot_1 : decode cX5_hasPlot 1 = .ok (.ifCond .lt 15, 3) := by decide +kernel
theorem dX5_hasPlot_4 : decode cX5_hasPlot 4 = .ok (.iload_n 1, 1) := by decide +kernel
theorem dX5_hasPlot_5 : decode cX5_hasPlot 5 = .ok (.aload_n 0, 1) := by decide +kernel
theorem dX5_hasPlot_6 : decode cX5_hasPlot 6 = .ok (.getfield 34, 3) := by decide +kernel
theorem dX5_hasPlot_9 : decode cX5_hasPlot 9 = .ok (.if_icmp .ge 7, 3) := by decide +kernel
theorem dX5_hasPlot_12 : decode cX5_hasPlot 12 = .ok (.iconst 1, 1) := by decide +kernel
theorem dX5_hasPlot_13 : decode cX5_hasPlot 13 = .ok (.goto 4, 3) := by decide +kernel
theorem dX5_hasPlot_16 : decode cX5_hasPlot 16 = .ok (.iconst 0, 1) := by decide +kernel
theorem dX5_hasPlot_17 : decode cX5_hasPlot 17 = .ok (.ireturn, 1) := by decide +kernel
theorem dX5_addGrower_0 : decode cX5_addGrower 0 = .ok (.aload_n 0, 1) := by decide +kernel
theorem dX5_addGrower_1 : decode cX5_addGrower 1 = .ok (.getfield 30, 3) := by decide +kernel
theorem dX5_addGrower_4 : decode cX5_addGrower 4 = .ok (.bipush 6, 2) := by decide +kernel
theorem dX5_addGrower_6 : decode cX5_addGrower 6 = .ok (.if_icmp .ge 23, 3) := by decide +kernel
theorem dX5_addGrower_9 : decode cX5_addGrower 9 = .ok (.aload_n 0, 1) := by decide +kernel
theorem dX5_addGrower_10 : decode cX5_addGrower 10 = .ok (.getfield 9, 3) := by decide +kernel
theorem dX5_addGrower_13 : decode cX5_addGrower 13 = .ok (.aload_n 0, 1) := by decide +kernel
theorem dX5_addGrower_14 : decode cX5_addGrower 14 = .ok (.getfield 30, 3) := by decide +kernel
theorem dX5_addGrower_17 : decode cX5_addGrower 17 = .ok (.iload_n 1, 1) := by decide +kernel
theorem dX5_addGrower_18 : decode cX5_addGrower 18 = .ok (.iastore, 1) := by decide +kernel
theorem dX5_addGrower_19 : decode cX5_addGrower 19 = .ok (.aload_n 0, 1) := by decide +kernel
theorem dX5_addGrower_20 : decode cX5_addGrower 20 = .ok (.dup, 1) := by decide +kernel
theorem dX5_addGrower_21 : decode cX5_addGrower 21 = .ok (.getfield 30, 3) := by decide +kernel
theorem dX5_addGrower_24 : decode cX5_addGrower 24 = .ok (.iconst 1, 1) := by decide +kernel
theorem dX5_addGrower_25 : decode cX5_addGrower 25 = .ok (.iadd, 1) := by decide +kernel
theorem dX5_addGrower_26 : decode cX5_addGrower 26 = .ok (.putfield 30, 3) := by decide +kernel
theorem dX5_addGrower_29 : decode cX5_addGrower 29 = .ok (.return_, 1) := by decide +kernel
theorem dX5_addPlot_0 : decode cX5_addPlot 0 = .ok (.aload_n 0, 1) := by decide +kernel
theorem dX5_addPlot_1 : decode cX5_addPlot 1 = .ok (.getfield 34, 3) := by decide +kernel
theorem dX5_addPlot_4 : decode cX5_addPlot 4 = .ok (.bipush 8, 2) := by decide +kernel
theorem dX5_addPlot_6 : decode cX5_addPlot 6 = .ok (.if_icmp .ge 43, 3) := by decide +kernel
theorem dX5_addPlot_9 : decode cX5_addPlot 9 = .ok (.aload_n 0, 1) := by decide +kernel
theorem dX5_addPlot_10 : decode cX5_addPlot 10 = .ok (.getfield 15, 3) := by decide +kernel
theorem dX5_addPlot_13 : decode cX5_addPlot 13 = .ok (.aload_n 0, 1) := by decide +kernel
theorem dX5_addPlot_14 : decode cX5_addPlot 14 = .ok (.getfield 34, 3) := by decide +kernel
theorem dX5_addPlot_17 : decode cX5_addPlot 17 = .ok (.iload_n 1, 1) := by decide +kernel
theorem dX5_addPlot_18 : decode cX5_addPlot 18 = .ok (.iastore, 1) := by decide +kernel
theorem dX5_addPlot_19 : decode cX5_addPlot 19 = .ok (.aload_n 0, 1) := by decide +kernel
theorem dX5_addPlot_20 : decode cX5_addPlot 20 = .ok (.getfield 18, 3) := by decide +kernel
theorem dX5_addPlot_23 : decode cX5_addPlot 23 = .ok (.aload_n 0, 1) := by decide +kernel
theorem dX5_addPlot_24 : decode cX5_addPlot 24 = .ok (.getfield 34, 3) := by decide +kernel
theorem dX5_addPlot_27 : decode cX5_addPlot 27 = .ok (.iload_n 2, 1) := by decide +kernel
theorem dX5_addPlot_28 : decode cX5_addPlot 28 = .ok (.iastore, 1) := by decide +kernel
theorem dX5_addPlot_29 : decode cX5_addPlot 29 = .ok (.aload_n 0, 1) := by decide +kernel
theorem dX5_addPlot_30 : decode cX5_addPlot 30 = .ok (.getfield 21, 3) := by decide +kernel
theorem dX5_addPlot_33 : decode cX5_addPlot 33 = .ok (.aload_n 0, 1) := by decide +kernel
theorem dX5_addPlot_34 : decode cX5_addPlot 34 = .ok (.getfield 34, 3) := by decide +kernel
theorem dX5_addPlot_37 : decode cX5_addPlot 37 = .ok (.iload_n 3, 1) := by decide +kernel
theorem dX5_addPlot_38 : decode cX5_addPlot 38 = .ok (.iastore, 1) := by decide +kernel
theorem dX5_addPlot_39 : decode cX5_addPlot 39 = .ok (.aload_n 0, 1) := by decide +kernel
theorem dX5_addPlot_40 : decode cX5_addPlot 40 = .ok (.dup, 1) := by decide +kernel
theorem dX5_addPlot_41 : decode cX5_addPlot 41 = .ok (.getfield 34, 3) := by decide +kernel
theorem dX5_addPlot_44 : decode cX5_addPlot 44 = .ok (.iconst 1, 1) := by decide +kernel
theorem dX5_addPlot_45 : decode cX5_addPlot 45 = .ok (.iadd, 1) := by decide +kernel
theorem dX5_addPlot_46 : decode cX5_addPlot 46 = .ok (.putfield 34, 3) := by decide +kernel
theorem dX5_addPlot_49 : decode cX5_addPlot 49 = .ok (.return_, 1) := by decide +kernel
theorem dX5_growerNamed_0 : decode cX5_growerNamed 0 = .ok (.iconst 0, 1) := by decide +kernel
theorem dX5_growerNamed_1 : decode cX5_growerNamed 1 = .ok (.istore_n 2, 1) := by decide +kernel
theorem dX5_growerNamed_2 : decode cX5_growerNamed 2 = .ok (.iload_n 2, 1) := by decide +kernel
theorem dX5_growerNamed_3 : decode cX5_growerNamed 3 = .ok (.aload_n 0, 1) := by decide +kernel
theorem dX5_growerNamed_4 : decode cX5_growerNamed 4 = .ok (.getfield 30, 3) := by decide +kernel
theorem dX5_growerNamed_7 : decode cX5_growerNamed 7 = .ok (.if_icmp .ge 21, 3) := by decide +kernel
theorem dX5_growerNamed_10 : decode cX5_growerNamed 10 = .ok (.aload_n 0, 1) := by decide +kernel
theorem dX5_growerNamed_11 : decode cX5_growerNamed 11 = .ok (.getfield 9, 3) := by decide +kernel
theorem dX5_growerNamed_14 : decode cX5_growerNamed 14 = .ok (.iload_n 2, 1) := by decide +kernel
theorem dX5_growerNamed_15 : decode cX5_growerNamed 15 = .ok (.iaload, 1) := by decide +kernel
theorem dX5_growerNamed_16 : decode cX5_growerNamed 16 = .ok (.iload_n 1, 1) := by decide +kernel
theorem dX5_growerNamed_17 : decode cX5_growerNamed 17 = .ok (.if_icmp .ne 5, 3) := by decide +kernel
theorem dX5_growerNamed_20 : decode cX5_growerNamed 20 = .ok (.iload_n 2, 1) := by decide +kernel
theorem dX5_growerNamed_21 : decode cX5_growerNamed 21 = .ok (.ireturn, 1) := by decide +kernel
theorem dX5_growerNamed_22 : decode cX5_growerNamed 22 = .ok (.iinc 2 1, 3) := by decide +kernel
theorem dX5_growerNamed_25 : decode cX5_growerNamed 25 = .ok (.goto (-23), 3) := by decide +kernel
theorem dX5_growerNamed_28 : decode cX5_growerNamed 28 = .ok (.iconst (-1), 1) := by decide +kernel
theorem dX5_growerNamed_29 : decode cX5_growerNamed 29 = .ok (.ireturn, 1) := by decide +kernel
theorem dX5_countPlotsOf_0 : decode cX5_countPlotsOf 0 = .ok (.iconst 0, 1) := by decide +kernel
theorem dX5_countPlotsOf_1 : decode cX5_countPlotsOf 1 = .ok (.istore_n 2, 1) := by decide +kernel
theorem dX5_countPlotsOf_2 : decode cX5_countPlotsOf 2 = .ok (.iconst 0, 1) := by decide +kernel
theorem dX5_countPlotsOf_3 : decode cX5_countPlotsOf 3 = .ok (.istore_n 3, 1) := by decide +kernel
theorem dX5_countPlotsOf_4 : decode cX5_countPlotsOf 4 = .ok (.iload_n 3, 1) := by decide +kernel
theorem dX5_countPlotsOf_5 : decode cX5_countPlotsOf 5 = .ok (.aload_n 0, 1) := by decide +kernel
theorem dX5_countPlotsOf_6 : decode cX5_countPlotsOf 6 = .ok (.getfield 34, 3) := by decide +kernel
theorem dX5_countPlotsOf_9 : decode cX5_countPlotsOf 9 = .ok (.if_icmp .ge 22, 3) := by decide +kernel
theorem dX5_countPlotsOf_12 : decode cX5_countPlotsOf 12 = .ok (.aload_n 0, 1) := by decide +kernel
theorem dX5_countPlotsOf_13 : decode cX5_countPlotsOf 13 = .ok (.getfield 15, 3) := by decide +kernel
theorem dX5_countPlotsOf_16 : decode cX5_countPlotsOf 16 = .ok (.iload_n 3, 1) := by decide +kernel
theorem dX5_countPlotsOf_17 : decode cX5_countPlotsOf 17 = .ok (.iaload, 1) := by decide +kernel
theorem dX5_countPlotsOf_18 : decode cX5_countPlotsOf 18 = .ok (.iload_n 1, 1) := by decide +kernel
theorem dX5_countPlotsOf_19 : decode cX5_countPlotsOf 19 = .ok (.if_icmp .ne 6, 3) := by decide +kernel
theorem dX5_countPlotsOf_22 : decode cX5_countPlotsOf 22 = .ok (.iinc 2 1, 3) := by decide +kernel
theorem dX5_countPlotsOf_25 : decode cX5_countPlotsOf 25 = .ok (.iinc 3 1, 3) := by decide +kernel
theorem dX5_countPlotsOf_28 : decode cX5_countPlotsOf 28 = .ok (.goto (-24), 3) := by decide +kernel
theorem dX5_countPlotsOf_31 : decode cX5_countPlotsOf 31 = .ok (.iload_n 2, 1) := by decide +kernel
theorem dX5_countPlotsOf_32 : decode cX5_countPlotsOf 32 = .ok (.ireturn, 1) := by decide +kernel
theorem dX5_ownerOf_0 : decode cX5_ownerOf 0 = .ok (.iload_n 1, 1) := by decide +kernel
theorem dX5_ownerOf_1 : decode cX5_ownerOf 1 = .ok (.ifCond .lt 20, 3) := by decide +kernel
theorem dX5_ownerOf_4 : decode cX5_ownerOf 4 = .ok (.iload_n 1, 1) := by decide +kernel
theorem dX5_ownerOf_5 : decode cX5_ownerOf 5 = .ok (.aload_n 0, 1) := by decide +kernel
theorem dX5_ownerOf_6 : decode cX5_ownerOf 6 = .ok (.getfield 34, 3) := by decide +kernel
theorem dX5_ownerOf_9 : decode cX5_ownerOf 9 = .ok (.if_icmp .ge 12, 3) := by decide +kernel
theorem dX5_ownerOf_12 : decode cX5_ownerOf 12 = .ok (.aload_n 0, 1) := by decide +kernel
theorem dX5_ownerOf_13 : decode cX5_ownerOf 13 = .ok (.getfield 15, 3) := by decide +kernel
theorem dX5_ownerOf_16 : decode cX5_ownerOf 16 = .ok (.iload_n 1, 1) := by decide +kernel
theorem dX5_ownerOf_17 : decode cX5_ownerOf 17 = .ok (.iaload, 1) := by decide +kernel
theorem dX5_ownerOf_18 : decode cX5_ownerOf 18 = .ok (.goto 4, 3) := by decide +kernel
theorem dX5_ownerOf_21 : decode cX5_ownerOf 21 = .ok (.iconst (-1), 1) := by decide +kernel
theorem dX5_ownerOf_22 : decode cX5_ownerOf 22 = .ok (.ireturn, 1) := by decide +kernel
theorem dX5_varietyOn_0 : decode cX5_varietyOn 0 = .ok (.iload_n 1, 1) := by decide +kernel
theorem dX5_varietyOn_1 : decode cX5_varietyOn 1 = .ok (.ifCond .lt 20, 3) := by decide +kernel
theorem dX5_varietyOn_4 : decode cX5_varietyOn 4 = .ok (.iload_n 1, 1) := by decide +kernel
theorem dX5_varietyOn_5 : decode cX5_varietyOn 5 = .ok (.aload_n 0, 1) := by decide +kernel
theorem dX5_varietyOn_6 : decode cX5_varietyOn 6 = .ok (.getfield 34, 3) := by decide +kernel
theorem dX5_varietyOn_9 : decode cX5_varietyOn 9 = .ok (.if_icmp .ge 12, 3) := by decide +kernel
theorem dX5_varietyOn_12 : decode cX5_varietyOn 12 = .ok (.aload_n 0, 1) := by decide +kernel
theorem dX5_varietyOn_13 : decode cX5_varietyOn 13 = .ok (.getfield 18, 3) := by decide +kernel
theorem dX5_varietyOn_16 : decode cX5_varietyOn 16 = .ok (.iload_n 1, 1) := by decide +kernel
theorem dX5_varietyOn_17 : decode cX5_varietyOn 17 = .ok (.iaload, 1) := by decide +kernel
theorem dX5_varietyOn_18 : decode cX5_varietyOn 18 = .ok (.goto 4, 3) := by decide +kernel
theorem dX5_varietyOn_21 : decode cX5_varietyOn 21 = .ok (.iconst (-1), 1) := by decide +kernel
theorem dX5_varietyOn_22 : decode cX5_varietyOn 22 = .ok (.ireturn, 1) := by decide +kernel
theorem dX5_limitOf_0 : decode cX5_limitOf 0 = .ok (.iload_n 1, 1) := by decide +kernel
theorem dX5_limitOf_1 : decode cX5_limitOf 1 = .ok (.ifCond .lt 20, 3) := by decide +kernel
theorem dX5_limitOf_4 : decode cX5_limitOf 4 = .ok (.iload_n 1, 1) := by decide +kernel
theorem dX5_limitOf_5 : decode cX5_limitOf 5 = .ok (.aload_n 0, 1) := by decide +kernel
theorem dX5_limitOf_6 : decode cX5_limitOf 6 = .ok (.getfield 34, 3) := by decide +kernel
theorem dX5_limitOf_9 : decode cX5_limitOf 9 = .ok (.if_icmp .ge 12, 3) := by decide +kernel
theorem dX5_limitOf_12 : decode cX5_limitOf 12 = .ok (.aload_n 0, 1) := by decide +kernel
theorem dX5_limitOf_13 : decode cX5_limitOf 13 = .ok (.getfield 21, 3) := by decide +kernel
theorem dX5_limitOf_16 : decode cX5_limitOf 16 = .ok (.iload_n 1, 1) := by decide +kernel
theorem dX5_limitOf_17 : decode cX5_limitOf 17 = .ok (.iaload, 1) := by decide +kernel
theorem dX5_limitOf_18 : decode cX5_limitOf 18 = .ok (.goto 4, 3) := by decide +kernel
theorem dX5_limitOf_21 : decode cX5_limitOf 21 = .ok (.iconst 0, 1) := by decide +kernel
theorem dX5_limitOf_22 : decode cX5_limitOf 22 = .ok (.ireturn, 1) := by decide +kernel
theorem dX6_init_0 : decode cX6_init 0 = .ok (.aload_n 0, 1) := by decide +kernel
theorem dX6_init_1 : decode cX6_init 1 = .ok (.invokespecial 1, 3) := by decide +kernel
theorem dX6_init_4 : decode cX6_init 4 = .ok (.return_, 1) := by decide +kernel
theorem dX6_copyFrom_0 : decode cX6_copyFrom 0 = .ok (.aload_n 0, 1) := by decide +kernel
theorem dX6_copyFrom_1 : decode cX6_copyFrom 1 = .ok (.aload_n 1, 1) := by decide +kernel
theorem dX6_copyFrom_2 : decode cX6_copyFrom 2 = .ok (.getfield 7, 3) := by decide +kernel
theorem dX6_copyFrom_5 : decode cX6_copyFrom 5 = .ok (.putfield 7, 3) := by decide +kernel
theorem dX6_copyFrom_8 : decode cX6_copyFrom 8 = .ok (.aload_n 0, 1) := by decide +kernel
theorem dX6_copyFrom_9 : decode cX6_copyFrom 9 = .ok (.aload_n 1, 1) := by decide +kernel
theorem dX6_copyFrom_10 : decode cX6_copyFrom 10 = .ok (.getfield 13, 3) := by decide +kernel
theorem dX6_copyFrom_13 : decode cX6_copyFrom 13 = .ok (.putfield 13, 3) := by decide +kernel
theorem dX6_copyFrom_16 : decode cX6_copyFrom 16 = .ok (.aload_n 0, 1) := by decide +kernel
theorem dX6_copyFrom_17 : decode cX6_copyFrom 17 = .ok (.aload_n 1, 1) := by decide +kernel
theorem dX6_copyFrom_18 : decode cX6_copyFrom 18 = .ok (.getfield 16, 3) := by decide +kernel
theorem dX6_copyFrom_21 : decode cX6_copyFrom 21 = .ok (.putfield 16, 3) := by decide +kernel
theorem dX6_copyFrom_24 : decode cX6_copyFrom 24 = .ok (.aload_n 0, 1) := by decide +kernel
theorem dX6_copyFrom_25 : decode cX6_copyFrom 25 = .ok (.aload_n 1, 1) := by decide +kernel
theorem dX6_copyFrom_26 : decode cX6_copyFrom 26 = .ok (.getfield 19, 3) := by decide +kernel
theorem dX6_copyFrom_29 : decode cX6_copyFrom 29 = .ok (.putfield 19, 3) := by decide +kernel
theorem dX6_copyFrom_32 : decode cX6_copyFrom 32 = .ok (.aload_n 0, 1) := by decide +kernel
theorem dX6_copyFrom_33 : decode cX6_copyFrom 33 = .ok (.aload_n 1, 1) := by decide +kernel
theorem dX6_copyFrom_34 : decode cX6_copyFrom 34 = .ok (.getfield 22, 3) := by decide +kernel
theorem dX6_copyFrom_37 : decode cX6_copyFrom 37 = .ok (.putfield 22, 3) := by decide +kernel
theorem dX6_copyFrom_40 : decode cX6_copyFrom 40 = .ok (.aload_n 0, 1) := by decide +kernel
theorem dX6_copyFrom_41 : decode cX6_copyFrom 41 = .ok (.aload_n 1, 1) := by decide +kernel
theorem dX6_copyFrom_42 : decode cX6_copyFrom 42 = .ok (.getfield 25, 3) := by decide +kernel
theorem dX6_copyFrom_45 : decode cX6_copyFrom 45 = .ok (.putfield 25, 3) := by decide +kernel
theorem dX6_copyFrom_48 : decode cX6_copyFrom 48 = .ok (.aload_n 0, 1) := by decide +kernel
theorem dX6_copyFrom_49 : decode cX6_copyFrom 49 = .ok (.aload_n 1, 1) := by decide +kernel
theorem dX6_copyFrom_50 : decode cX6_copyFrom 50 = .ok (.getfield 28, 3) := by decide +kernel
theorem dX6_copyFrom_53 : decode cX6_copyFrom 53 = .ok (.putfield 28, 3) := by decide +kernel
theorem dX6_copyFrom_56 : decode cX6_copyFrom 56 = .ok (.aload_n 0, 1) := by decide +kernel
theorem dX6_copyFrom_57 : decode cX6_copyFrom 57 = .ok (.aload_n 1, 1) := by decide +kernel
theorem dX6_copyFrom_58 : decode cX6_copyFrom 58 = .ok (.getfield 31, 3) := by decide +kernel
theorem dX6_copyFrom_61 : decode cX6_copyFrom 61 = .ok (.putfield 31, 3) := by decide +kernel
theorem dX6_copyFrom_64 : decode cX6_copyFrom 64 = .ok (.aload_n 0, 1) := by decide +kernel
theorem dX6_copyFrom_65 : decode cX6_copyFrom 65 = .ok (.aload_n 1, 1) := by decide +kernel
theorem dX6_copyFrom_66 : decode cX6_copyFrom 66 = .ok (.getfield 35, 3) := by decide +kernel
theorem dX6_copyFrom_69 : decode cX6_copyFrom 69 = .ok (.putfield 35, 3) := by decide +kernel
theorem dX6_copyFrom_72 : decode cX6_copyFrom 72 = .ok (.return_, 1) := by decide +kernel
theorem dX6_isUnpaidOf_0 : decode cX6_isUnpaidOf 0 = .ok (.aload_n 0, 1) := by decide +kernel
theorem dX6_isUnpaidOf_1 : decode cX6_isUnpaidOf 1 = .ok (.getfield 13, 3) := by decide +kernel
theorem dX6_isUnpaidOf_4 : decode cX6_isUnpaidOf 4 = .ok (.iload_n 1, 1) := by decide +kernel
theorem dX6_isUnpaidOf_5 : decode cX6_isUnpaidOf 5 = .ok (.if_icmp .ne 14, 3) := by decide +kernel
theorem dX6_isUnpaidOf_8 : decode cX6_isUnpaidOf 8 = .ok (.aload_n 0, 1) := by decide +kernel
theorem dX6_isUnpaidOf_9 : decode cX6_isUnpaidOf 9 = .ok (.getfield 31, 3) := by decide +kernel
theorem dX6_isUnpaidOf_12 : decode cX6_isUnpaidOf 12 = .ok (.ifCond .ne 7, 3) := by decide +kernel
theorem dX6_isUnpaidOf_15 : decode cX6_isUnpaidOf 15 = .ok (.iconst 1, 1) := by decide +kernel
theorem dX6_isUnpaidOf_16 : decode cX6_isUnpaidOf 16 = .ok (.goto 4, 3) := by decide +kernel
theorem dX6_isUnpaidOf_19 : decode cX6_isUnpaidOf 19 = .ok (.iconst 0, 1) := by decide +kernel
theorem dX6_isUnpaidOf_20 : decode cX6_isUnpaidOf 20 = .ok (.ireturn, 1) := by decide +kernel
theorem dX6_isOfPair_0 : decode cX6_isOfPair 0 = .ok (.aload_n 0, 1) := by decide +kernel
theorem dX6_isOfPair_1 : decode cX6_isOfPair 1 = .ok (.getfield 16, 3) := by decide +kernel
theorem dX6_isOfPair_4 : decode cX6_isOfPair 4 = .ok (.iload_n 1, 1) := by decide +kernel
theorem dX6_isOfPair_5 : decode cX6_isOfPair 5 = .ok (.if_icmp .ne 15, 3) := by decide +kernel
theorem dX6_isOfPair_8 : decode cX6_isOfPair 8 = .ok (.aload_n 0, 1) := by decide +kernel
theorem dX6_isOfPair_9 : decode cX6_isOfPair 9 = .ok (.getfield 25, 3) := by decide +kernel
theorem dX6_isOfPair_12 : decode cX6_isOfPair 12 = .ok (.iload_n 2, 1) := by decide +kernel
theorem dX6_isOfPair_13 : decode cX6_isOfPair 13 = .ok (.if_icmp .ne 7, 3) := by decide +kernel
theorem dX6_isOfPair_16 : decode cX6_isOfPair 16 = .ok (.iconst 1, 1) := by decide +kernel
theorem dX6_isOfPair_17 : decode cX6_isOfPair 17 = .ok (.goto 4, 3) := by decide +kernel
theorem dX6_isOfPair_20 : decode cX6_isOfPair 20 = .ok (.iconst 0, 1) := by decide +kernel
theorem dX6_isOfPair_21 : decode cX6_isOfPair 21 = .ok (.ireturn, 1) := by decide +kernel
theorem dX6_pairCode_0 : decode cX6_pairCode 0 = .ok (.bipush 10, 2) := by decide +kernel
theorem dX6_pairCode_2 : decode cX6_pairCode 2 = .ok (.aload_n 0, 1) := by decide +kernel
theorem dX6_pairCode_3 : decode cX6_pairCode 3 = .ok (.getfield 16, 3) := by decide +kernel
theorem dX6_pairCode_6 : decode cX6_pairCode 6 = .ok (.imul, 1) := by decide +kernel
theorem dX6_pairCode_7 : decode cX6_pairCode 7 = .ok (.aload_n 0, 1) := by decide +kernel
theorem dX6_pairCode_8 : decode cX6_pairCode 8 = .ok (.getfield 25, 3) := by decide +kernel
theorem dX6_pairCode_11 : decode cX6_pairCode 11 = .ok (.iadd, 1) := by decide +kernel
theorem dX6_pairCode_12 : decode cX6_pairCode 12 = .ok (.ireturn, 1) := by decide +kernel
theorem dX7_init_0 : decode cX7_init 0 = .ok (.aload_n 0, 1) := by decide +kernel
theorem dX7_init_1 : decode cX7_init 1 = .ok (.invokespecial 1, 3) := by decide +kernel
theorem dX7_init_4 : decode cX7_init 4 = .ok (.return_, 1) := by decide +kernel
theorem dX7_copyFrom_0 : decode cX7_copyFrom 0 = .ok (.aload_n 0, 1) := by decide +kernel
theorem dX7_copyFrom_1 : decode cX7_copyFrom 1 = .ok (.aload_n 1, 1) := by decide +kernel
theorem dX7_copyFrom_2 : decode cX7_copyFrom 2 = .ok (.getfield 7, 3) := by decide +kernel
theorem dX7_copyFrom_5 : decode cX7_copyFrom 5 = .ok (.putfield 7, 3) := by decide +kernel
theorem dX7_copyFrom_8 : decode cX7_copyFrom 8 = .ok (.aload_n 0, 1) := by decide +kernel
theorem dX7_copyFrom_9 : decode cX7_copyFrom 9 = .ok (.aload_n 1, 1) := by decide +kernel
theorem dX7_copyFrom_10 : decode cX7_copyFrom 10 = .ok (.getfield 13, 3) := by decide +kernel
theorem dX7_copyFrom_13 : decode cX7_copyFrom 13 = .ok (.putfield 13, 3) := by decide +kernel
theorem dX7_copyFrom_16 : decode cX7_copyFrom 16 = .ok (.aload_n 0, 1) := by decide +kernel
theorem dX7_copyFrom_17 : decode cX7_copyFrom 17 = .ok (.aload_n 1, 1) := by decide +kernel
theorem dX7_copyFrom_18 : decode cX7_copyFrom 18 = .ok (.getfield 16, 3) := by decide +kernel
theorem dX7_copyFrom_21 : decode cX7_copyFrom 21 = .ok (.putfield 16, 3) := by decide +kernel
theorem dX7_copyFrom_24 : decode cX7_copyFrom 24 = .ok (.aload_n 0, 1) := by decide +kernel
theorem dX7_copyFrom_25 : decode cX7_copyFrom 25 = .ok (.aload_n 1, 1) := by decide +kernel
theorem dX7_copyFrom_26 : decode cX7_copyFrom 26 = .ok (.getfield 19, 3) := by decide +kernel
theorem dX7_copyFrom_29 : decode cX7_copyFrom 29 = .ok (.putfield 19, 3) := by decide +kernel
theorem dX7_copyFrom_32 : decode cX7_copyFrom 32 = .ok (.return_, 1) := by decide +kernel
theorem dX8_init_0 : decode cX8_init 0 = .ok (.aload_n 0, 1) := by decide +kernel
theorem dX8_init_1 : decode cX8_init 1 = .ok (.invokespecial 3, 3) := by decide +kernel
theorem dX8_init_4 : decode cX8_init 4 = .ok (.aload_n 0, 1) := by decide +kernel
theorem dX8_init_5 : decode cX8_init 5 = .ok (.new 9, 3) := by decide +kernel
theorem dX8_init_8 : decode cX8_init 8 = .ok (.dup, 1) := by decide +kernel
theorem dX8_init_9 : decode cX8_init 9 = .ok (.invokespecial 11, 3) := by decide +kernel
theorem dX8_init_12 : decode cX8_init 12 = .ok (.putfield 12, 3) := by decide +kernel
theorem dX8_init_15 : decode cX8_init 15 = .ok (.aload_n 0, 1) := by decide +kernel
theorem dX8_init_16 : decode cX8_init 16 = .ok (.new 18, 3) := by decide +kernel
theorem dX8_init_19 : decode cX8_init 19 = .ok (.dup, 1) := by decide +kernel
theorem dX8_init_20 : decode cX8_init 20 = .ok (.invokespecial 20, 3) := by decide +kernel
theorem dX8_init_23 : decode cX8_init 23 = .ok (.putfield 21, 3) := by decide +kernel
theorem dX8_init_26 : decode cX8_init 26 = .ok (.aload_n 0, 1) := by decide +kernel
theorem dX8_init_27 : decode cX8_init 27 = .ok (.iconst (-1), 1) := by decide +kernel
theorem dX8_init_28 : decode cX8_init 28 = .ok (.putfield 25, 3) := by decide +kernel
theorem dX8_init_31 : decode cX8_init 31 = .ok (.return_, 1) := by decide +kernel
theorem dX8_readAll_0 : decode cX8_readAll 0 = .ok (.aload_n 0, 1) := by decide +kernel
theorem dX8_readAll_1 : decode cX8_readAll 1 = .ok (.iconst 0, 1) := by decide +kernel
theorem dX8_readAll_2 : decode cX8_readAll 2 = .ok (.putfield 29, 3) := by decide +kernel
theorem dX8_readAll_5 : decode cX8_readAll 5 = .ok (.aload_n 0, 1) := by decide +kernel
theorem dX8_readAll_6 : decode cX8_readAll 6 = .ok (.iconst (-1), 1) := by decide +kernel
theorem dX8_readAll_7 : decode cX8_readAll 7 = .ok (.putfield 25, 3) := by decide +kernel
theorem dX8_readAll_10 : decode cX8_readAll 10 = .ok (.aload_n 0, 1) := by decide +kernel
theorem dX8_readAll_11 : decode cX8_readAll 11 = .ok (.getfield 21, 3) := by decide +kernel
theorem dX8_readAll_14 : decode cX8_readAll 14 = .ok (.invokevirtual 32, 3) := by decide +kernel
theorem dX8_readAll_17 : decode cX8_readAll 17 = .ok (.aload_n 0, 1) := by decide +kernel
theorem dX8_readAll_18 : decode cX8_readAll 18 = .ok (.getfield 12, 3) := by decide +kernel
theorem dX8_readAll_21 : decode cX8_readAll 21 = .ok (.invokevirtual 35, 3) := by decide +kernel
theorem dX8_readAll_24 : decode cX8_readAll 24 = .ok (.aload_n 0, 1) := by decide +kernel
theorem dX8_readAll_25 : decode cX8_readAll 25 = .ok (.invokevirtual 38, 3) := by decide +kernel
theorem dX8_readAll_28 : decode cX8_readAll 28 = .ok (.ifCond .eq 14, 3) := by decide +kernel
theorem dX8_readAll_31 : decode cX8_readAll 31 = .ok (.aload_n 0, 1) := by decide +kernel
theorem dX8_readAll_32 : decode cX8_readAll 32 = .ok (.invokevirtual 42, 3) := by decide +kernel
theorem dX8_readAll_35 : decode cX8_readAll 35 = .ok (.ifCond .eq 7, 3) := by decide +kernel
theorem dX8_readAll_38 : decode cX8_readAll 38 = .ok (.iconst 1, 1) := by decide +kernel
theorem dX8_readAll_39 : decode cX8_readAll 39 = .ok (.goto 4, 3) := by decide +kernel
theorem dX8_readAll_42 : decode cX8_readAll 42 = .ok (.iconst 0, 1) := by decide +kernel
theorem dX8_readAll_43 : decode cX8_readAll 43 = .ok (.istore_n 1, 1) := by decide +kernel
theorem dX8_readAll_44 : decode cX8_readAll 44 = .ok (.iconst 0, 1) := by decide +kernel
theorem dX8_readAll_45 : decode cX8_readAll 45 = .ok (.istore_n 2, 1) := by decide +kernel
theorem dX8_readAll_46 : decode cX8_readAll 46 = .ok (.iload_n 2, 1) := by decide +kernel
theorem dX8_readAll_47 : decode cX8_readAll 47 = .ok (.sipush 600, 3) := by decide +kernel
theorem dX8_readAll_50 : decode cX8_readAll 50 = .ok (.if_icmp .ge 28, 3) := by decide +kernel
theorem dX8_readAll_53 : decode cX8_readAll 53 = .ok (.iload_n 1, 1) := by decide +kernel
theorem dX8_readAll_54 : decode cX8_readAll 54 = .ok (.ifCond .eq 24, 3) := by decide +kernel
theorem dX8_readAll_57 : decode cX8_readAll 57 = .ok (.aload_n 0, 1) := by decide +kernel
theorem dX8_readAll_58 : decode cX8_readAll 58 = .ok (.getfield 12, 3) := by decide +kernel
theorem dX8_readAll_61 : decode cX8_readAll 61 = .ok (.getfield 45, 3) := by decide +kernel
theorem dX8_readAll_64 : decode cX8_readAll 64 = .ok (.ifCond .eq 14, 3) := by decide +kernel
theorem dX8_readAll_67 : decode cX8_readAll 67 = .ok (.aload_n 0, 1) := by decide +kernel
theorem dX8_readAll_68 : decode cX8_readAll 68 = .ok (.invokevirtual 48, 3) := by decide +kernel
theorem dX8_readAll_71 : decode cX8_readAll 71 = .ok (.istore_n 1, 1) := by decide +kernel
theorem dX8_readAll_72 : decode cX8_readAll 72 = .ok (.iinc 2 1, 3) := by decide +kernel
theorem dX8_readAll_75 : decode cX8_readAll 75 = .ok (.goto (-29), 3) := by decide +kernel
theorem dX8_readAll_78 : decode cX8_readAll 78 = .ok (.aload_n 0, 1) := by decide +kernel
theorem dX8_readAll_79 : decode cX8_readAll 79 = .ok (.getfield 12, 3) := by decide +kernel
theorem dX8_readAll_82 : decode cX8_readAll 82 = .ok (.iconst 0, 1) := by decide +kernel
theorem dX8_readAll_83 : decode cX8_readAll 83 = .ok (.putfield 51, 3) := by decide +kernel
theorem dX8_readAll_86 : decode cX8_readAll 86 = .ok (.iload_n 1, 1) := by decide +kernel
theorem dX8_readAll_87 : decode cX8_readAll 87 = .ok (.ireturn, 1) := by decide +kernel
theorem dX8_readCooperative_0 : decode cX8_readCooperative 0 = .ok (.aload_n 0, 1) := by decide +kernel
theorem dX8_readCooperative_1 : decode cX8_readCooperative 1 = .ok (.getfield 12, 3) := by decide +kernel
theorem dX8_readCooperative_4 : decode cX8_readCooperative 4 = .ok (.ldc 54, 2) := by decide +kernel
theorem dX8_readCooperative_6 : decode cX8_readCooperative 6 = .ok (.invokevirtual 56, 3) := by decide +kernel
theorem dX8_readCooperative_9 : decode cX8_readCooperative 9 = .ok (.ifCond .ne 9, 3) := by decide +kernel
theorem dX8_readCooperative_12 : decode cX8_readCooperative 12 = .ok (.aload_n 0, 1) := by decide +kernel
theorem dX8_readCooperative_13 : decode cX8_readCooperative 13 = .ok (.iconst 1, 1) := by decide +kernel
theorem dX8_readCooperative_14 : decode cX8_readCooperative 14 = .ok (.invokevirtual 60, 3) := by decide +kernel
theorem dX8_readCooperative_17 : decode cX8_readCooperative 17 = .ok (.ireturn, 1) := by decide +kernel
theorem dX8_readCooperative_18 : decode cX8_readCooperative 18 = .ok (.aload_n 0, 1) := by decide +kernel
theorem dX8_readCooperative_19 : decode cX8_readCooperative 19 = .ok (.getfield 12, 3) := by decide +kernel
theorem dX8_readCooperative_22 : decode cX8_readCooperative 22 = .ok (.invokevirtual 64, 3) := by decide +kernel
theorem dX8_readCooperative_25 : decode cX8_readCooperative 25 = .ok (.aload_n 0, 1) := by decide +kernel
theorem dX8_readCooperative_26 : decode cX8_readCooperative 26 = .ok (.aload_n 0, 1) := by decide +kernel
theorem dX8_readCooperative_27 : decode cX8_readCooperative 27 = .ok (.iconst 1, 1) := by decide +kernel
theorem dX8_readCooperative_28 : decode cX8_readCooperative 28 = .ok (.sipush 200, 3) := by decide +kernel
theorem dX8_readCooperative_31 : decode cX8_readCooperative 31 = .ok (.invokevirtual 67, 3) := by decide +kernel
theorem dX8_readCooperative_34 : decode cX8_readCooperative 34 = .ok (.putfield 71, 3) := by decide +kernel
theorem dX8_readCooperative_37 : decode cX8_readCooperative 37 = .ok (.aload_n 0, 1) := by decide +kernel
theorem dX8_readCooperative_38 : decode cX8_readCooperative 38 = .ok (.getfield 71, 3) := by decide +kernel
theorem dX8_readCooperative_41 : decode cX8_readCooperative 41 = .ok (.iconst (-1), 1) := by decide +kernel
theorem dX8_readCooperative_42 : decode cX8_readCooperative 42 = .ok (.if_icmp .ne 5, 3) := by decide +kernel
theorem dX8_readCooperative_45 : decode cX8_readCooperative 45 = .ok (.iconst 0, 1) := by decide +kernel
theorem dX8_readCooperative_46 : decode cX8_readCooperative 46 = .ok (.ireturn, 1) := by decide +kernel
theorem dX8_readCooperative_47 : decode cX8_readCooperative 47 = .ok (.aload_n 0, 1) := by decide +kernel
theorem dX8_readCooperative_48 : decode cX8_readCooperative 48 = .ok (.iconst 0, 1) := by decide +kernel
theorem dX8_readCooperative_49 : decode cX8_readCooperative 49 = .ok (.ldc 74, 2) := by decide +kernel
theorem dX8_readCooperative_51 : decode cX8_readCooperative 51 = .ok (.invokevirtual 67, 3) := by decide +kernel
theorem dX8_readCooperative_54 : decode cX8_readCooperative 54 = .ok (.istore_n 1, 1) := by decide +kernel
theorem dX8_readCooperative_55 : decode cX8_readCooperative 55 = .ok (.iload_n 1, 1) := by decide +kernel
theorem dX8_readCooperative_56 : decode cX8_readCooperative 56 = .ok (.iconst (-1), 1) := by decide +kernel
theorem dX8_readCooperative_57 : decode cX8_readCooperative 57 = .ok (.if_icmp .ne 5, 3) := by decide +kernel
theorem dX8_readCooperative_60 : decode cX8_readCooperative 60 = .ok (.iconst 0, 1) := by decide +kernel
theorem dX8_readCooperative_61 : decode cX8_readCooperative 61 = .ok (.ireturn, 1) := by decide +kernel
theorem dX8_readCooperative_62 : decode cX8_readCooperative 62 = .ok (.aload_n 0, 1) := by decide +kernel
theorem dX8_readCooperative_63 : decode cX8_readCooperative 63 = .ok (.getfield 21, 3) := by decide +kernel
theorem dX8_readCooperative_66 : decode cX8_readCooperative 66 = .ok (.iload_n 1, 1) := by decide +kernel
theorem dX8_readCooperative_67 : decode cX8_readCooperative 67 = .ok (.invokevirtual 75, 3) := by decide +kernel
theorem dX8_readCooperative_70 : decode cX8_readCooperative 70 = .ok (.aload_n 0, 1) := by decide +kernel
theorem dX8_readCooperative_71 : decode cX8_readCooperative 71 = .ok (.invokevirtual 79, 3) := by decide +kernel
theorem dX8_readCooperative_74 : decode cX8_readCooperative 74 = .ok (.ireturn, 1) := by decide +kernel
theorem dX8_readClasses_0 : decode cX8_readClasses 0 = .ok (.aload_n 0, 1) := by decide +kernel
theorem dX8_readClasses_1 : decode cX8_readClasses 1 = .ok (.getfield 12, 3) := by decide +kernel
theorem dX8_readClasses_4 : decode cX8_readClasses 4 = .ok (.ldc 82, 2) := by decide +kernel
theorem dX8_readClasses_6 : decode cX8_readClasses 6 = .ok (.invokevirtual 56, 3) := by decide +kernel
theorem dX8_readClasses_9 : decode cX8_readClasses 9 = .ok (.ifCond .ne 9, 3) := by decide +kernel
theorem dX8_readClasses_12 : decode cX8_readClasses 12 = .ok (.aload_n 0, 1) := by decide +kernel
theorem dX8_readClasses_13 : decode cX8_readClasses 13 = .ok (.iconst 1, 1) := by decide +kernel
theorem dX8_readClasses_14 : decode cX8_readClasses 14 = .ok (.invokevirtual 60, 3) := by decide +kernel
theorem dX8_readClasses_17 : decode cX8_readClasses 17 = .ok (.ireturn, 1) := by decide +kernel
theorem dX8_readClasses_18 : decode cX8_readClasses 18 = .ok (.aload_n 0, 1) := by decide +kernel
theorem dX8_readClasses_19 : decode cX8_readClasses 19 = .ok (.getfield 12, 3) := by decide +kernel
theorem dX8_readClasses_22 : decode cX8_readClasses 22 = .ok (.invokevirtual 64, 3) := by decide +kernel
theorem dX8_readClasses_25 : decode cX8_readClasses 25 = .ok (.aload_n 0, 1) := by decide +kernel
theorem dX8_readClasses_26 : decode cX8_readClasses 26 = .ok (.invokevirtual 84, 3) := by decide +kernel
theorem dX8_readClasses_29 : decode cX8_readClasses 29 = .ok (.istore_n 1, 1) := by decide +kernel
theorem dX8_readClasses_30 : decode cX8_readClasses 30 = .ok (.iconst 0, 1) := by decide +kernel
theorem dX8_readClasses_31 : decode cX8_readClasses 31 = .ok (.istore_n 2, 1) := by decide +kernel
theorem dX8_readClasses_32 : decode cX8_readClasses 32 = .ok (.iload_n 2, 1) := by decide +kernel
theorem dX8_readClasses_33 : decode cX8_readClasses 33 = .ok (.iconst 4, 1) := by decide +kernel
theorem dX8_readClasses_34 : decode cX8_readClasses 34 = .ok (.if_icmp .ge 29, 3) := by decide +kernel
theorem dX8_readClasses_37 : decode cX8_readClasses 37 = .ok (.iload_n 1, 1) := by decide +kernel
theorem dX8_readClasses_38 : decode cX8_readClasses 38 = .ok (.ifCond .eq 25, 3) := by decide +kernel
theorem dX8_readClasses_41 : decode cX8_readClasses 41 = .ok (.aload_n 0, 1) := by decide +kernel
theorem dX8_readClasses_42 : decode cX8_readClasses 42 = .ok (.getfield 12, 3) := by decide +kernel
theorem dX8_readClasses_45 : decode cX8_readClasses 45 = .ok (.getfield 45, 3) := by decide +kernel
theorem dX8_readClasses_48 : decode cX8_readClasses 48 = .ok (.iconst 4, 1) := by decide +kernel
theorem dX8_readClasses_49 : decode cX8_readClasses 49 = .ok (.if_icmp .eq 14, 3) := by decide +kernel
theorem dX8_readClasses_52 : decode cX8_readClasses 52 = .ok (.aload_n 0, 1) := by decide +kernel
theorem dX8_readClasses_53 : decode cX8_readClasses 53 = .ok (.invokevirtual 84, 3) := by decide +kernel
theorem dX8_readClasses_56 : decode cX8_readClasses 56 = .ok (.istore_n 1, 1) := by decide +kernel
theorem dX8_readClasses_57 : decode cX8_readClasses 57 = .ok (.iinc 2 1, 3) := by decide +kernel
theorem dX8_readClasses_60 : decode cX8_readClasses 60 = .ok (.goto (-28), 3) := by decide +kernel
theorem dX8_readClasses_63 : decode cX8_readClasses 63 = .ok (.iload_n 1, 1) := by decide +kernel
theorem dX8_readClasses_64 : decode cX8_readClasses 64 = .ok (.ifCond .eq 14, 3) := by decide +kernel
theorem dX8_readClasses_67 : decode cX8_readClasses 67 = .ok (.aload_n 0, 1) := by decide +kernel
theorem dX8_readClasses_68 : decode cX8_readClasses 68 = .ok (.invokevirtual 79, 3) := by decide +kernel
theorem dX8_readClasses_71 : decode cX8_readClasses 71 = .ok (.ifCond .eq 7, 3) := by decide +kernel
theorem dX8_readClasses_74 : decode cX8_readClasses 74 = .ok (.iconst 1, 1) := by decide +kernel
theorem dX8_readClasses_75 : decode cX8_readClasses 75 = .ok (.goto 4, 3) := by decide +kernel
theorem dX8_readClasses_78 : decode cX8_readClasses 78 = .ok (.iconst 0, 1) := by decide +kernel
theorem dX8_readClasses_79 : decode cX8_readClasses 79 = .ok (.ireturn, 1) := by decide +kernel
theorem dX8_readLowestSugar_0 : decode cX8_readLowestSugar 0 = .ok (.aload_n 0, 1) := by decide +kernel
theorem dX8_readLowestSugar_1 : decode cX8_readLowestSugar 1 = .ok (.iconst 0, 1) := by decide +kernel
theorem dX8_readLowestSugar_2 : decode cX8_readLowestSugar 2 = .ok (.sipush 200, 3) := by decide +kernel
theorem dX8_readLowestSugar_5 : decode cX8_readLowestSugar 5 = .ok (.invokevirtual 87, 3) := by decide +kernel
theorem dX8_readLowestSugar_8 : decode cX8_readLowestSugar 8 = .ok (.ifCond .ne 5, 3) := by decide +kernel
theorem dX8_readLowestSugar_11 : decode cX8_readLowestSugar 11 = .ok (.iconst 0, 1) := by decide +kernel
theorem dX8_readLowestSugar_12 : decode cX8_readLowestSugar 12 = .ok (.ireturn, 1) := by decide +kernel
theorem dX8_readLowestSugar_13 : decode cX8_readLowestSugar 13 = .ok (.aload_n 0, 1) := by decide +kernel
theorem dX8_readLowestSugar_14 : decode cX8_readLowestSugar 14 = .ok (.getfield 21, 3) := by decide +kernel
theorem dX8_readLowestSugar_17 : decode cX8_readLowestSugar 17 = .ok (.getfield 91, 3) := by decide +kernel
theorem dX8_readLowestSugar_20 : decode cX8_readLowestSugar 20 = .ok (.aload_n 0, 1) := by decide +kernel
theorem dX8_readLowestSugar_21 : decode cX8_readLowestSugar 21 = .ok (.getfield 12, 3) := by decide +kernel
theorem dX8_readLowestSugar_24 : decode cX8_readLowestSugar 24 = .ok (.getfield 95, 3) := by decide +kernel
theorem dX8_readLowestSugar_27 : decode cX8_readLowestSugar 27 = .ok (.invokevirtual 98, 3) := by decide +kernel
theorem dX8_readLowestSugar_30 : decode cX8_readLowestSugar 30 = .ok (.ifCond .ne 9, 3) := by decide +kernel
theorem dX8_readLowestSugar_33 : decode cX8_readLowestSugar 33 = .ok (.aload_n 0, 1) := by decide +kernel
theorem dX8_readLowestSugar_34 : decode cX8_readLowestSugar 34 = .ok (.iconst 3, 1) := by decide +kernel
theorem dX8_readLowestSugar_35 : decode cX8_readLowestSugar 35 = .ok (.invokevirtual 60, 3) := by decide +kernel
theorem dX8_readLowestSugar_38 : decode cX8_readLowestSugar 38 = .ok (.ireturn, 1) := by decide +kernel
theorem dX8_readLowestSugar_39 : decode cX8_readLowestSugar 39 = .ok (.aload_n 0, 1) := by decide +kernel
theorem dX8_readLowestSugar_40 : decode cX8_readLowestSugar 40 = .ok (.getfield 21, 3) := by decide +kernel
theorem dX8_readLowestSugar_43 : decode cX8_readLowestSugar 43 = .ok (.getfield 91, 3) := by decide +kernel
theorem dX8_readLowestSugar_46 : decode cX8_readLowestSugar 46 = .ok (.getfield 103, 3) := by decide +kernel
theorem dX8_readLowestSugar_49 : decode cX8_readLowestSugar 49 = .ok (.iconst 4, 1) := by decide +kernel
theorem dX8_readLowestSugar_50 : decode cX8_readLowestSugar 50 = .ok (.if_icmp .lt 9, 3) := by decide +kernel
theorem dX8_readLowestSugar_53 : decode cX8_readLowestSugar 53 = .ok (.aload_n 0, 1) := by decide +kernel
theorem dX8_readLowestSugar_54 : decode cX8_readLowestSugar 54 = .ok (.iconst 5, 1) := by decide +kernel
theorem dX8_readLowestSugar_55 : decode cX8_readLowestSugar 55 = .ok (.invokevirtual 60, 3) := by decide +kernel
theorem dX8_readLowestSugar_58 : decode cX8_readLowestSugar 58 = .ok (.ireturn, 1) := by decide +kernel
theorem dX8_readLowestSugar_59 : decode cX8_readLowestSugar 59 = .ok (.aload_n 0, 1) := by decide +kernel
theorem dX8_readLowestSugar_60 : decode cX8_readLowestSugar 60 = .ok (.getfield 21, 3) := by decide +kernel
theorem dX8_readLowestSugar_63 : decode cX8_readLowestSugar 63 = .ok (.getfield 91, 3) := by decide +kernel
theorem dX8_readLowestSugar_66 : decode cX8_readLowestSugar 66 = .ok (.aload_n 0, 1) := by decide +kernel
theorem dX8_readLowestSugar_67 : decode cX8_readLowestSugar 67 = .ok (.getfield 12, 3) := by decide +kernel
theorem dX8_readLowestSugar_70 : decode cX8_readLowestSugar 70 = .ok (.getfield 95, 3) := by decide +kernel
theorem dX8_readLowestSugar_73 : decode cX8_readLowestSugar 73 = .ok (.invokevirtual 105, 3) := by decide +kernel
theorem dX8_readLowestSugar_76 : decode cX8_readLowestSugar 76 = .ok (.aload_n 0, 1) := by decide +kernel
theorem dX8_readLowestSugar_77 : decode cX8_readLowestSugar 77 = .ok (.getfield 12, 3) := by decide +kernel
theorem dX8_readLowestSugar_80 : decode cX8_readLowestSugar 80 = .ok (.invokevirtual 64, 3) := by decide +kernel
theorem dX8_readLowestSugar_83 : decode cX8_readLowestSugar 83 = .ok (.iconst 1, 1) := by decide +kernel
theorem dX8_readLowestSugar_84 : decode cX8_readLowestSugar 84 = .ok (.ireturn, 1) := by decide +kernel
theorem dX8_readStatement_0 : decode cX8_readStatement 0 = .ok (.aload_n 0, 1) := by decide +kernel
theorem dX8_readStatement_1 : decode cX8_readStatement 1 = .ok (.getfield 12, 3) := by decide +kernel
theorem dX8_readStatement_4 : decode cX8_readStatement 4 = .ok (.ldc 108, 2) := by decide +kernel
theorem dX8_readStatement_6 : decode cX8_readStatement 6 = .ok (.invokevirtual 56, 3) := by decide +kernel
theorem dX8_readStatement_9 : decode cX8_readStatement 9 = .ok (.ifCond .eq 8, 3) := by decide +kernel
theorem dX8_readStatement_12 : decode cX8_readStatement 12 = .ok (.aload_n 0, 1) := by decide +kernel
theorem dX8_readStatement_13 : decode cX8_readStatement 13 = .ok (.invokevirtual 110, 3) := by decide +kernel
theorem dX8_readStatement_16 : decode cX8_readStatement 16 = .ok (.ireturn, 1) := by decide +kernel
theorem dX8_readStatement_17 : decode cX8_readStatement 17 = .ok (.aload_n 0, 1) := by decide +kernel
theorem dX8_readStatement_18 : decode cX8_readStatement 18 = .ok (.getfield 12, 3) := by decide +kernel
theorem dX8_readStatement_21 : decode cX8_readStatement 21 = .ok (.ldc 113, 2) := by decide +kernel
theorem dX8_readStatement_23 : decode cX8_readStatement 23 = .ok (.invokevirtual 56, 3) := by decide +kernel
theorem dX8_readStatement_26 : decode cX8_readStatement 26 = .ok (.ifCond .eq 8, 3) := by decide +kernel
theorem dX8_readStatement_29 : decode cX8_readStatement 29 = .ok (.aload_n 0, 1) := by decide +kernel
theorem dX8_readStatement_30 : decode cX8_readStatement 30 = .ok (.invokevirtual 115, 3) := by decide +kernel
theorem dX8_readStatement_33 : decode cX8_readStatement 33 = .ok (.ireturn, 1) := by decide +kernel
theorem dX8_readStatement_34 : decode cX8_readStatement 34 = .ok (.aload_n 0, 1) := by decide +kernel
theorem dX8_readStatement_35 : decode cX8_readStatement 35 = .ok (.getfield 12, 3) := by decide +kernel
theorem dX8_readStatement_38 : decode cX8_readStatement 38 = .ok (.ldc 118, 2) := by decide +kernel
theorem dX8_readStatement_40 : decode cX8_readStatement 40 = .ok (.invokevirtual 56, 3) := by decide +kernel
theorem dX8_readStatement_43 : decode cX8_readStatement 43 = .ok (.ifCond .eq 8, 3) := by decide +kernel
theorem dX8_readStatement_46 : decode cX8_readStatement 46 = .ok (.aload_n 0, 1) := by decide +kernel
theorem dX8_readStatement_47 : decode cX8_readStatement 47 = .ok (.invokevirtual 120, 3) := by decide +kernel
theorem dX8_readStatement_50 : decode cX8_readStatement 50 = .ok (.ireturn, 1) := by decide +kernel
theorem dX8_readStatement_51 : decode cX8_readStatement 51 = .ok (.aload_n 0, 1) := by decide +kernel
theorem dX8_readStatement_52 : decode cX8_readStatement 52 = .ok (.getfield 12, 3) := by decide +kernel
theorem dX8_readStatement_55 : decode cX8_readStatement 55 = .ok (.ldc 123, 2) := by decide +kernel
theorem dX8_readStatement_57 : decode cX8_readStatement 57 = .ok (.invokevirtual 56, 3) := by decide +kernel
theorem dX8_readStatement_60 : decode cX8_readStatement 60 = .ok (.ifCond .eq 8, 3) := by decide +kernel
theorem dX8_readStatement_63 : decode cX8_readStatement 63 = .ok (.aload_n 0, 1) := by decide +kernel
theorem dX8_readStatement_64 : decode cX8_readStatement 64 = .ok (.invokevirtual 125, 3) := by decide +kernel
theorem dX8_readStatement_67 : decode cX8_readStatement 67 = .ok (.ireturn, 1) := by decide +kernel
theorem dX8_readStatement_68 : decode cX8_readStatement 68 = .ok (.aload_n 0, 1) := by decide +kernel
theorem dX8_readStatement_69 : decode cX8_readStatement 69 = .ok (.getfield 12, 3) := by decide +kernel
theorem dX8_readStatement_72 : decode cX8_readStatement 72 = .ok (.ldc 128, 2) := by decide +kernel
theorem dX8_readStatement_74 : decode cX8_readStatement 74 = .ok (.invokevirtual 56, 3) := by decide +kernel
theorem dX8_readStatement_77 : decode cX8_readStatement 77 = .ok (.ifCond .eq 8, 3) := by decide +kernel
theorem dX8_readStatement_80 : decode cX8_readStatement 80 = .ok (.aload_n 0, 1) := by decide +kernel
theorem dX8_readStatement_81 : decode cX8_readStatement 81 = .ok (.invokevirtual 130, 3) := by decide +kernel
theorem dX8_readStatement_84 : decode cX8_readStatement 84 = .ok (.ireturn, 1) := by decide +kernel
theorem dX8_readStatement_85 : decode cX8_readStatement 85 = .ok (.aload_n 0, 1) := by decide +kernel
theorem dX8_readStatement_86 : decode cX8_readStatement 86 = .ok (.getfield 12, 3) := by decide +kernel
theorem dX8_readStatement_89 : decode cX8_readStatement 89 = .ok (.ldc 133, 2) := by decide +kernel
theorem dX8_readStatement_91 : decode cX8_readStatement 91 = .ok (.invokevirtual 56, 3) := by decide +kernel
theorem dX8_readStatement_94 : decode cX8_readStatement 94 = .ok (.ifCond .eq 8, 3) := by decide +kernel
theorem dX8_readStatement_97 : decode cX8_readStatement 97 = .ok (.aload_n 0, 1) := by decide +kernel
theorem dX8_readStatement_98 : decode cX8_readStatement 98 = .ok (.invokevirtual 135, 3) := by decide +kernel
theorem dX8_readStatement_101 : decode cX8_readStatement 101 = .ok (.ireturn, 1) := by decide +kernel
theorem dX8_readStatement_102 : decode cX8_readStatement 102 = .ok (.aload_n 0, 1) := by decide +kernel
theorem dX8_readStatement_103 : decode cX8_readStatement 103 = .ok (.getfield 12, 3) := by decide +kernel
theorem dX8_readStatement_106 : decode cX8_readStatement 106 = .ok (.ldc 138, 2) := by decide +kernel
theorem dX8_readStatement_108 : decode cX8_readStatement 108 = .ok (.invokevirtual 56, 3) := by decide +kernel
theorem dX8_readStatement_111 : decode cX8_readStatement 111 = .ok (.ifCond .eq 8, 3) := by decide +kernel
theorem dX8_readStatement_114 : decode cX8_readStatement 114 = .ok (.aload_n 0, 1) := by decide +kernel
theorem dX8_readStatement_115 : decode cX8_readStatement 115 = .ok (.invokevirtual 140, 3) := by decide +kernel
theorem dX8_readStatement_118 : decode cX8_readStatement 118 = .ok (.ireturn, 1) := by decide +kernel
theorem dX8_readStatement_119 : decode cX8_readStatement 119 = .ok (.aload_n 0, 1) := by decide +kernel
theorem dX8_readStatement_120 : decode cX8_readStatement 120 = .ok (.getfield 12, 3) := by decide +kernel
theorem dX8_readStatement_123 : decode cX8_readStatement 123 = .ok (.ldc 143, 2) := by decide +kernel
theorem dX8_readStatement_125 : decode cX8_readStatement 125 = .ok (.invokevirtual 56, 3) := by decide +kernel
theorem dX8_readStatement_128 : decode cX8_readStatement 128 = .ok (.ifCond .eq 8, 3) := by decide +kernel
theorem dX8_readStatement_131 : decode cX8_readStatement 131 = .ok (.aload_n 0, 1) := by decide +kernel
theorem dX8_readStatement_132 : decode cX8_readStatement 132 = .ok (.invokevirtual 145, 3) := by decide +kernel
theorem dX8_readStatement_135 : decode cX8_readStatement 135 = .ok (.ireturn, 1) := by decide +kernel
theorem dX8_readStatement_136 : decode cX8_readStatement 136 = .ok (.aload_n 0, 1) := by decide +kernel
theorem dX8_readStatement_137 : decode cX8_readStatement 137 = .ok (.getfield 12, 3) := by decide +kernel
theorem dX8_readStatement_140 : decode cX8_readStatement 140 = .ok (.ldc 148, 2) := by decide +kernel
theorem dX8_readStatement_142 : decode cX8_readStatement 142 = .ok (.invokevirtual 56, 3) := by decide +kernel
theorem dX8_readStatement_145 : decode cX8_readStatement 145 = .ok (.ifCond .eq 8, 3) := by decide +kernel
theorem dX8_readStatement_148 : decode cX8_readStatement 148 = .ok (.aload_n 0, 1) := by decide +kernel
theorem dX8_readStatement_149 : decode cX8_readStatement 149 = .ok (.invokevirtual 150, 3) := by decide +kernel
theorem dX8_readStatement_152 : decode cX8_readStatement 152 = .ok (.ireturn, 1) := by decide +kernel
theorem dX8_readStatement_153 : decode cX8_readStatement 153 = .ok (.aload_n 0, 1) := by decide +kernel
theorem dX8_readStatement_154 : decode cX8_readStatement 154 = .ok (.getfield 12, 3) := by decide +kernel
theorem dX8_readStatement_157 : decode cX8_readStatement 157 = .ok (.ldc 153, 2) := by decide +kernel
theorem dX8_readStatement_159 : decode cX8_readStatement 159 = .ok (.invokevirtual 56, 3) := by decide +kernel
theorem dX8_readStatement_162 : decode cX8_readStatement 162 = .ok (.ifCond .eq 8, 3) := by decide +kernel
theorem dX8_readStatement_165 : decode cX8_readStatement 165 = .ok (.aload_n 0, 1) := by decide +kernel
theorem dX8_readStatement_166 : decode cX8_readStatement 166 = .ok (.invokevirtual 155, 3) := by decide +kernel
theorem dX8_readStatement_169 : decode cX8_readStatement 169 = .ok (.ireturn, 1) := by decide +kernel
theorem dX8_readStatement_170 : decode cX8_readStatement 170 = .ok (.aload_n 0, 1) := by decide +kernel
theorem dX8_readStatement_171 : decode cX8_readStatement 171 = .ok (.iconst 1, 1) := by decide +kernel
theorem dX8_readStatement_172 : decode cX8_readStatement 172 = .ok (.invokevirtual 60, 3) := by decide +kernel
theorem dX8_readStatement_175 : decode cX8_readStatement 175 = .ok (.ireturn, 1) := by decide +kernel
theorem dX8_readVariety_0 : decode cX8_readVariety 0 = .ok (.aload_n 0, 1) := by decide +kernel
theorem dX8_readVariety_1 : decode cX8_readVariety 1 = .ok (.getfield 21, 3) := by decide +kernel
theorem dX8_readVariety_4 : decode cX8_readVariety 4 = .ok (.getfield 91, 3) := by decide +kernel
theorem dX8_readVariety_7 : decode cX8_readVariety 7 = .ok (.getfield 158, 3) := by decide +kernel
theorem dX8_readVariety_10 : decode cX8_readVariety 10 = .ok (.iconst 4, 1) := by decide +kernel
theorem dX8_readVariety_11 : decode cX8_readVariety 11 = .ok (.if_icmp .lt 9, 3) := by decide +kernel
theorem dX8_readVariety_14 : decode cX8_readVariety 14 = .ok (.aload_n 0, 1) := by decide +kernel
theorem dX8_readVariety_15 : decode cX8_readVariety 15 = .ok (.iconst 5, 1) := by decide +kernel
theorem dX8_readVariety_16 : decode cX8_readVariety 16 = .ok (.invokevirtual 60, 3) := by decide +kernel
theorem dX8_readVariety_19 : decode cX8_readVariety 19 = .ok (.ireturn, 1) := by decide +kernel
theorem dX8_readVariety_20 : decode cX8_readVariety 20 = .ok (.aload_n 0, 1) := by decide +kernel
theorem dX8_readVariety_21 : decode cX8_readVariety 21 = .ok (.getfield 12, 3) := by decide +kernel
theorem dX8_readVariety_24 : decode cX8_readVariety 24 = .ok (.invokevirtual 64, 3) := by decide +kernel
theorem dX8_readVariety_27 : decode cX8_readVariety 27 = .ok (.aload_n 0, 1) := by decide +kernel
theorem dX8_readVariety_28 : decode cX8_readVariety 28 = .ok (.invokevirtual 161, 3) := by decide +kernel
theorem dX8_readVariety_31 : decode cX8_readVariety 31 = .ok (.istore_n 1, 1) := by decide +kernel
theorem dX8_readVariety_32 : decode cX8_readVariety 32 = .ok (.iload_n 1, 1) := by decide +kernel
theorem dX8_readVariety_33 : decode cX8_readVariety 33 = .ok (.ifCond .ne 5, 3) := by decide +kernel
theorem dX8_readVariety_36 : decode cX8_readVariety 36 = .ok (.iconst 0, 1) := by decide +kernel
theorem dX8_readVariety_37 : decode cX8_readVariety 37 = .ok (.ireturn, 1) := by decide +kernel
theorem dX8_readVariety_38 : decode cX8_readVariety 38 = .ok (.aload_n 0, 1) := by decide +kernel
theorem dX8_readVariety_39 : decode cX8_readVariety 39 = .ok (.getfield 21, 3) := by decide +kernel
theorem dX8_readVariety_42 : decode cX8_readVariety 42 = .ok (.getfield 91, 3) := by decide +kernel
theorem dX8_readVariety_45 : decode cX8_readVariety 45 = .ok (.iload_n 1, 1) := by decide +kernel
theorem dX8_readVariety_46 : decode cX8_readVariety 46 = .ok (.invokevirtual 165, 3) := by decide +kernel
theorem dX8_readVariety_49 : decode cX8_readVariety 49 = .ok (.aload_n 0, 1) := by decide +kernel
theorem dX8_readVariety_50 : decode cX8_readVariety 50 = .ok (.invokevirtual 79, 3) := by decide +kernel
theorem dX8_readVariety_53 : decode cX8_readVariety 53 = .ok (.ireturn, 1) := by decide +kernel
theorem dX8_readPrice_0 : decode cX8_readPrice 0 = .ok (.aload_n 0, 1) := by decide +kernel
theorem dX8_readPrice_1 : decode cX8_readPrice 1 = .ok (.getfield 12, 3) := by decide +kernel
theorem dX8_readPrice_4 : decode cX8_readPrice 4 = .ok (.invokevirtual 64, 3) := by decide +kernel
theorem dX8_readPrice_7 : decode cX8_readPrice 7 = .ok (.aload_n 0, 1) := by decide +kernel
theorem dX8_readPrice_8 : decode cX8_readPrice 8 = .ok (.invokevirtual 168, 3) := by decide +kernel
theorem dX8_readPrice_11 : decode cX8_readPrice 11 = .ok (.istore_n 1, 1) := by decide +kernel
theorem dX8_readPrice_12 : decode cX8_readPrice 12 = .ok (.iload_n 1, 1) := by decide +kernel
theorem dX8_readPrice_13 : decode cX8_readPrice 13 = .ok (.iconst (-1), 1) := by decide +kernel
theorem dX8_readPrice_14 : decode cX8_readPrice 14 = .ok (.if_icmp .ne 5, 3) := by decide +kernel
theorem dX8_readPrice_17 : decode cX8_readPrice 17 = .ok (.iconst 0, 1) := by decide +kernel
theorem dX8_readPrice_18 : decode cX8_readPrice 18 = .ok (.ireturn, 1) := by decide +kernel
theorem dX8_readPrice_19 : decode cX8_readPrice 19 = .ok (.aload_n 0, 1) := by decide +kernel
theorem dX8_readPrice_20 : decode cX8_readPrice 20 = .ok (.iconst 0, 1) := by decide +kernel
theorem dX8_readPrice_21 : decode cX8_readPrice 21 = .ok (.aload_n 0, 1) := by decide +kernel
theorem dX8_readPrice_22 : decode cX8_readPrice 22 = .ok (.getfield 21, 3) := by decide +kernel
theorem dX8_readPrice_25 : decode cX8_readPrice 25 = .ok (.getfield 91, 3) := by decide +kernel
theorem dX8_readPrice_28 : decode cX8_readPrice 28 = .ok (.getfield 103, 3) := by decide +kernel
theorem dX8_readPrice_31 : decode cX8_readPrice 31 = .ok (.iconst 1, 1) := by decide +kernel
theorem dX8_readPrice_32 : decode cX8_readPrice 32 = .ok (.isub, 1) := by decide +kernel
theorem dX8_readPrice_33 : decode cX8_readPrice 33 = .ok (.invokevirtual 67, 3) := by decide +kernel
theorem dX8_readPrice_36 : decode cX8_readPrice 36 = .ok (.istore_n 2, 1) := by decide +kernel
theorem dX8_readPrice_37 : decode cX8_readPrice 37 = .ok (.iload_n 2, 1) := by decide +kernel
theorem dX8_readPrice_38 : decode cX8_readPrice 38 = .ok (.iconst (-1), 1) := by decide +kernel
theorem dX8_readPrice_39 : decode cX8_readPrice 39 = .ok (.if_icmp .ne 5, 3) := by decide +kernel
theorem dX8_readPrice_42 : decode cX8_readPrice 42 = .ok (.iconst 0, 1) := by decide +kernel
theorem dX8_readPrice_43 : decode cX8_readPrice 43 = .ok (.ireturn, 1) := by decide +kernel
theorem dX8_readPrice_44 : decode cX8_readPrice 44 = .ok (.aload_n 0, 1) := by decide +kernel
theorem dX8_readPrice_45 : decode cX8_readPrice 45 = .ok (.iconst 0, 1) := by decide +kernel
theorem dX8_readPrice_46 : decode cX8_readPrice 46 = .ok (.sipush 999, 3) := by decide +kernel
theorem dX8_readPrice_49 : decode cX8_readPrice 49 = .ok (.invokevirtual 67, 3) := by decide +kernel
theorem dX8_readPrice_52 : decode cX8_readPrice 52 = .ok (.istore_n 3, 1) := by decide +kernel
theorem dX8_readPrice_53 : decode cX8_readPrice 53 = .ok (.iload_n 3, 1) := by decide +kernel
theorem dX8_readPrice_54 : decode cX8_readPrice 54 = .ok (.iconst (-1), 1) := by decide +kernel
theorem dX8_readPrice_55 : decode cX8_readPrice 55 = .ok (.if_icmp .ne 5, 3) := by decide +kernel
theorem dX8_readPrice_58 : decode cX8_readPrice 58 = .ok (.iconst 0, 1) := by decide +kernel
theorem dX8_readPrice_59 : decode cX8_readPrice 59 = .ok (.ireturn, 1) := by decide +kernel
theorem dX8_readPrice_60 : decode cX8_readPrice 60 = .ok (.aload_n 0, 1) := by decide +kernel
theorem dX8_readPrice_61 : decode cX8_readPrice 61 = .ok (.getfield 21, 3) := by decide +kernel
theorem dX8_readPrice_64 : decode cX8_readPrice 64 = .ok (.getfield 91, 3) := by decide +kernel
theorem dX8_readPrice_67 : decode cX8_readPrice 67 = .ok (.iload_n 1, 1) := by decide +kernel
theorem dX8_readPrice_68 : decode cX8_readPrice 68 = .ok (.iload_n 2, 1) := by decide +kernel
theorem dX8_readPrice_69 : decode cX8_readPrice 69 = .ok (.iload_n 3, 1) := by decide +kernel
theorem dX8_readPrice_70 : decode cX8_readPrice 70 = .ok (.invokevirtual 171, 3) := by decide +kernel
theorem dX8_readPrice_73 : decode cX8_readPrice 73 = .ok (.aload_n 0, 1) := by decide +kernel
theorem dX8_readPrice_74 : decode cX8_readPrice 74 = .ok (.invokevirtual 79, 3) := by decide +kernel
theorem dX8_readPrice_77 : decode cX8_readPrice 77 = .ok (.ireturn, 1) := by decide +kernel
theorem dX8_readGrower_0 : decode cX8_readGrower 0 = .ok (.aload_n 0, 1) := by decide +kernel
theorem dX8_readGrower_1 : decode cX8_readGrower 1 = .ok (.getfield 21, 3) := by decide +kernel
theorem dX8_readGrower_4 : decode cX8_readGrower 4 = .ok (.getfield 175, 3) := by decide +kernel
theorem dX8_readGrower_7 : decode cX8_readGrower 7 = .ok (.getfield 179, 3) := by decide +kernel
theorem dX8_readGrower_10 : decode cX8_readGrower 10 = .ok (.bipush 6, 2) := by decide +kernel
theorem dX8_readGrower_12 : decode cX8_readGrower 12 = .ok (.if_icmp .lt 9, 3) := by decide +kernel
theorem dX8_readGrower_15 : decode cX8_readGrower 15 = .ok (.aload_n 0, 1) := by decide +kernel
theorem dX8_readGrower_16 : decode cX8_readGrower 16 = .ok (.iconst 5, 1) := by decide +kernel
theorem dX8_readGrower_17 : decode cX8_readGrower 17 = .ok (.invokevirtual 60, 3) := by decide +kernel
theorem dX8_readGrower_20 : decode cX8_readGrower 20 = .ok (.ireturn, 1) := by decide +kernel
theorem dX8_readGrower_21 : decode cX8_readGrower 21 = .ok (.aload_n 0, 1) := by decide +kernel
theorem dX8_readGrower_22 : decode cX8_readGrower 22 = .ok (.getfield 12, 3) := by decide +kernel
theorem dX8_readGrower_25 : decode cX8_readGrower 25 = .ok (.invokevirtual 64, 3) := by decide +kernel
theorem dX8_readGrower_28 : decode cX8_readGrower 28 = .ok (.aload_n 0, 1) := by decide +kernel
theorem dX8_readGrower_29 : decode cX8_readGrower 29 = .ok (.invokevirtual 161, 3) := by decide +kernel
theorem dX8_readGrower_32 : decode cX8_readGrower 32 = .ok (.istore_n 1, 1) := by decide +kernel
theorem dX8_readGrower_33 : decode cX8_readGrower 33 = .ok (.iload_n 1, 1) := by decide +kernel
theorem dX8_readGrower_34 : decode cX8_readGrower 34 = .ok (.ifCond .ne 5, 3) := by decide +kernel
theorem dX8_readGrower_37 : decode cX8_readGrower 37 = .ok (.iconst 0, 1) := by decide +kernel
theorem dX8_readGrower_38 : decode cX8_readGrower 38 = .ok (.ireturn, 1) := by decide +kernel
theorem dX8_readGrower_39 : decode cX8_readGrower 39 = .ok (.aload_n 0, 1) := by decide +kernel
theorem dX8_readGrower_40 : decode cX8_readGrower 40 = .ok (.getfield 21, 3) := by decide +kernel
theorem dX8_readGrower_43 : decode cX8_readGrower 43 = .ok (.getfield 175, 3) := by decide +kernel
theorem dX8_readGrower_46 : decode cX8_readGrower 46 = .ok (.iload_n 1, 1) := by decide +kernel
theorem dX8_readGrower_47 : decode cX8_readGrower 47 = .ok (.invokevirtual 184, 3) := by decide +kernel
theorem dX8_readGrower_50 : decode cX8_readGrower 50 = .ok (.aload_n 0, 1) := by decide +kernel
theorem dX8_readGrower_51 : decode cX8_readGrower 51 = .ok (.invokevirtual 79, 3) := by decide +kernel
theorem dX8_readGrower_54 : decode cX8_readGrower 54 = .ok (.ireturn, 1) := by decide +kernel
theorem dX8_readPlot_0 : decode cX8_readPlot 0 = .ok (.aload_n 0, 1) := by decide +kernel
theorem dX8_readPlot_1 : decode cX8_readPlot 1 = .ok (.getfield 21, 3) := by decide +kernel
theorem dX8_readPlot_4 : decode cX8_readPlot 4 = .ok (.getfield 175, 3) := by decide +kernel
theorem dX8_readPlot_7 : decode cX8_readPlot 7 = .ok (.getfield 187, 3) := by decide +kernel
theorem dX8_readPlot_10 : decode cX8_readPlot 10 = .ok (.bipush 8, 2) := by decide +kernel
theorem dX8_readPlot_12 : decode cX8_readPlot 12 = .ok (.if_icmp .lt 9, 3) := by decide +kernel
theorem dX8_readPlot_15 : decode cX8_readPlot 15 = .ok (.aload_n 0, 1) := by decide +kernel
theorem dX8_readPlot_16 : decode cX8_readPlot 16 = .ok (.iconst 5, 1) := by decide +kernel
theorem dX8_readPlot_17 : decode cX8_readPlot 17 = .ok (.invokevirtual 60, 3) := by decide +kernel
theorem dX8_readPlot_20 : decode cX8_readPlot 20 = .ok (.ireturn, 1) := by decide +kernel
theorem dX8_readPlot_21 : decode cX8_readPlot 21 = .ok (.aload_n 0, 1) := by decide +kernel
theorem dX8_readPlot_22 : decode cX8_readPlot 22 = .ok (.getfield 12, 3) := by decide +kernel
theorem dX8_readPlot_25 : decode cX8_readPlot 25 = .ok (.invokevirtual 64, 3) := by decide +kernel
theorem dX8_readPlot_28 : decode cX8_readPlot 28 = .ok (.aload_n 0, 1) := by decide +kernel
theorem dX8_readPlot_29 : decode cX8_readPlot 29 = .ok (.invokevirtual 190, 3) := by decide +kernel
theorem dX8_readPlot_32 : decode cX8_readPlot 32 = .ok (.istore_n 1, 1) := by decide +kernel
theorem dX8_readPlot_33 : decode cX8_readPlot 33 = .ok (.iload_n 1, 1) := by decide +kernel
theorem dX8_readPlot_34 : decode cX8_readPlot 34 = .ok (.iconst (-1), 1) := by decide +kernel
theorem dX8_readPlot_35 : decode cX8_readPlot 35 = .ok (.if_icmp .ne 5, 3) := by decide +kernel
theorem dX8_readPlot_38 : decode cX8_readPlot 38 = .ok (.iconst 0, 1) := by decide +kernel
theorem dX8_readPlot_39 : decode cX8_readPlot 39 = .ok (.ireturn, 1) := by decide +kernel
theorem dX8_readPlot_40 : decode cX8_readPlot 40 = .ok (.aload_n 0, 1) := by decide +kernel
theorem dX8_readPlot_41 : decode cX8_readPlot 41 = .ok (.invokevirtual 168, 3) := by decide +kernel
theorem dX8_readPlot_44 : decode cX8_readPlot 44 = .ok (.istore_n 2, 1) := by decide +kernel
theorem dX8_readPlot_45 : decode cX8_readPlot 45 = .ok (.iload_n 2, 1) := by decide +kernel
theorem dX8_readPlot_46 : decode cX8_readPlot 46 = .ok (.iconst (-1), 1) := by decide +kernel
theorem dX8_readPlot_47 : decode cX8_readPlot 47 = .ok (.if_icmp .ne 5, 3) := by decide +kernel
theorem dX8_readPlot_50 : decode cX8_readPlot 50 = .ok (.iconst 0, 1) := by decide +kernel
theorem dX8_readPlot_51 : decode cX8_readPlot 51 = .ok (.ireturn, 1) := by decide +kernel
theorem dX8_readPlot_52 : decode cX8_readPlot 52 = .ok (.aload_n 0, 1) := by decide +kernel
theorem dX8_readPlot_53 : decode cX8_readPlot 53 = .ok (.iconst 1, 1) := by decide +kernel
theorem dX8_readPlot_54 : decode cX8_readPlot 54 = .ok (.bipush 99, 2) := by decide +kernel
theorem dX8_readPlot_56 : decode cX8_readPlot 56 = .ok (.invokevirtual 67, 3) := by decide +kernel
theorem dX8_readPlot_59 : decode cX8_readPlot 59 = .ok (.istore_n 3, 1) := by decide +kernel
theorem dX8_readPlot_60 : decode cX8_readPlot 60 = .ok (.iload_n 3, 1) := by decide +kernel
theorem dX8_readPlot_61 : decode cX8_readPlot 61 = .ok (.iconst (-1), 1) := by decide +kernel
theorem dX8_readPlot_62 : decode cX8_readPlot 62 = .ok (.if_icmp .ne 5, 3) := by decide +kernel
theorem dX8_readPlot_65 : decode cX8_readPlot 65 = .ok (.iconst 0, 1) := by decide +kernel
theorem dX8_readPlot_66 : decode cX8_readPlot 66 = .ok (.ireturn, 1) := by decide +kernel
theorem dX8_readPlot_67 : decode cX8_readPlot 67 = .ok (.aload_n 0, 1) := by decide +kernel
theorem dX8_readPlot_68 : decode cX8_readPlot 68 = .ok (.getfield 21, 3) := by decide +kernel
theorem dX8_readPlot_71 : decode cX8_readPlot 71 = .ok (.getfield 175, 3) := by decide +kernel
theorem dX8_readPlot_74 : decode cX8_readPlot 74 = .ok (.iload_n 1, 1) := by decide +kernel
theorem dX8_readPlot_75 : decode cX8_readPlot 75 = .ok (.iload_n 2, 1) := by decide +kernel
theorem dX8_readPlot_76 : decode cX8_readPlot 76 = .ok (.iload_n 3, 1) := by decide +kernel
theorem dX8_readPlot_77 : decode cX8_readPlot 77 = .ok (.aload_n 0, 1) := by decide +kernel
theorem dX8_readPlot_78 : decode cX8_readPlot 78 = .ok (.getfield 71, 3) := by decide +kernel
theorem dX8_readPlot_81 : decode cX8_readPlot 81 = .ok (.imul, 1) := by decide +kernel
theorem dX8_readPlot_82 : decode cX8_readPlot 82 = .ok (.invokevirtual 193, 3) := by decide +kernel
theorem dX8_readPlot_85 : decode cX8_readPlot 85 = .ok (.aload_n 0, 1) := by decide +kernel
theorem dX8_readPlot_86 : decode cX8_readPlot 86 = .ok (.invokevirtual 79, 3) := by decide +kernel
theorem dX8_readPlot_89 : decode cX8_readPlot 89 = .ok (.ireturn, 1) := by decide +kernel
theorem dX8_readTank_0 : decode cX8_readTank 0 = .ok (.aload_n 0, 1) := by decide +kernel
theorem dX8_readTank_1 : decode cX8_readTank 1 = .ok (.getfield 21, 3) := by decide +kernel
theorem dX8_readTank_4 : decode cX8_readTank 4 = .ok (.getfield 196, 3) := by decide +kernel
theorem dX8_readTank_7 : decode cX8_readTank 7 = .ok (.getfield 200, 3) := by decide +kernel
theorem dX8_readTank_10 : decode cX8_readTank 10 = .ok (.iconst 5, 1) := by decide +kernel
theorem dX8_readTank_11 : decode cX8_readTank 11 = .ok (.if_icmp .lt 9, 3) := by decide +kernel
theorem dX8_readTank_14 : decode cX8_readTank 14 = .ok (.aload_n 0, 1) := by decide +kernel
theorem dX8_readTank_15 : decode cX8_readTank 15 = .ok (.iconst 5, 1) := by decide +kernel
theorem dX8_readTank_16 : decode cX8_readTank 16 = .ok (.invokevirtual 60, 3) := by decide +kernel
theorem dX8_readTank_19 : decode cX8_readTank 19 = .ok (.ireturn, 1) := by decide +kernel
theorem dX8_readTank_20 : decode cX8_readTank 20 = .ok (.aload_n 0, 1) := by decide +kernel
theorem dX8_readTank_21 : decode cX8_readTank 21 = .ok (.getfield 12, 3) := by decide +kernel
theorem dX8_readTank_24 : decode cX8_readTank 24 = .ok (.invokevirtual 64, 3) := by decide +kernel
theorem dX8_readTank_27 : decode cX8_readTank 27 = .ok (.aload_n 0, 1) := by decide +kernel
theorem dX8_readTank_28 : decode cX8_readTank 28 = .ok (.iconst 1, 1) := by decide +kernel
theorem dX8_readTank_29 : decode cX8_readTank 29 = .ok (.sipush 20000, 3) := by decide +kernel
theorem dX8_readTank_32 : decode cX8_readTank 32 = .ok (.invokevirtual 67, 3) := by decide +kernel
theorem dX8_readTank_35 : decode cX8_readTank 35 = .ok (.istore_n 1, 1) := by decide +kernel
theorem dX8_readTank_36 : decode cX8_readTank 36 = .ok (.iload_n 1, 1) := by decide +kernel
theorem dX8_readTank_37 : decode cX8_readTank 37 = .ok (.iconst (-1), 1) := by decide +kernel
theorem dX8_readTank_38 : decode cX8_readTank 38 = .ok (.if_icmp .ne 5, 3) := by decide +kernel
theorem dX8_readTank_41 : decode cX8_readTank 41 = .ok (.iconst 0, 1) := by decide +kernel
theorem dX8_readTank_42 : decode cX8_readTank 42 = .ok (.ireturn, 1) := by decide +kernel
theorem dX8_readTank_43 : decode cX8_readTank 43 = .ok (.aload_n 0, 1) := by decide +kernel
theorem dX8_readTank_44 : decode cX8_readTank 44 = .ok (.getfield 21, 3) := by decide +kernel
theorem dX8_readTank_47 : decode cX8_readTank 47 = .ok (.getfield 196, 3) := by decide +kernel
theorem dX8_readTank_50 : decode cX8_readTank 50 = .ok (.iload_n 1, 1) := by decide +kernel
theorem dX8_readTank_51 : decode cX8_readTank 51 = .ok (.invokevirtual 205, 3) := by decide +kernel
theorem dX8_readTank_54 : decode cX8_readTank 54 = .ok (.aload_n 0, 1) := by decide +kernel
theorem dX8_readTank_55 : decode cX8_readTank 55 = .ok (.invokevirtual 79, 3) := by decide +kernel
theorem dX8_readTank_58 : decode cX8_readTank 58 = .ok (.ireturn, 1) := by decide +kernel
theorem dX8_readLoad_0 : decode cX8_readLoad 0 = .ok (.aload_n 0, 1) := by decide +kernel
theorem dX8_readLoad_1 : decode cX8_readLoad 1 = .ok (.getfield 12, 3) := by decide +kernel
theorem dX8_readLoad_4 : decode cX8_readLoad 4 = .ok (.invokevirtual 64, 3) := by decide +kernel
theorem dX8_readLoad_7 : decode cX8_readLoad 7 = .ok (.aload_n 0, 1) := by decide +kernel
theorem dX8_readLoad_8 : decode cX8_readLoad 8 = .ok (.iconst 0, 1) := by decide +kernel
theorem dX8_readLoad_9 : decode cX8_readLoad 9 = .ok (.aload_n 0, 1) := by decide +kernel
theorem dX8_readLoad_10 : decode cX8_readLoad 10 = .ok (.getfield 21, 3) := by decide +kernel
theorem dX8_readLoad_13 : decode cX8_readLoad 13 = .ok (.getfield 175, 3) := by decide +kernel
theorem dX8_readLoad_16 : decode cX8_readLoad 16 = .ok (.getfield 187, 3) := by decide +kernel
theorem dX8_readLoad_19 : decode cX8_readLoad 19 = .ok (.iconst 1, 1) := by decide +kernel
theorem dX8_readLoad_20 : decode cX8_readLoad 20 = .ok (.isub, 1) := by decide +kernel
theorem dX8_readLoad_21 : decode cX8_readLoad 21 = .ok (.invokevirtual 67, 3) := by decide +kernel
theorem dX8_readLoad_24 : decode cX8_readLoad 24 = .ok (.istore_n 1, 1) := by decide +kernel
theorem dX8_readLoad_25 : decode cX8_readLoad 25 = .ok (.iload_n 1, 1) := by decide +kernel
theorem dX8_readLoad_26 : decode cX8_readLoad 26 = .ok (.iconst (-1), 1) := by decide +kernel
theorem dX8_readLoad_27 : decode cX8_readLoad 27 = .ok (.if_icmp .ne 5, 3) := by decide +kernel
theorem dX8_readLoad_30 : decode cX8_readLoad 30 = .ok (.iconst 0, 1) := by decide +kernel
theorem dX8_readLoad_31 : decode cX8_readLoad 31 = .ok (.ireturn, 1) := by decide +kernel
theorem dX8_readLoad_32 : decode cX8_readLoad 32 = .ok (.aload_n 0, 1) := by decide +kernel
theorem dX8_readLoad_33 : decode cX8_readLoad 33 = .ok (.iconst 1, 1) := by decide +kernel
theorem dX8_readLoad_34 : decode cX8_readLoad 34 = .ok (.sipush 5000, 3) := by decide +kernel
theorem dX8_readLoad_37 : decode cX8_readLoad 37 = .ok (.invokevirtual 67, 3) := by decide +kernel
theorem dX8_readLoad_40 : decode cX8_readLoad 40 = .ok (.istore_n 2, 1) := by decide +kernel
theorem dX8_readLoad_41 : decode cX8_readLoad 41 = .ok (.iload_n 2, 1) := by decide +kernel
theorem dX8_readLoad_42 : decode cX8_readLoad 42 = .ok (.iconst (-1), 1) := by decide +kernel
theorem dX8_readLoad_43 : decode cX8_readLoad 43 = .ok (.if_icmp .ne 5, 3) := by decide +kernel
theorem dX8_readLoad_46 : decode cX8_readLoad 46 = .ok (.iconst 0, 1) := by decide +kernel
theorem dX8_readLoad_47 : decode cX8_readLoad 47 = .ok (.ireturn, 1) := by decide +kernel
theorem dX8_readLoad_48 : decode cX8_readLoad 48 = .ok (.aload_n 0, 1) := by decide +kernel
theorem dX8_readLoad_49 : decode cX8_readLoad 49 = .ok (.iconst 0, 1) := by decide +kernel
theorem dX8_readLoad_50 : decode cX8_readLoad 50 = .ok (.sipush 250, 3) := by decide +kernel
theorem dX8_readLoad_53 : decode cX8_readLoad 53 = .ok (.invokevirtual 67, 3) := by decide +kernel
theorem dX8_readLoad_56 : decode cX8_readLoad 56 = .ok (.istore_n 3, 1) := by decide +kernel
theorem dX8_readLoad_57 : decode cX8_readLoad 57 = .ok (.iload_n 3, 1) := by decide +kernel
theorem dX8_readLoad_58 : decode cX8_readLoad 58 = .ok (.iconst (-1), 1) := by decide +kernel
theorem dX8_readLoad_59 : decode cX8_readLoad 59 = .ok (.if_icmp .eq 10, 3) := by decide +kernel
theorem dX8_readLoad_62 : decode cX8_readLoad 62 = .ok (.aload_n 0, 1) := by decide +kernel
theorem dX8_readLoad_63 : decode cX8_readLoad 63 = .ok (.invokevirtual 208, 3) := by decide +kernel
theorem dX8_readLoad_66 : decode cX8_readLoad 66 = .ok (.ifCond .ne 5, 3) := by decide +kernel
theorem dX8_readLoad_69 : decode cX8_readLoad 69 = .ok (.iconst 0, 1) := by decide +kernel
theorem dX8_readLoad_70 : decode cX8_readLoad 70 = .ok (.ireturn, 1) := by decide +kernel
theorem dX8_readLoad_71 : decode cX8_readLoad 71 = .ok (.aload_n 0, 1) := by decide +kernel
theorem dX8_readLoad_72 : decode cX8_readLoad 72 = .ok (.getfield 21, 3) := by decide +kernel
theorem dX8_readLoad_75 : decode cX8_readLoad 75 = .ok (.iload_n 1, 1) := by decide +kernel
theorem dX8_readLoad_76 : decode cX8_readLoad 76 = .ok (.iload_n 2, 1) := by decide +kernel
theorem dX8_readLoad_77 : decode cX8_readLoad 77 = .ok (.iload_n 3, 1) := by decide +kernel
theorem dX8_readLoad_78 : decode cX8_readLoad 78 = .ok (.invokevirtual 211, 3) := by decide +kernel
theorem dX8_readLoad_81 : decode cX8_readLoad 81 = .ok (.ifCond .eq 10, 3) := by decide +kernel
theorem dX8_readLoad_84 : decode cX8_readLoad 84 = .ok (.aload_n 0, 1) := by decide +kernel
theorem dX8_readLoad_85 : decode cX8_readLoad 85 = .ok (.bipush 6, 2) := by decide +kernel
theorem dX8_readLoad_87 : decode cX8_readLoad 87 = .ok (.invokevirtual 60, 3) := by decide +kernel
theorem dX8_readLoad_90 : decode cX8_readLoad 90 = .ok (.ireturn, 1) := by decide +kernel
theorem dX8_readLoad_91 : decode cX8_readLoad 91 = .ok (.aload_n 0, 1) := by decide +kernel
theorem dX8_readLoad_92 : decode cX8_readLoad 92 = .ok (.getfield 21, 3) := by decide +kernel
theorem dX8_readLoad_95 : decode cX8_readLoad 95 = .ok (.iload_n 1, 1) := by decide +kernel
theorem dX8_readLoad_96 : decode cX8_readLoad 96 = .ok (.iload_n 2, 1) := by decide +kernel
theorem dX8_readLoad_97 : decode cX8_readLoad 97 = .ok (.iload_n 3, 1) := by decide +kernel
theorem dX8_readLoad_98 : decode cX8_readLoad 98 = .ok (.invokevirtual 215, 3) := by decide +kernel
theorem dX8_readLoad_101 : decode cX8_readLoad 101 = .ok (.pop, 1) := by decide +kernel
theorem dX8_readLoad_102 : decode cX8_readLoad 102 = .ok (.aload_n 0, 1) := by decide +kernel
theorem dX8_readLoad_103 : decode cX8_readLoad 103 = .ok (.invokevirtual 79, 3) := by decide +kernel
theorem dX8_readLoad_106 : decode cX8_readLoad 106 = .ok (.ireturn, 1) := by decide +kernel
theorem dX8_readBottle_0 : decode cX8_readBottle 0 = .ok (.aload_n 0, 1) := by decide +kernel
theorem dX8_readBottle_1 : decode cX8_readBottle 1 = .ok (.getfield 12, 3) := by decide +kernel
theorem dX8_readBottle_4 : decode cX8_readBottle 4 = .ok (.invokevirtual 64, 3) := by decide +kernel
theorem dX8_readBottle_7 : decode cX8_readBottle 7 = .ok (.aload_n 0, 1) := by decide +kernel
theorem dX8_readBottle_8 : decode cX8_readBottle 8 = .ok (.iconst 0, 1) := by decide +kernel
theorem dX8_readBottle_9 : decode cX8_readBottle 9 = .ok (.aload_n 0, 1) := by decide +kernel
theorem dX8_readBottle_10 : decode cX8_readBottle 10 = .ok (.getfield 21, 3) := by decide +kernel
theorem dX8_readBottle_13 : decode cX8_readBottle 13 = .ok (.getfield 196, 3) := by decide +kernel
theorem dX8_readBottle_16 : decode cX8_readBottle 16 = .ok (.getfield 200, 3) := by decide +kernel
theorem dX8_readBottle_19 : decode cX8_readBottle 19 = .ok (.iconst 1, 1) := by decide +kernel
theorem dX8_readBottle_20 : decode cX8_readBottle 20 = .ok (.isub, 1) := by decide +kernel
theorem dX8_readBottle_21 : decode cX8_readBottle 21 = .ok (.invokevirtual 67, 3) := by decide +kernel
theorem dX8_readBottle_24 : decode cX8_readBottle 24 = .ok (.istore_n 1, 1) := by decide +kernel
theorem dX8_readBottle_25 : decode cX8_readBottle 25 = .ok (.iload_n 1, 1) := by decide +kernel
theorem dX8_readBottle_26 : decode cX8_readBottle 26 = .ok (.ifCond .lt 8, 3) := by decide +kernel
theorem dX8_readBottle_29 : decode cX8_readBottle 29 = .ok (.iload_n 1, 1) := by decide +kernel
theorem dX8_readBottle_30 : decode cX8_readBottle 30 = .ok (.iconst 5, 1) := by decide +kernel
theorem dX8_readBottle_31 : decode cX8_readBottle 31 = .ok (.if_icmp .lt 5, 3) := by decide +kernel
theorem dX8_readBottle_34 : decode cX8_readBottle 34 = .ok (.iconst 0, 1) := by decide +kernel
theorem dX8_readBottle_35 : decode cX8_readBottle 35 = .ok (.ireturn, 1) := by decide +kernel
theorem dX8_readBottle_36 : decode cX8_readBottle 36 = .ok (.aload_n 0, 1) := by decide +kernel
theorem dX8_readBottle_37 : decode cX8_readBottle 37 = .ok (.iconst 1, 1) := by decide +kernel
theorem dX8_readBottle_38 : decode cX8_readBottle 38 = .ok (.sipush 20000, 3) := by decide +kernel
theorem dX8_readBottle_41 : decode cX8_readBottle 41 = .ok (.invokevirtual 67, 3) := by decide +kernel
theorem dX8_readBottle_44 : decode cX8_readBottle 44 = .ok (.istore_n 2, 1) := by decide +kernel
theorem dX8_readBottle_45 : decode cX8_readBottle 45 = .ok (.iload_n 2, 1) := by decide +kernel
theorem dX8_readBottle_46 : decode cX8_readBottle 46 = .ok (.iconst (-1), 1) := by decide +kernel
theorem dX8_readBottle_47 : decode cX8_readBottle 47 = .ok (.if_icmp .eq 10, 3) := by decide +kernel
theorem dX8_readBottle_50 : decode cX8_readBottle 50 = .ok (.aload_n 0, 1) := by decide +kernel
theorem dX8_readBottle_51 : decode cX8_readBottle 51 = .ok (.invokevirtual 208, 3) := by decide +kernel
theorem dX8_readBottle_54 : decode cX8_readBottle 54 = .ok (.ifCond .ne 5, 3) := by decide +kernel
theorem dX8_readBottle_57 : decode cX8_readBottle 57 = .ok (.iconst 0, 1) := by decide +kernel
theorem dX8_readBottle_58 : decode cX8_readBottle 58 = .ok (.ireturn, 1) := by decide +kernel
theorem dX8_readBottle_59 : decode cX8_readBottle 59 = .ok (.aload_n 0, 1) := by decide +kernel
theorem dX8_readBottle_60 : decode cX8_readBottle 60 = .ok (.getfield 21, 3) := by decide +kernel
theorem dX8_readBottle_63 : decode cX8_readBottle 63 = .ok (.getfield 196, 3) := by decide +kernel
theorem dX8_readBottle_66 : decode cX8_readBottle 66 = .ok (.getfield 218, 3) := by decide +kernel
theorem dX8_readBottle_69 : decode cX8_readBottle 69 = .ok (.iload_n 1, 1) := by decide +kernel
theorem dX8_readBottle_70 : decode cX8_readBottle 70 = .ok (.aaload, 1) := by decide +kernel
theorem dX8_readBottle_71 : decode cX8_readBottle 71 = .ok (.astore_n 3, 1) := by decide +kernel
theorem dX8_readBottle_72 : decode cX8_readBottle 72 = .ok (.aload_n 0, 1) := by decide +kernel
theorem dX8_readBottle_73 : decode cX8_readBottle 73 = .ok (.getfield 21, 3) := by decide +kernel
theorem dX8_readBottle_76 : decode cX8_readBottle 76 = .ok (.getfield 196, 3) := by decide +kernel
theorem dX8_readBottle_79 : decode cX8_readBottle 79 = .ok (.aload_n 3, 1) := by decide +kernel
theorem dX8_readBottle_80 : decode cX8_readBottle 80 = .ok (.iload_n 2, 1) := by decide +kernel
theorem dX8_readBottle_81 : decode cX8_readBottle 81 = .ok (.invokevirtual 222, 3) := by decide +kernel
theorem dX8_readBottle_84 : decode cX8_readBottle 84 = .ok (.ifCond .ne 10, 3) := by decide +kernel
theorem dX8_readBottle_87 : decode cX8_readBottle 87 = .ok (.aload_n 0, 1) := by decide +kernel
theorem dX8_readBottle_88 : decode cX8_readBottle 88 = .ok (.bipush 6, 2) := by decide +kernel
theorem dX8_readBottle_90 : decode cX8_readBottle 90 = .ok (.invokevirtual 60, 3) := by decide +kernel
theorem dX8_readBottle_93 : decode cX8_readBottle 93 = .ok (.ireturn, 1) := by decide +kernel
theorem dX8_readBottle_94 : decode cX8_readBottle 94 = .ok (.aload_n 0, 1) := by decide +kernel
theorem dX8_readBottle_95 : decode cX8_readBottle 95 = .ok (.getfield 21, 3) := by decide +kernel
theorem dX8_readBottle_98 : decode cX8_readBottle 98 = .ok (.getfield 196, 3) := by decide +kernel
theorem dX8_readBottle_101 : decode cX8_readBottle 101 = .ok (.aload_n 3, 1) := by decide +kernel
theorem dX8_readBottle_102 : decode cX8_readBottle 102 = .ok (.iload_n 2, 1) := by decide +kernel
theorem dX8_readBottle_103 : decode cX8_readBottle 103 = .ok (.invokevirtual 226, 3) := by decide +kernel
theorem dX8_readBottle_106 : decode cX8_readBottle 106 = .ok (.pop, 1) := by decide +kernel
theorem dX8_readBottle_107 : decode cX8_readBottle 107 = .ok (.aload_n 0, 1) := by decide +kernel
theorem dX8_readBottle_108 : decode cX8_readBottle 108 = .ok (.invokevirtual 79, 3) := by decide +kernel
theorem dX8_readBottle_111 : decode cX8_readBottle 111 = .ok (.ireturn, 1) := by decide +kernel
theorem dX8_readSell_0 : decode cX8_readSell 0 = .ok (.aload_n 0, 1) := by decide +kernel
theorem dX8_readSell_1 : decode cX8_readSell 1 = .ok (.getfield 12, 3) := by decide +kernel
theorem dX8_readSell_4 : decode cX8_readSell 4 = .ok (.invokevirtual 64, 3) := by decide +kernel
theorem dX8_readSell_7 : decode cX8_readSell 7 = .ok (.aload_n 0, 1) := by decide +kernel
theorem dX8_readSell_8 : decode cX8_readSell 8 = .ok (.iconst 0, 1) := by decide +kernel
theorem dX8_readSell_9 : decode cX8_readSell 9 = .ok (.aload_n 0, 1) := by decide +kernel
theorem dX8_readSell_10 : decode cX8_readSell 10 = .ok (.getfield 21, 3) := by decide +kernel
theorem dX8_readSell_13 : decode cX8_readSell 13 = .ok (.getfield 196, 3) := by decide +kernel
theorem dX8_readSell_16 : decode cX8_readSell 16 = .ok (.getfield 230, 3) := by decide +kernel
theorem dX8_readSell_19 : decode cX8_readSell 19 = .ok (.iconst 1, 1) := by decide +kernel
theorem dX8_readSell_20 : decode cX8_readSell 20 = .ok (.isub, 1) := by decide +kernel
theorem dX8_readSell_21 : decode cX8_readSell 21 = .ok (.invokevirtual 67, 3) := by decide +kernel
theorem dX8_readSell_24 : decode cX8_readSell 24 = .ok (.istore_n 1, 1) := by decide +kernel
theorem dX8_readSell_25 : decode cX8_readSell 25 = .ok (.iload_n 1, 1) := by decide +kernel
theorem dX8_readSell_26 : decode cX8_readSell 26 = .ok (.ifCond .lt 9, 3) := by decide +kernel
theorem dX8_readSell_29 : decode cX8_readSell 29 = .ok (.iload_n 1, 1) := by decide +kernel
theorem dX8_readSell_30 : decode cX8_readSell 30 = .ok (.bipush 12, 2) := by decide +kernel
theorem dX8_readSell_32 : decode cX8_readSell 32 = .ok (.if_icmp .lt 5, 3) := by decide +kernel
theorem dX8_readSell_35 : decode cX8_readSell 35 = .ok (.iconst 0, 1) := by decide +kernel
theorem dX8_readSell_36 : decode cX8_readSell 36 = .ok (.ireturn, 1) := by decide +kernel
theorem dX8_readSell_37 : decode cX8_readSell 37 = .ok (.aload_n 0, 1) := by decide +kernel
theorem dX8_readSell_38 : decode cX8_readSell 38 = .ok (.iconst 1, 1) := by decide +kernel
theorem dX8_readSell_39 : decode cX8_readSell 39 = .ok (.sipush 20000, 3) := by decide +kernel
theorem dX8_readSell_42 : decode cX8_readSell 42 = .ok (.invokevirtual 67, 3) := by decide +kernel
theorem dX8_readSell_45 : decode cX8_readSell 45 = .ok (.istore_n 2, 1) := by decide +kernel
theorem dX8_readSell_46 : decode cX8_readSell 46 = .ok (.iload_n 2, 1) := by decide +kernel
theorem dX8_readSell_47 : decode cX8_readSell 47 = .ok (.iconst (-1), 1) := by decide +kernel
theorem dX8_readSell_48 : decode cX8_readSell 48 = .ok (.if_icmp .ne 5, 3) := by decide +kernel
theorem dX8_readSell_51 : decode cX8_readSell 51 = .ok (.iconst 0, 1) := by decide +kernel
theorem dX8_readSell_52 : decode cX8_readSell 52 = .ok (.ireturn, 1) := by decide +kernel
theorem dX8_readSell_53 : decode cX8_readSell 53 = .ok (.aload_n 0, 1) := by decide +kernel
theorem dX8_readSell_54 : decode cX8_readSell 54 = .ok (.iconst 1, 1) := by decide +kernel
theorem dX8_readSell_55 : decode cX8_readSell 55 = .ok (.sipush 9999, 3) := by decide +kernel
theorem dX8_readSell_58 : decode cX8_readSell 58 = .ok (.invokevirtual 67, 3) := by decide +kernel
theorem dX8_readSell_61 : decode cX8_readSell 61 = .ok (.istore_n 3, 1) := by decide +kernel
theorem dX8_readSell_62 : decode cX8_readSell 62 = .ok (.iload_n 3, 1) := by decide +kernel
theorem dX8_readSell_63 : decode cX8_readSell 63 = .ok (.iconst (-1), 1) := by decide +kernel
theorem dX8_readSell_64 : decode cX8_readSell 64 = .ok (.if_icmp .eq 10, 3) := by decide +kernel
theorem dX8_readSell_67 : decode cX8_readSell 67 = .ok (.aload_n 0, 1) := by decide +kernel
theorem dX8_readSell_68 : decode cX8_readSell 68 = .ok (.invokevirtual 208, 3) := by decide +kernel
theorem dX8_readSell_71 : decode cX8_readSell 71 = .ok (.ifCond .ne 5, 3) := by decide +kernel
theorem dX8_readSell_74 : decode cX8_readSell 74 = .ok (.iconst 0, 1) := by decide +kernel
theorem dX8_readSell_75 : decode cX8_readSell 75 = .ok (.ireturn, 1) := by decide +kernel
theorem dX8_readSell_76 : decode cX8_readSell 76 = .ok (.aload_n 0, 1) := by decide +kernel
theorem dX8_readSell_77 : decode cX8_readSell 77 = .ok (.getfield 21, 3) := by decide +kernel
theorem dX8_readSell_80 : decode cX8_readSell 80 = .ok (.getfield 196, 3) := by decide +kernel
theorem dX8_readSell_83 : decode cX8_readSell 83 = .ok (.getfield 233, 3) := by decide +kernel
theorem dX8_readSell_86 : decode cX8_readSell 86 = .ok (.iload_n 1, 1) := by decide +kernel
theorem dX8_readSell_87 : decode cX8_readSell 87 = .ok (.aaload, 1) := by decide +kernel
theorem dX8_readSell_88 : decode cX8_readSell 88 = .ok (.astore 4, 2) := by decide +kernel
theorem dX8_readSell_90 : decode cX8_readSell 90 = .ok (.aload_n 0, 1) := by decide +kernel
theorem dX8_readSell_91 : decode cX8_readSell 91 = .ok (.getfield 21, 3) := by decide +kernel
theorem dX8_readSell_94 : decode cX8_readSell 94 = .ok (.aload 4, 2) := by decide +kernel
theorem dX8_readSell_96 : decode cX8_readSell 96 = .ok (.iload_n 2, 1) := by decide +kernel
theorem dX8_readSell_97 : decode cX8_readSell 97 = .ok (.iload_n 3, 1) := by decide +kernel
theorem dX8_readSell_98 : decode cX8_readSell 98 = .ok (.invokevirtual 237, 3) := by decide +kernel
theorem dX8_readSell_101 : decode cX8_readSell 101 = .ok (.ifCond .ne 10, 3) := by decide +kernel
theorem dX8_readSell_104 : decode cX8_readSell 104 = .ok (.aload_n 0, 1) := by decide +kernel
theorem dX8_readSell_105 : decode cX8_readSell 105 = .ok (.bipush 6, 2) := by decide +kernel
theorem dX8_readSell_107 : decode cX8_readSell 107 = .ok (.invokevirtual 60, 3) := by decide +kernel
theorem dX8_readSell_110 : decode cX8_readSell 110 = .ok (.ireturn, 1) := by decide +kernel
theorem dX8_readSell_111 : decode cX8_readSell 111 = .ok (.aload_n 0, 1) := by decide +kernel
theorem dX8_readSell_112 : decode cX8_readSell 112 = .ok (.getfield 21, 3) := by decide +kernel
theorem dX8_readSell_115 : decode cX8_readSell 115 = .ok (.aload 4, 2) := by decide +kernel
theorem dX8_readSell_117 : decode cX8_readSell 117 = .ok (.iload_n 2, 1) := by decide +kernel
theorem dX8_readSell_118 : decode cX8_readSell 118 = .ok (.iload_n 3, 1) := by decide +kernel
theorem dX8_readSell_119 : decode cX8_readSell 119 = .ok (.invokevirtual 241, 3) := by decide +kernel
theorem dX8_readSell_122 : decode cX8_readSell 122 = .ok (.aload_n 0, 1) := by decide +kernel
theorem dX8_readSell_123 : decode cX8_readSell 123 = .ok (.invokevirtual 79, 3) := by decide +kernel
theorem dX8_readSell_126 : decode cX8_readSell 126 = .ok (.ireturn, 1) := by decide +kernel
theorem dX8_readPay_0 : decode cX8_readPay 0 = .ok (.aload_n 0, 1) := by decide +kernel
theorem dX8_readPay_1 : decode cX8_readPay 1 = .ok (.getfield 12, 3) := by decide +kernel
theorem dX8_readPay_4 : decode cX8_readPay 4 = .ok (.invokevirtual 64, 3) := by decide +kernel
theorem dX8_readPay_7 : decode cX8_readPay 7 = .ok (.aload_n 0, 1) := by decide +kernel
theorem dX8_readPay_8 : decode cX8_readPay 8 = .ok (.invokevirtual 190, 3) := by decide +kernel
theorem dX8_readPay_11 : decode cX8_readPay 11 = .ok (.istore_n 1, 1) := by decide +kernel
theorem dX8_readPay_12 : decode cX8_readPay 12 = .ok (.iload_n 1, 1) := by decide +kernel
theorem dX8_readPay_13 : decode cX8_readPay 13 = .ok (.iconst (-1), 1) := by decide +kernel
theorem dX8_readPay_14 : decode cX8_readPay 14 = .ok (.if_icmp .eq 10, 3) := by decide +kernel
theorem dX8_readPay_17 : decode cX8_readPay 17 = .ok (.aload_n 0, 1) := by decide +kernel
theorem dX8_readPay_18 : decode cX8_readPay 18 = .ok (.invokevirtual 208, 3) := by decide +kernel
theorem dX8_readPay_21 : decode cX8_readPay 21 = .ok (.ifCond .ne 5, 3) := by decide +kernel
theorem dX8_readPay_24 : decode cX8_readPay 24 = .ok (.iconst 0, 1) := by decide +kernel
theorem dX8_readPay_25 : decode cX8_readPay 25 = .ok (.ireturn, 1) := by decide +kernel
theorem dX8_readPay_26 : decode cX8_readPay 26 = .ok (.aload_n 0, 1) := by decide +kernel
theorem dX8_readPay_27 : decode cX8_readPay 27 = .ok (.getfield 21, 3) := by decide +kernel
theorem dX8_readPay_30 : decode cX8_readPay 30 = .ok (.iload_n 1, 1) := by decide +kernel
theorem dX8_readPay_31 : decode cX8_readPay 31 = .ok (.invokevirtual 245, 3) := by decide +kernel
theorem dX8_readPay_34 : decode cX8_readPay 34 = .ok (.ifCond .ne 10, 3) := by decide +kernel
theorem dX8_readPay_37 : decode cX8_readPay 37 = .ok (.aload_n 0, 1) := by decide +kernel
theorem dX8_readPay_38 : decode cX8_readPay 38 = .ok (.bipush 6, 2) := by decide +kernel
theorem dX8_readPay_40 : decode cX8_readPay 40 = .ok (.invokevirtual 60, 3) := by decide +kernel
theorem dX8_readPay_43 : decode cX8_readPay 43 = .ok (.ireturn, 1) := by decide +kernel
theorem dX8_readPay_44 : decode cX8_readPay 44 = .ok (.aload_n 0, 1) := by decide +kernel
theorem dX8_readPay_45 : decode cX8_readPay 45 = .ok (.getfield 21, 3) := by decide +kernel
theorem dX8_readPay_48 : decode cX8_readPay 48 = .ok (.iload_n 1, 1) := by decide +kernel
theorem dX8_readPay_49 : decode cX8_readPay 49 = .ok (.invokevirtual 248, 3) := by decide +kernel
theorem dX8_readPay_52 : decode cX8_readPay 52 = .ok (.pop, 1) := by decide +kernel
theorem dX8_readPay_53 : decode cX8_readPay 53 = .ok (.aload_n 0, 1) := by decide +kernel
theorem dX8_readPay_54 : decode cX8_readPay 54 = .ok (.invokevirtual 79, 3) := by decide +kernel
theorem dX8_readPay_57 : decode cX8_readPay 57 = .ok (.ireturn, 1) := by decide +kernel
theorem dX8_readPump_0 : decode cX8_readPump 0 = .ok (.aload_n 0, 1) := by decide +kernel
theorem dX8_readPump_1 : decode cX8_readPump 1 = .ok (.getfield 12, 3) := by decide +kernel
theorem dX8_readPump_4 : decode cX8_readPump 4 = .ok (.invokevirtual 64, 3) := by decide +kernel
theorem dX8_readPump_7 : decode cX8_readPump 7 = .ok (.aload_n 0, 1) := by decide +kernel
theorem dX8_readPump_8 : decode cX8_readPump 8 = .ok (.iconst 0, 1) := by decide +kernel
theorem dX8_readPump_9 : decode cX8_readPump 9 = .ok (.aload_n 0, 1) := by decide +kernel
theorem dX8_readPump_10 : decode cX8_readPump 10 = .ok (.getfield 21, 3) := by decide +kernel
theorem dX8_readPump_13 : decode cX8_readPump 13 = .ok (.getfield 196, 3) := by decide +kernel
theorem dX8_readPump_16 : decode cX8_readPump 16 = .ok (.getfield 200, 3) := by decide +kernel
theorem dX8_readPump_19 : decode cX8_readPump 19 = .ok (.iconst 1, 1) := by decide +kernel
theorem dX8_readPump_20 : decode cX8_readPump 20 = .ok (.isub, 1) := by decide +kernel
theorem dX8_readPump_21 : decode cX8_readPump 21 = .ok (.invokevirtual 67, 3) := by decide +kernel
theorem dX8_readPump_24 : decode cX8_readPump 24 = .ok (.istore_n 1, 1) := by decide +kernel
theorem dX8_readPump_25 : decode cX8_readPump 25 = .ok (.iload_n 1, 1) := by decide +kernel
theorem dX8_readPump_26 : decode cX8_readPump 26 = .ok (.ifCond .lt 8, 3) := by decide +kernel
theorem dX8_readPump_29 : decode cX8_readPump 29 = .ok (.iload_n 1, 1) := by decide +kernel
theorem dX8_readPump_30 : decode cX8_readPump 30 = .ok (.iconst 5, 1) := by decide +kernel
theorem dX8_readPump_31 : decode cX8_readPump 31 = .ok (.if_icmp .lt 5, 3) := by decide +kernel
theorem dX8_readPump_34 : decode cX8_readPump 34 = .ok (.iconst 0, 1) := by decide +kernel
theorem dX8_readPump_35 : decode cX8_readPump 35 = .ok (.ireturn, 1) := by decide +kernel
theorem dX8_readPump_36 : decode cX8_readPump 36 = .ok (.aload_n 0, 1) := by decide +kernel
theorem dX8_readPump_37 : decode cX8_readPump 37 = .ok (.getfield 12, 3) := by decide +kernel
theorem dX8_readPump_40 : decode cX8_readPump 40 = .ok (.getfield 45, 3) := by decide +kernel
theorem dX8_readPump_43 : decode cX8_readPump 43 = .ok (.iconst 3, 1) := by decide +kernel
theorem dX8_readPump_44 : decode cX8_readPump 44 = .ok (.if_icmp .ne 20, 3) := by decide +kernel
theorem dX8_readPump_47 : decode cX8_readPump 47 = .ok (.aload_n 0, 1) := by decide +kernel
theorem dX8_readPump_48 : decode cX8_readPump 48 = .ok (.getfield 12, 3) := by decide +kernel
theorem dX8_readPump_51 : decode cX8_readPump 51 = .ok (.getfield 95, 3) := by decide +kernel
theorem dX8_readPump_54 : decode cX8_readPump 54 = .ok (.iload_n 1, 1) := by decide +kernel
theorem dX8_readPump_55 : decode cX8_readPump 55 = .ok (.if_icmp .ne 9, 3) := by decide +kernel
theorem dX8_readPump_58 : decode cX8_readPump 58 = .ok (.aload_n 0, 1) := by decide +kernel
theorem dX8_readPump_59 : decode cX8_readPump 59 = .ok (.iconst 3, 1) := by decide +kernel
theorem dX8_readPump_60 : decode cX8_readPump 60 = .ok (.invokevirtual 60, 3) := by decide +kernel
theorem dX8_readPump_63 : decode cX8_readPump 63 = .ok (.ireturn, 1) := by decide +kernel
theorem dX8_readPump_64 : decode cX8_readPump 64 = .ok (.aload_n 0, 1) := by decide +kernel
theorem dX8_readPump_65 : decode cX8_readPump 65 = .ok (.iconst 0, 1) := by decide +kernel
theorem dX8_readPump_66 : decode cX8_readPump 66 = .ok (.aload_n 0, 1) := by decide +kernel
theorem dX8_readPump_67 : decode cX8_readPump 67 = .ok (.getfield 21, 3) := by decide +kernel
theorem dX8_readPump_70 : decode cX8_readPump 70 = .ok (.getfield 196, 3) := by decide +kernel
theorem dX8_readPump_73 : decode cX8_readPump 73 = .ok (.getfield 200, 3) := by decide +kernel
theorem dX8_readPump_76 : decode cX8_readPump 76 = .ok (.iconst 1, 1) := by decide +kernel
theorem dX8_readPump_77 : decode cX8_readPump 77 = .ok (.isub, 1) := by decide +kernel
theorem dX8_readPump_78 : decode cX8_readPump 78 = .ok (.invokevirtual 67, 3) := by decide +kernel
theorem dX8_readPump_81 : decode cX8_readPump 81 = .ok (.istore_n 2, 1) := by decide +kernel
theorem dX8_readPump_82 : decode cX8_readPump 82 = .ok (.iload_n 2, 1) := by decide +kernel
theorem dX8_readPump_83 : decode cX8_readPump 83 = .ok (.ifCond .lt 15, 3) := by decide +kernel
theorem dX8_readPump_86 : decode cX8_readPump 86 = .ok (.iload_n 2, 1) := by decide +kernel
theorem dX8_readPump_87 : decode cX8_readPump 87 = .ok (.iconst 5, 1) := by decide +kernel
theorem dX8_readPump_88 : decode cX8_readPump 88 = .ok (.if_icmp .ge 10, 3) := by decide +kernel
theorem dX8_readPump_91 : decode cX8_readPump 91 = .ok (.aload_n 0, 1) := by decide +kernel
theorem dX8_readPump_92 : decode cX8_readPump 92 = .ok (.invokevirtual 208, 3) := by decide +kernel
theorem dX8_readPump_95 : decode cX8_readPump 95 = .ok (.ifCond .ne 5, 3) := by decide +kernel
theorem dX8_readPump_98 : decode cX8_readPump 98 = .ok (.iconst 0, 1) := by decide +kernel
theorem dX8_readPump_99 : decode cX8_readPump 99 = .ok (.ireturn, 1) := by decide +kernel
theorem dX8_readPump_100 : decode cX8_readPump 100 = .ok (.aload_n 0, 1) := by decide +kernel
theorem dX8_readPump_101 : decode cX8_readPump 101 = .ok (.getfield 21, 3) := by decide +kernel
theorem dX8_readPump_104 : decode cX8_readPump 104 = .ok (.getfield 196, 3) := by decide +kernel
theorem dX8_readPump_107 : decode cX8_readPump 107 = .ok (.getfield 218, 3) := by decide +kernel
theorem dX8_readPump_110 : decode cX8_readPump 110 = .ok (.iload_n 1, 1) := by decide +kernel
theorem dX8_readPump_111 : decode cX8_readPump 111 = .ok (.aaload, 1) := by decide +kernel
theorem dX8_readPump_112 : decode cX8_readPump 112 = .ok (.aload_n 0, 1) := by decide +kernel
theorem dX8_readPump_113 : decode cX8_readPump 113 = .ok (.getfield 21, 3) := by decide +kernel
theorem dX8_readPump_116 : decode cX8_readPump 116 = .ok (.getfield 196, 3) := by decide +kernel
theorem dX8_readPump_119 : decode cX8_readPump 119 = .ok (.getfield 218, 3) := by decide +kernel
theorem dX8_readPump_122 : decode cX8_readPump 122 = .ok (.iload_n 2, 1) := by decide +kernel
theorem dX8_readPump_123 : decode cX8_readPump 123 = .ok (.aaload, 1) := by decide +kernel
theorem dX8_readPump_124 : decode cX8_readPump 124 = .ok (.invokevirtual 252, 3) := by decide +kernel
theorem dX8_readPump_127 : decode cX8_readPump 127 = .ok (.ifCond .ne 10, 3) := by decide +kernel
theorem dX8_readPump_130 : decode cX8_readPump 130 = .ok (.aload_n 0, 1) := by decide +kernel
theorem dX8_readPump_131 : decode cX8_readPump 131 = .ok (.bipush 6, 2) := by decide +kernel
theorem dX8_readPump_133 : decode cX8_readPump 133 = .ok (.invokevirtual 60, 3) := by decide +kernel
theorem dX8_readPump_136 : decode cX8_readPump 136 = .ok (.ireturn, 1) := by decide +kernel
theorem dX8_readPump_137 : decode cX8_readPump 137 = .ok (.aload_n 0, 1) := by decide +kernel
theorem dX8_readPump_138 : decode cX8_readPump 138 = .ok (.getfield 21, 3) := by decide +kernel
theorem dX8_readPump_141 : decode cX8_readPump 141 = .ok (.getfield 196, 3) := by decide +kernel
theorem dX8_readPump_144 : decode cX8_readPump 144 = .ok (.getfield 218, 3) := by decide +kernel
theorem dX8_readPump_147 : decode cX8_readPump 147 = .ok (.iload_n 1, 1) := by decide +kernel
theorem dX8_readPump_148 : decode cX8_readPump 148 = .ok (.aaload, 1) := by decide +kernel
theorem dX8_readPump_149 : decode cX8_readPump 149 = .ok (.aload_n 0, 1) := by decide +kernel
theorem dX8_readPump_150 : decode cX8_readPump 150 = .ok (.getfield 21, 3) := by decide +kernel
theorem dX8_readPump_153 : decode cX8_readPump 153 = .ok (.getfield 196, 3) := by decide +kernel
theorem dX8_readPump_156 : decode cX8_readPump 156 = .ok (.getfield 218, 3) := by decide +kernel
theorem dX8_readPump_159 : decode cX8_readPump 159 = .ok (.iload_n 2, 1) := by decide +kernel
theorem dX8_readPump_160 : decode cX8_readPump 160 = .ok (.aaload, 1) := by decide +kernel
theorem dX8_readPump_161 : decode cX8_readPump 161 = .ok (.invokevirtual 258, 3) := by decide +kernel
theorem dX8_readPump_164 : decode cX8_readPump 164 = .ok (.aload_n 0, 1) := by decide +kernel
theorem dX8_readPump_165 : decode cX8_readPump 165 = .ok (.invokevirtual 79, 3) := by decide +kernel
theorem dX8_readPump_168 : decode cX8_readPump 168 = .ok (.ireturn, 1) := by decide +kernel
theorem dX8_isNumberHere_0 : decode cX8_isNumberHere 0 = .ok (.aload_n 0, 1) := by decide +kernel
theorem dX8_isNumberHere_1 : decode cX8_isNumberHere 1 = .ok (.getfield 12, 3) := by decide +kernel
theorem dX8_isNumberHere_4 : decode cX8_isNumberHere 4 = .ok (.getfield 45, 3) := by decide +kernel
theorem dX8_isNumberHere_7 : decode cX8_isNumberHere 7 = .ok (.iconst 3, 1) := by decide +kernel
theorem dX8_isNumberHere_8 : decode cX8_isNumberHere 8 = .ok (.if_icmp .eq 9, 3) := by decide +kernel
theorem dX8_isNumberHere_11 : decode cX8_isNumberHere 11 = .ok (.aload_n 0, 1) := by decide +kernel
theorem dX8_isNumberHere_12 : decode cX8_isNumberHere 12 = .ok (.iconst 1, 1) := by decide +kernel
theorem dX8_isNumberHere_13 : decode cX8_isNumberHere 13 = .ok (.invokevirtual 60, 3) := by decide +kernel
theorem dX8_isNumberHere_16 : decode cX8_isNumberHere 16 = .ok (.ireturn, 1) := by decide +kernel
theorem dX8_isNumberHere_17 : decode cX8_isNumberHere 17 = .ok (.aload_n 0, 1) := by decide +kernel
theorem dX8_isNumberHere_18 : decode cX8_isNumberHere 18 = .ok (.getfield 12, 3) := by decide +kernel
theorem dX8_isNumberHere_21 : decode cX8_isNumberHere 21 = .ok (.getfield 95, 3) := by decide +kernel
theorem dX8_isNumberHere_24 : decode cX8_isNumberHere 24 = .ok (.iload_n 1, 1) := by decide +kernel
theorem dX8_isNumberHere_25 : decode cX8_isNumberHere 25 = .ok (.if_icmp .lt 14, 3) := by decide +kernel
theorem dX8_isNumberHere_28 : decode cX8_isNumberHere 28 = .ok (.aload_n 0, 1) := by decide +kernel
theorem dX8_isNumberHere_29 : decode cX8_isNumberHere 29 = .ok (.getfield 12, 3) := by decide +kernel
theorem dX8_isNumberHere_32 : decode cX8_isNumberHere 32 = .ok (.getfield 95, 3) := by decide +kernel
theorem dX8_isNumberHere_35 : decode cX8_isNumberHere 35 = .ok (.iload_n 2, 1) := by decide +kernel
theorem dX8_isNumberHere_36 : decode cX8_isNumberHere 36 = .ok (.if_icmp .le 9, 3) := by decide +kernel
theorem dX8_isNumberHere_39 : decode cX8_isNumberHere 39 = .ok (.aload_n 0, 1) := by decide +kernel
theorem dX8_isNumberHere_40 : decode cX8_isNumberHere 40 = .ok (.iconst 2, 1) := by decide +kernel
theorem dX8_isNumberHere_41 : decode cX8_isNumberHere 41 = .ok (.invokevirtual 60, 3) := by decide +kernel
theorem dX8_isNumberHere_44 : decode cX8_isNumberHere 44 = .ok (.ireturn, 1) := by decide +kernel
theorem dX8_isNumberHere_45 : decode cX8_isNumberHere 45 = .ok (.iconst 1, 1) := by decide +kernel
theorem dX8_isNumberHere_46 : decode cX8_isNumberHere 46 = .ok (.ireturn, 1) := by decide +kernel
theorem dX8_readNumber_0 : decode cX8_readNumber 0 = .ok (.aload_n 0, 1) := by decide +kernel
theorem dX8_readNumber_1 : decode cX8_readNumber 1 = .ok (.iload_n 1, 1) := by decide +kernel
theorem dX8_readNumber_2 : decode cX8_readNumber 2 = .ok (.iload_n 2, 1) := by decide +kernel
theorem dX8_readNumber_3 : decode cX8_readNumber 3 = .ok (.invokevirtual 87, 3) := by decide +kernel
theorem dX8_readNumber_6 : decode cX8_readNumber 6 = .ok (.ifCond .ne 5, 3) := by decide +kernel
theorem dX8_readNumber_9 : decode cX8_readNumber 9 = .ok (.iconst (-1), 1) := by decide +kernel
theorem dX8_readNumber_10 : decode cX8_readNumber 10 = .ok (.ireturn, 1) := by decide +kernel
theorem dX8_readNumber_11 : decode cX8_readNumber 11 = .ok (.aload_n 0, 1) := by decide +kernel
theorem dX8_readNumber_12 : decode cX8_readNumber 12 = .ok (.getfield 12, 3) := by decide +kernel
theorem dX8_readNumber_15 : decode cX8_readNumber 15 = .ok (.getfield 95, 3) := by decide +kernel
theorem dX8_readNumber_18 : decode cX8_readNumber 18 = .ok (.istore_n 3, 1) := by decide +kernel
theorem dX8_readNumber_19 : decode cX8_readNumber 19 = .ok (.aload_n 0, 1) := by decide +kernel
theorem dX8_readNumber_20 : decode cX8_readNumber 20 = .ok (.getfield 12, 3) := by decide +kernel
theorem dX8_readNumber_23 : decode cX8_readNumber 23 = .ok (.invokevirtual 64, 3) := by decide +kernel
theorem dX8_readNumber_26 : decode cX8_readNumber 26 = .ok (.iload_n 3, 1) := by decide +kernel
theorem dX8_readNumber_27 : decode cX8_readNumber 27 = .ok (.ireturn, 1) := by decide +kernel
theorem dX8_isWordHere_0 : decode cX8_isWordHere 0 = .ok (.aload_n 0, 1) := by decide +kernel
theorem dX8_isWordHere_1 : decode cX8_isWordHere 1 = .ok (.getfield 12, 3) := by decide +kernel
theorem dX8_isWordHere_4 : decode cX8_isWordHere 4 = .ok (.getfield 45, 3) := by decide +kernel
theorem dX8_isWordHere_7 : decode cX8_isWordHere 7 = .ok (.iconst 2, 1) := by decide +kernel
theorem dX8_isWordHere_8 : decode cX8_isWordHere 8 = .ok (.if_icmp .eq 11, 3) := by decide +kernel
theorem dX8_isWordHere_11 : decode cX8_isWordHere 11 = .ok (.aload_n 0, 1) := by decide +kernel
theorem dX8_isWordHere_12 : decode cX8_isWordHere 12 = .ok (.iconst 1, 1) := by decide +kernel
theorem dX8_isWordHere_13 : decode cX8_isWordHere 13 = .ok (.invokevirtual 60, 3) := by decide +kernel
theorem dX8_isWordHere_16 : decode cX8_isWordHere 16 = .ok (.ifCond .eq 7, 3) := by decide +kernel
theorem dX8_isWordHere_19 : decode cX8_isWordHere 19 = .ok (.iconst 1, 1) := by decide +kernel
theorem dX8_isWordHere_20 : decode cX8_isWordHere 20 = .ok (.goto 4, 3) := by decide +kernel
theorem dX8_isWordHere_23 : decode cX8_isWordHere 23 = .ok (.iconst 0, 1) := by decide +kernel
theorem dX8_isWordHere_24 : decode cX8_isWordHere 24 = .ok (.ireturn, 1) := by decide +kernel
theorem dX8_readNewName_0 : decode cX8_readNewName 0 = .ok (.aload_n 0, 1) := by decide +kernel
theorem dX8_readNewName_1 : decode cX8_readNewName 1 = .ok (.invokevirtual 262, 3) := by decide +kernel
theorem dX8_readNewName_4 : decode cX8_readNewName 4 = .ok (.ifCond .ne 5, 3) := by decide +kernel
theorem dX8_readNewName_7 : decode cX8_readNewName 7 = .ok (.iconst 0, 1) := by decide +kernel
theorem dX8_readNewName_8 : decode cX8_readNewName 8 = .ok (.ireturn, 1) := by decide +kernel
theorem dX8_readNewName_9 : decode cX8_readNewName 9 = .ok (.aload_n 0, 1) := by decide +kernel
theorem dX8_readNewName_10 : decode cX8_readNewName 10 = .ok (.getfield 12, 3) := by decide +kernel
theorem dX8_readNewName_13 : decode cX8_readNewName 13 = .ok (.getfield 265, 3) := by decide +kernel
theorem dX8_readNewName_16 : decode cX8_readNewName 16 = .ok (.istore_n 1, 1) := by decide +kernel
theorem dX8_readNewName_17 : decode cX8_readNewName 17 = .ok (.iload_n 1, 1) := by decide +kernel
theorem dX8_readNewName_18 : decode cX8_readNewName 18 = .ok (.ifCond .ne 11, 3) := by decide +kernel
theorem dX8_readNewName_21 : decode cX8_readNewName 21 = .ok (.aload_n 0, 1) := by decide +kernel
theorem dX8_readNewName_22 : decode cX8_readNewName 22 = .ok (.iconst 2, 1) := by decide +kernel
theorem dX8_readNewName_23 : decode cX8_readNewName 23 = .ok (.invokevirtual 60, 3) := by decide +kernel
theorem dX8_readNewName_26 : decode cX8_readNewName 26 = .ok (.pop, 1) := by decide +kernel
theorem dX8_readNewName_27 : decode cX8_readNewName 27 = .ok (.iconst 0, 1) := by decide +kernel
theorem dX8_readNewName_28 : decode cX8_readNewName 28 = .ok (.ireturn, 1) := by decide +kernel
theorem dX8_readNewName_29 : decode cX8_readNewName 29 = .ok (.aload_n 0, 1) := by decide +kernel
theorem dX8_readNewName_30 : decode cX8_readNewName 30 = .ok (.getfield 21, 3) := by decide +kernel
theorem dX8_readNewName_33 : decode cX8_readNewName 33 = .ok (.iload_n 1, 1) := by decide +kernel
theorem dX8_readNewName_34 : decode cX8_readNewName 34 = .ok (.invokevirtual 268, 3) := by decide +kernel
theorem dX8_readNewName_37 : decode cX8_readNewName 37 = .ok (.ifCond .eq 11, 3) := by decide +kernel
theorem dX8_readNewName_40 : decode cX8_readNewName 40 = .ok (.aload_n 0, 1) := by decide +kernel
theorem dX8_readNewName_41 : decode cX8_readNewName 41 = .ok (.iconst 3, 1) := by decide +kernel
theorem dX8_readNewName_42 : decode cX8_readNewName 42 = .ok (.invokevirtual 60, 3) := by decide +kernel
theorem dX8_readNewName_45 : decode cX8_readNewName 45 = .ok (.pop, 1) := by decide +kernel
theorem dX8_readNewName_46 : decode cX8_readNewName 46 = .ok (.iconst 0, 1) := by decide +kernel
theorem dX8_readNewName_47 : decode cX8_readNewName 47 = .ok (.ireturn, 1) := by decide +kernel
theorem dX8_readNewName_48 : decode cX8_readNewName 48 = .ok (.aload_n 0, 1) := by decide +kernel
theorem dX8_readNewName_49 : decode cX8_readNewName 49 = .ok (.getfield 12, 3) := by decide +kernel
theorem dX8_readNewName_52 : decode cX8_readNewName 52 = .ok (.invokevirtual 64, 3) := by decide +kernel
theorem dX8_readNewName_55 : decode cX8_readNewName 55 = .ok (.iload_n 1, 1) := by decide +kernel
theorem dX8_readNewName_56 : decode cX8_readNewName 56 = .ok (.ireturn, 1) := by decide +kernel
theorem dX8_readVarietyName_0 : decode cX8_readVarietyName 0 = .ok (.aload_n 0, 1) := by decide +kernel
theorem dX8_readVarietyName_1 : decode cX8_readVarietyName 1 = .ok (.invokevirtual 262, 3) := by decide +kernel
theorem dX8_readVarietyName_4 : decode cX8_readVarietyName 4 = .ok (.ifCond .ne 5, 3) := by decide +kernel
theorem dX8_readVarietyName_7 : decode cX8_readVarietyName 7 = .ok (.iconst (-1), 1) := by decide +kernel
theorem dX8_readVarietyName_8 : decode cX8_readVarietyName 8 = .ok (.ireturn, 1) := by decide +kernel
theorem dX8_readVarietyName_9 : decode cX8_readVarietyName 9 = .ok (.aload_n 0, 1) := by decide +kernel
theorem dX8_readVarietyName_10 : decode cX8_readVarietyName 10 = .ok (.getfield 21, 3) := by decide +kernel
theorem dX8_readVarietyName_13 : decode cX8_readVarietyName 13 = .ok (.getfield 91, 3) := by decide +kernel
theorem dX8_readVarietyName_16 : decode cX8_readVarietyName 16 = .ok (.aload_n 0, 1) := by decide +kernel
theorem dX8_readVarietyName_17 : decode cX8_readVarietyName 17 = .ok (.getfield 12, 3) := by decide +kernel
theorem dX8_readVarietyName_20 : decode cX8_readVarietyName 20 = .ok (.getfield 265, 3) := by decide +kernel
theorem dX8_readVarietyName_23 : decode cX8_readVarietyName 23 = .ok (.invokevirtual 271, 3) := by decide +kernel
theorem dX8_readVarietyName_26 : decode cX8_readVarietyName 26 = .ok (.istore_n 1, 1) := by decide +kernel
theorem dX8_readVarietyName_27 : decode cX8_readVarietyName 27 = .ok (.iload_n 1, 1) := by decide +kernel
theorem dX8_readVarietyName_28 : decode cX8_readVarietyName 28 = .ok (.iconst (-1), 1) := by decide +kernel
theorem dX8_readVarietyName_29 : decode cX8_readVarietyName 29 = .ok (.if_icmp .ne 12, 3) := by decide +kernel
theorem dX8_readVarietyName_32 : decode cX8_readVarietyName 32 = .ok (.aload_n 0, 1) := by decide +kernel
theorem dX8_readVarietyName_33 : decode cX8_readVarietyName 33 = .ok (.iconst 4, 1) := by decide +kernel
theorem dX8_readVarietyName_34 : decode cX8_readVarietyName 34 = .ok (.invokevirtual 60, 3) := by decide +kernel
theorem dX8_readVarietyName_37 : decode cX8_readVarietyName 37 = .ok (.pop, 1) := by decide +kernel
theorem dX8_readVarietyName_38 : decode cX8_readVarietyName 38 = .ok (.goto 10, 3) := by decide +kernel
theorem dX8_readVarietyName_41 : decode cX8_readVarietyName 41 = .ok (.aload_n 0, 1) := by decide +kernel
theorem dX8_readVarietyName_42 : decode cX8_readVarietyName 42 = .ok (.getfield 12, 3) := by decide +kernel
theorem dX8_readVarietyName_45 : decode cX8_readVarietyName 45 = .ok (.invokevirtual 64, 3) := by decide +kernel
theorem dX8_readVarietyName_48 : decode cX8_readVarietyName 48 = .ok (.iload_n 1, 1) := by decide +kernel
theorem dX8_readVarietyName_49 : decode cX8_readVarietyName 49 = .ok (.ireturn, 1) := by decide +kernel
theorem dX8_readGrowerName_0 : decode cX8_readGrowerName 0 = .ok (.aload_n 0, 1) := by decide +kernel
theorem dX8_readGrowerName_1 : decode cX8_readGrowerName 1 = .ok (.invokevirtual 262, 3) := by decide +kernel
theorem dX8_readGrowerName_4 : decode cX8_readGrowerName 4 = .ok (.ifCond .ne 5, 3) := by decide +kernel
theorem dX8_readGrowerName_7 : decode cX8_readGrowerName 7 = .ok (.iconst (-1), 1) := by decide +kernel
theorem dX8_readGrowerName_8 : decode cX8_readGrowerName 8 = .ok (.ireturn, 1) := by decide +kernel
theorem dX8_readGrowerName_9 : decode cX8_readGrowerName 9 = .ok (.aload_n 0, 1) := by decide +kernel
theorem dX8_readGrowerName_10 : decode cX8_readGrowerName 10 = .ok (.getfield 21, 3) := by decide +kernel
theorem dX8_readGrowerName_13 : decode cX8_readGrowerName 13 = .ok (.getfield 175, 3) := by decide +kernel
theorem dX8_readGrowerName_16 : decode cX8_readGrowerName 16 = .ok (.aload_n 0, 1) := by decide +kernel
theorem dX8_readGrowerName_17 : decode cX8_readGrowerName 17 = .ok (.getfield 12, 3) := by decide +kernel
theorem dX8_readGrowerName_20 : decode cX8_readGrowerName 20 = .ok (.getfield 265, 3) := by decide +kernel
theorem dX8_readGrowerName_23 : decode cX8_readGrowerName 23 = .ok (.invokevirtual 274, 3) := by decide +kernel
theorem dX8_readGrowerName_26 : decode cX8_readGrowerName 26 = .ok (.istore_n 1, 1) := by decide +kernel
theorem dX8_readGrowerName_27 : decode cX8_readGrowerName 27 = .ok (.iload_n 1, 1) := by decide +kernel
theorem dX8_readGrowerName_28 : decode cX8_readGrowerName 28 = .ok (.iconst (-1), 1) := by decide +kernel
theorem dX8_readGrowerName_29 : decode cX8_readGrowerName 29 = .ok (.if_icmp .ne 12, 3) := by decide +kernel
theorem dX8_readGrowerName_32 : decode cX8_readGrowerName 32 = .ok (.aload_n 0, 1) := by decide +kernel
theorem dX8_readGrowerName_33 : decode cX8_readGrowerName 33 = .ok (.iconst 4, 1) := by decide +kernel
theorem dX8_readGrowerName_34 : decode cX8_readGrowerName 34 = .ok (.invokevirtual 60, 3) := by decide +kernel
theorem dX8_readGrowerName_37 : decode cX8_readGrowerName 37 = .ok (.pop, 1) := by decide +kernel
theorem dX8_readGrowerName_38 : decode cX8_readGrowerName 38 = .ok (.goto 10, 3) := by decide +kernel
theorem dX8_readGrowerName_41 : decode cX8_readGrowerName 41 = .ok (.aload_n 0, 1) := by decide +kernel
theorem dX8_readGrowerName_42 : decode cX8_readGrowerName 42 = .ok (.getfield 12, 3) := by decide +kernel
theorem dX8_readGrowerName_45 : decode cX8_readGrowerName 45 = .ok (.invokevirtual 64, 3) := by decide +kernel
theorem dX8_readGrowerName_48 : decode cX8_readGrowerName 48 = .ok (.iload_n 1, 1) := by decide +kernel
theorem dX8_readGrowerName_49 : decode cX8_readGrowerName 49 = .ok (.ireturn, 1) := by decide +kernel
theorem dX8_isSemicolonHere_0 : decode cX8_isSemicolonHere 0 = .ok (.aload_n 0, 1) := by decide +kernel
theorem dX8_isSemicolonHere_1 : decode cX8_isSemicolonHere 1 = .ok (.getfield 12, 3) := by decide +kernel
theorem dX8_isSemicolonHere_4 : decode cX8_isSemicolonHere 4 = .ok (.getfield 45, 3) := by decide +kernel
theorem dX8_isSemicolonHere_7 : decode cX8_isSemicolonHere 7 = .ok (.iconst 4, 1) := by decide +kernel
theorem dX8_isSemicolonHere_8 : decode cX8_isSemicolonHere 8 = .ok (.if_icmp .eq 11, 3) := by decide +kernel
theorem dX8_isSemicolonHere_11 : decode cX8_isSemicolonHere 11 = .ok (.aload_n 0, 1) := by decide +kernel
theorem dX8_isSemicolonHere_12 : decode cX8_isSemicolonHere 12 = .ok (.iconst 1, 1) := by decide +kernel
theorem dX8_isSemicolonHere_13 : decode cX8_isSemicolonHere 13 = .ok (.invokevirtual 60, 3) := by decide +kernel
theorem dX8_isSemicolonHere_16 : decode cX8_isSemicolonHere 16 = .ok (.ifCond .eq 7, 3) := by decide +kernel
theorem dX8_isSemicolonHere_19 : decode cX8_isSemicolonHere 19 = .ok (.iconst 1, 1) := by decide +kernel
theorem dX8_isSemicolonHere_20 : decode cX8_isSemicolonHere 20 = .ok (.goto 4, 3) := by decide +kernel
theorem dX8_isSemicolonHere_23 : decode cX8_isSemicolonHere 23 = .ok (.iconst 0, 1) := by decide +kernel
theorem dX8_isSemicolonHere_24 : decode cX8_isSemicolonHere 24 = .ok (.ireturn, 1) := by decide +kernel
theorem dX8_readSemicolon_0 : decode cX8_readSemicolon 0 = .ok (.aload_n 0, 1) := by decide +kernel
theorem dX8_readSemicolon_1 : decode cX8_readSemicolon 1 = .ok (.invokevirtual 208, 3) := by decide +kernel
theorem dX8_readSemicolon_4 : decode cX8_readSemicolon 4 = .ok (.ifCond .ne 5, 3) := by decide +kernel
theorem dX8_readSemicolon_7 : decode cX8_readSemicolon 7 = .ok (.iconst 0, 1) := by decide +kernel
theorem dX8_readSemicolon_8 : decode cX8_readSemicolon 8 = .ok (.ireturn, 1) := by decide +kernel
theorem dX8_readSemicolon_9 : decode cX8_readSemicolon 9 = .ok (.aload_n 0, 1) := by decide +kernel
theorem dX8_readSemicolon_10 : decode cX8_readSemicolon 10 = .ok (.getfield 12, 3) := by decide +kernel
theorem dX8_readSemicolon_13 : decode cX8_readSemicolon 13 = .ok (.invokevirtual 64, 3) := by decide +kernel
theorem dX8_readSemicolon_16 : decode cX8_readSemicolon 16 = .ok (.iconst 1, 1) := by decide +kernel
theorem dX8_readSemicolon_17 : decode cX8_readSemicolon 17 = .ok (.ireturn, 1) := by decide +kernel
theorem dX8_fail_0 : decode cX8_fail 0 = .ok (.aload_n 0, 1) := by decide +kernel
theorem dX8_fail_1 : decode cX8_fail 1 = .ok (.iload_n 1, 1) := by decide +kernel
theorem dX8_fail_2 : decode cX8_fail 2 = .ok (.putfield 29, 3) := by decide +kernel
theorem dX8_fail_5 : decode cX8_fail 5 = .ok (.aload_n 0, 1) := by decide +kernel
theorem dX8_fail_6 : decode cX8_fail 6 = .ok (.aload_n 0, 1) := by decide +kernel
theorem dX8_fail_7 : decode cX8_fail 7 = .ok (.getfield 12, 3) := by decide +kernel
theorem dX8_fail_10 : decode cX8_fail 10 = .ok (.getfield 277, 3) := by decide +kernel
theorem dX8_fail_13 : decode cX8_fail 13 = .ok (.putfield 25, 3) := by decide +kernel
theorem dX8_fail_16 : decode cX8_fail 16 = .ok (.iconst 0, 1) := by decide +kernel
theorem dX8_fail_17 : decode cX8_fail 17 = .ok (.ireturn, 1) := by decide +kernel
theorem dX9_init_0 : decode cX9_init 0 = .ok (.aload_n 0, 1) := by decide +kernel
theorem dX9_init_1 : decode cX9_init 1 = .ok (.invokespecial 3, 3) := by decide +kernel
theorem dX9_init_4 : decode cX9_init 4 = .ok (.aload_n 0, 1) := by decide +kernel
theorem dX9_init_5 : decode cX9_init 5 = .ok (.iconst (-1), 1) := by decide +kernel
theorem dX9_init_6 : decode cX9_init 6 = .ok (.putfield 9, 3) := by decide +kernel
theorem dX9_init_9 : decode cX9_init 9 = .ok (.return_, 1) := by decide +kernel
theorem dX9_copyFrom_0 : decode cX9_copyFrom 0 = .ok (.aload_n 0, 1) := by decide +kernel
theorem dX9_copyFrom_1 : decode cX9_copyFrom 1 = .ok (.aload_n 1, 1) := by decide +kernel
theorem dX9_copyFrom_2 : decode cX9_copyFrom 2 = .ok (.getfield 15, 3) := by decide +kernel
theorem dX9_copyFrom_5 : decode cX9_copyFrom 5 = .ok (.putfield 15, 3) := by decide +kernel
theorem dX9_copyFrom_8 : decode cX9_copyFrom 8 = .ok (.aload_n 0, 1) := by decide +kernel
theorem dX9_copyFrom_9 : decode cX9_copyFrom 9 = .ok (.aload_n 1, 1) := by decide +kernel
theorem dX9_copyFrom_10 : decode cX9_copyFrom 10 = .ok (.getfield 18, 3) := by decide +kernel
theorem dX9_copyFrom_13 : decode cX9_copyFrom 13 = .ok (.putfield 18, 3) := by decide +kernel
theorem dX9_copyFrom_16 : decode cX9_copyFrom 16 = .ok (.aload_n 0, 1) := by decide +kernel
theorem dX9_copyFrom_17 : decode cX9_copyFrom 17 = .ok (.aload_n 1, 1) := by decide +kernel
theorem dX9_copyFrom_18 : decode cX9_copyFrom 18 = .ok (.getfield 9, 3) := by decide +kernel
theorem dX9_copyFrom_21 : decode cX9_copyFrom 21 = .ok (.putfield 9, 3) := by decide +kernel
theorem dX9_copyFrom_24 : decode cX9_copyFrom 24 = .ok (.aload_n 0, 1) := by decide +kernel
theorem dX9_copyFrom_25 : decode cX9_copyFrom 25 = .ok (.aload_n 1, 1) := by decide +kernel
theorem dX9_copyFrom_26 : decode cX9_copyFrom 26 = .ok (.getfield 21, 3) := by decide +kernel
theorem dX9_copyFrom_29 : decode cX9_copyFrom 29 = .ok (.putfield 21, 3) := by decide +kernel
theorem dX9_copyFrom_32 : decode cX9_copyFrom 32 = .ok (.return_, 1) := by decide +kernel
theorem dX9_makeEmpty_0 : decode cX9_makeEmpty 0 = .ok (.aload_n 0, 1) := by decide +kernel
theorem dX9_makeEmpty_1 : decode cX9_makeEmpty 1 = .ok (.iconst 0, 1) := by decide +kernel
theorem dX9_makeEmpty_2 : decode cX9_makeEmpty 2 = .ok (.putfield 18, 3) := by decide +kernel
theorem dX9_makeEmpty_5 : decode cX9_makeEmpty 5 = .ok (.aload_n 0, 1) := by decide +kernel
theorem dX9_makeEmpty_6 : decode cX9_makeEmpty 6 = .ok (.iconst (-1), 1) := by decide +kernel
theorem dX9_makeEmpty_7 : decode cX9_makeEmpty 7 = .ok (.putfield 9, 3) := by decide +kernel
theorem dX9_makeEmpty_10 : decode cX9_makeEmpty 10 = .ok (.aload_n 0, 1) := by decide +kernel
theorem dX9_makeEmpty_11 : decode cX9_makeEmpty 11 = .ok (.iconst 0, 1) := by decide +kernel
theorem dX9_makeEmpty_12 : decode cX9_makeEmpty 12 = .ok (.putfield 21, 3) := by decide +kernel
theorem dX9_makeEmpty_15 : decode cX9_makeEmpty 15 = .ok (.return_, 1) := by decide +kernel
theorem dX9_room_0 : decode cX9_room 0 = .ok (.aload_n 0, 1) := by decide +kernel
theorem dX9_room_1 : decode cX9_room 1 = .ok (.getfield 15, 3) := by decide +kernel
theorem dX9_room_4 : decode cX9_room 4 = .ok (.aload_n 0, 1) := by decide +kernel
theorem dX9_room_5 : decode cX9_room 5 = .ok (.getfield 18, 3) := by decide +kernel
theorem dX9_room_8 : decode cX9_room 8 = .ok (.isub, 1) := by decide +kernel
theorem dX9_room_9 : decode cX9_room 9 = .ok (.ireturn, 1) := by decide +kernel
theorem dX9_mean_0 : decode cX9_mean 0 = .ok (.aload_n 0, 1) := by decide +kernel
theorem dX9_mean_1 : decode cX9_mean 1 = .ok (.getfield 18, 3) := by decide +kernel
theorem dX9_mean_4 : decode cX9_mean 4 = .ok (.ifCond .le 15, 3) := by decide +kernel
theorem dX9_mean_7 : decode cX9_mean 7 = .ok (.aload_n 0, 1) := by decide +kernel
theorem dX9_mean_8 : decode cX9_mean 8 = .ok (.getfield 21, 3) := by decide +kernel
theorem dX9_mean_11 : decode cX9_mean 11 = .ok (.aload_n 0, 1) := by decide +kernel
theorem dX9_mean_12 : decode cX9_mean 12 = .ok (.getfield 18, 3) := by decide +kernel
theorem dX9_mean_15 : decode cX9_mean 15 = .ok (.idiv, 1) := by decide +kernel
theorem dX9_mean_16 : decode cX9_mean 16 = .ok (.goto 4, 3) := by decide +kernel
theorem dX9_mean_19 : decode cX9_mean 19 = .ok (.iconst 0, 1) := by decide +kernel
theorem dX9_mean_20 : decode cX9_mean 20 = .ok (.ireturn, 1) := by decide +kernel
theorem dX9_holds_0 : decode cX9_holds 0 = .ok (.aload_n 0, 1) := by decide +kernel
theorem dX9_holds_1 : decode cX9_holds 1 = .ok (.getfield 18, 3) := by decide +kernel
theorem dX9_holds_4 : decode cX9_holds 4 = .ok (.ifCond .le 15, 3) := by decide +kernel
theorem dX9_holds_7 : decode cX9_holds 7 = .ok (.aload_n 0, 1) := by decide +kernel
theorem dX9_holds_8 : decode cX9_holds 8 = .ok (.getfield 9, 3) := by decide +kernel
theorem dX9_holds_11 : decode cX9_holds 11 = .ok (.iload_n 1, 1) := by decide +kernel
theorem dX9_holds_12 : decode cX9_holds 12 = .ok (.if_icmp .ne 7, 3) := by decide +kernel
theorem dX9_holds_15 : decode cX9_holds 15 = .ok (.iconst 1, 1) := by decide +kernel
theorem dX9_holds_16 : decode cX9_holds 16 = .ok (.goto 4, 3) := by decide +kernel
theorem dX9_holds_19 : decode cX9_holds 19 = .ok (.iconst 0, 1) := by decide +kernel
theorem dX9_holds_20 : decode cX9_holds 20 = .ok (.ireturn, 1) := by decide +kernel
theorem dX9_takes_0 : decode cX9_takes 0 = .ok (.aload_n 0, 1) := by decide +kernel
theorem dX9_takes_1 : decode cX9_takes 1 = .ok (.getfield 18, 3) := by decide +kernel
theorem dX9_takes_4 : decode cX9_takes 4 = .ok (.ifCond .eq 11, 3) := by decide +kernel
theorem dX9_takes_7 : decode cX9_takes 7 = .ok (.aload_n 0, 1) := by decide +kernel
theorem dX9_takes_8 : decode cX9_takes 8 = .ok (.getfield 9, 3) := by decide +kernel
theorem dX9_takes_11 : decode cX9_takes 11 = .ok (.iload_n 1, 1) := by decide +kernel
theorem dX9_takes_12 : decode cX9_takes 12 = .ok (.if_icmp .ne 7, 3) := by decide +kernel
theorem dX9_takes_15 : decode cX9_takes 15 = .ok (.iconst 1, 1) := by decide +kernel
theorem dX9_takes_16 : decode cX9_takes 16 = .ok (.goto 4, 3) := by decide +kernel
theorem dX9_takes_19 : decode cX9_takes 19 = .ok (.iconst 0, 1) := by decide +kernel
theorem dX9_takes_20 : decode cX9_takes 20 = .ok (.ireturn, 1) := by decide +kernel
theorem dX9_pour_0 : decode cX9_pour 0 = .ok (.aload_n 0, 1) := by decide +kernel
theorem dX9_pour_1 : decode cX9_pour 1 = .ok (.iload_n 1, 1) := by decide +kernel
theorem dX9_pour_2 : decode cX9_pour 2 = .ok (.putfield 9, 3) := by decide +kernel
theorem dX9_pour_5 : decode cX9_pour 5 = .ok (.aload_n 0, 1) := by decide +kernel
theorem dX9_pour_6 : decode cX9_pour 6 = .ok (.dup, 1) := by decide +kernel
theorem dX9_pour_7 : decode cX9_pour 7 = .ok (.getfield 18, 3) := by decide +kernel
theorem dX9_pour_10 : decode cX9_pour 10 = .ok (.iload_n 2, 1) := by decide +kernel
theorem dX9_pour_11 : decode cX9_pour 11 = .ok (.iadd, 1) := by decide +kernel
theorem dX9_pour_12 : decode cX9_pour 12 = .ok (.putfield 18, 3) := by decide +kernel
theorem dX9_pour_15 : decode cX9_pour 15 = .ok (.aload_n 0, 1) := by decide +kernel
theorem dX9_pour_16 : decode cX9_pour 16 = .ok (.dup, 1) := by decide +kernel
theorem dX9_pour_17 : decode cX9_pour 17 = .ok (.getfield 21, 3) := by decide +kernel
theorem dX9_pour_20 : decode cX9_pour 20 = .ok (.iload_n 3, 1) := by decide +kernel
theorem dX9_pour_21 : decode cX9_pour 21 = .ok (.iadd, 1) := by decide +kernel
theorem dX9_pour_22 : decode cX9_pour 22 = .ok (.putfield 21, 3) := by decide +kernel
theorem dX9_pour_25 : decode cX9_pour 25 = .ok (.return_, 1) := by decide +kernel
theorem dX9_draw_0 : decode cX9_draw 0 = .ok (.aload_n 0, 1) := by decide +kernel
theorem dX9_draw_1 : decode cX9_draw 1 = .ok (.dup, 1) := by decide +kernel
theorem dX9_draw_2 : decode cX9_draw 2 = .ok (.getfield 21, 3) := by decide +kernel
theorem dX9_draw_5 : decode cX9_draw 5 = .ok (.iload_n 1, 1) := by decide +kernel
theorem dX9_draw_6 : decode cX9_draw 6 = .ok (.aload_n 0, 1) := by decide +kernel
theorem dX9_draw_7 : decode cX9_draw 7 = .ok (.invokevirtual 24, 3) := by decide +kernel
theorem dX9_draw_10 : decode cX9_draw 10 = .ok (.imul, 1) := by decide +kernel
theorem dX9_draw_11 : decode cX9_draw 11 = .ok (.isub, 1) := by decide +kernel
theorem dX9_draw_12 : decode cX9_draw 12 = .ok (.putfield 21, 3) := by decide +kernel
theorem dX9_draw_15 : decode cX9_draw 15 = .ok (.aload_n 0, 1) := by decide +kernel
theorem dX9_draw_16 : decode cX9_draw 16 = .ok (.dup, 1) := by decide +kernel
theorem dX9_draw_17 : decode cX9_draw 17 = .ok (.getfield 18, 3) := by decide +kernel
theorem dX9_draw_20 : decode cX9_draw 20 = .ok (.iload_n 1, 1) := by decide +kernel
theorem dX9_draw_21 : decode cX9_draw 21 = .ok (.isub, 1) := by decide +kernel
theorem dX9_draw_22 : decode cX9_draw 22 = .ok (.putfield 18, 3) := by decide +kernel
theorem dX9_draw_25 : decode cX9_draw 25 = .ok (.aload_n 0, 1) := by decide +kernel
theorem dX9_draw_26 : decode cX9_draw 26 = .ok (.getfield 18, 3) := by decide +kernel
theorem dX9_draw_29 : decode cX9_draw 29 = .ok (.ifCond .ne 7, 3) := by decide +kernel
theorem dX9_draw_32 : decode cX9_draw 32 = .ok (.aload_n 0, 1) := by decide +kernel
theorem dX9_draw_33 : decode cX9_draw 33 = .ok (.invokevirtual 28, 3) := by decide +kernel
theorem dX9_draw_36 : decode cX9_draw 36 = .ok (.return_, 1) := by decide +kernel
theorem dX9_canMoveTo_0 : decode cX9_canMoveTo 0 = .ok (.aload_n 0, 1) := by decide +kernel
theorem dX9_canMoveTo_1 : decode cX9_canMoveTo 1 = .ok (.getfield 18, 3) := by decide +kernel
theorem dX9_canMoveTo_4 : decode cX9_canMoveTo 4 = .ok (.ifCond .le 29, 3) := by decide +kernel
theorem dX9_canMoveTo_7 : decode cX9_canMoveTo 7 = .ok (.aload_n 1, 1) := by decide +kernel
theorem dX9_canMoveTo_8 : decode cX9_canMoveTo 8 = .ok (.aload_n 0, 1) := by decide +kernel
theorem dX9_canMoveTo_9 : decode cX9_canMoveTo 9 = .ok (.getfield 9, 3) := by decide +kernel
theorem dX9_canMoveTo_12 : decode cX9_canMoveTo 12 = .ok (.invokevirtual 31, 3) := by decide +kernel
theorem dX9_canMoveTo_15 : decode cX9_canMoveTo 15 = .ok (.ifCond .eq 18, 3) := by decide +kernel
theorem dX9_canMoveTo_18 : decode cX9_canMoveTo 18 = .ok (.aload_n 0, 1) := by decide +kernel
theorem dX9_canMoveTo_19 : decode cX9_canMoveTo 19 = .ok (.getfield 18, 3) := by decide +kernel
theorem dX9_canMoveTo_22 : decode cX9_canMoveTo 22 = .ok (.aload_n 1, 1) := by decide +kernel
theorem dX9_canMoveTo_23 : decode cX9_canMoveTo 23 = .ok (.invokevirtual 35, 3) := by decide +kernel
theorem dX9_canMoveTo_26 : decode cX9_canMoveTo 26 = .ok (.if_icmp .gt 7, 3) := by decide +kernel
theorem dX9_canMoveTo_29 : decode cX9_canMoveTo 29 = .ok (.iconst 1, 1) := by decide +kernel
theorem dX9_canMoveTo_30 : decode cX9_canMoveTo 30 = .ok (.goto 4, 3) := by decide +kernel
theorem dX9_canMoveTo_33 : decode cX9_canMoveTo 33 = .ok (.iconst 0, 1) := by decide +kernel
theorem dX9_canMoveTo_34 : decode cX9_canMoveTo 34 = .ok (.ireturn, 1) := by decide +kernel
theorem dX9_moveTo_0 : decode cX9_moveTo 0 = .ok (.aload_n 1, 1) := by decide +kernel
theorem dX9_moveTo_1 : decode cX9_moveTo 1 = .ok (.aload_n 0, 1) := by decide +kernel
theorem dX9_moveTo_2 : decode cX9_moveTo 2 = .ok (.getfield 9, 3) := by decide +kernel
theorem dX9_moveTo_5 : decode cX9_moveTo 5 = .ok (.aload_n 0, 1) := by decide +kernel
theorem dX9_moveTo_6 : decode cX9_moveTo 6 = .ok (.getfield 18, 3) := by decide +kernel
theorem dX9_moveTo_9 : decode cX9_moveTo 9 = .ok (.aload_n 0, 1) := by decide +kernel
theorem dX9_moveTo_10 : decode cX9_moveTo 10 = .ok (.getfield 21, 3) := by decide +kernel
theorem dX9_moveTo_13 : decode cX9_moveTo 13 = .ok (.invokevirtual 38, 3) := by decide +kernel
theorem dX9_moveTo_16 : decode cX9_moveTo 16 = .ok (.aload_n 0, 1) := by decide +kernel
theorem dX9_moveTo_17 : decode cX9_moveTo 17 = .ok (.invokevirtual 28, 3) := by decide +kernel
theorem dX9_moveTo_20 : decode cX9_moveTo 20 = .ok (.return_, 1) := by decide +kernel
theorem dX10_init_0 : decode cX10_init 0 = .ok (.aload_n 0, 1) := by decide +kernel
theorem dX10_init_1 : decode cX10_init 1 = .ok (.invokespecial 3, 3) := by decide +kernel
theorem dX10_init_4 : decode cX10_init 4 = .ok (.aload_n 0, 1) := by decide +kernel
theorem dX10_init_5 : decode cX10_init 5 = .ok (.sipush 600, 3) := by decide +kernel
theorem dX10_init_8 : decode cX10_init 8 = .ok (.newarray .byte, 2) := by decide +kernel
theorem dX10_init_10 : decode cX10_init 10 = .ok (.putfield 9, 3) := by decide +kernel
theorem dX10_init_13 : decode cX10_init 13 = .ok (.return_, 1) := by decide +kernel
theorem dX10_hasRoomFor_0 : decode cX10_hasRoomFor 0 = .ok (.iload_n 1, 1) := by decide +kernel
theorem dX10_hasRoomFor_1 : decode cX10_hasRoomFor 1 = .ok (.sipush 600, 3) := by decide +kernel
theorem dX10_hasRoomFor_4 : decode cX10_hasRoomFor 4 = .ok (.aload_n 0, 1) := by decide +kernel
theorem dX10_hasRoomFor_5 : decode cX10_hasRoomFor 5 = .ok (.getfield 15, 3) := by decide +kernel
theorem dX10_hasRoomFor_8 : decode cX10_hasRoomFor 8 = .ok (.isub, 1) := by decide +kernel
theorem dX10_hasRoomFor_9 : decode cX10_hasRoomFor 9 = .ok (.if_icmp .gt 7, 3) := by decide +kernel
theorem dX10_hasRoomFor_12 : decode cX10_hasRoomFor 12 = .ok (.iconst 1, 1) := by decide +kernel
theorem dX10_hasRoomFor_13 : decode cX10_hasRoomFor 13 = .ok (.goto 4, 3) := by decide +kernel
theorem dX10_hasRoomFor_16 : decode cX10_hasRoomFor 16 = .ok (.iconst 0, 1) := by decide +kernel
theorem dX10_hasRoomFor_17 : decode cX10_hasRoomFor 17 = .ok (.ireturn, 1) := by decide +kernel
theorem dX10_addText_0 : decode cX10_addText 0 = .ok (.iconst 0, 1) := by decide +kernel
theorem dX10_addText_1 : decode cX10_addText 1 = .ok (.istore_n 2, 1) := by decide +kernel
theorem dX10_addText_2 : decode cX10_addText 2 = .ok (.iload_n 2, 1) := by decide +kernel
theorem dX10_addText_3 : decode cX10_addText 3 = .ok (.aload_n 1, 1) := by decide +kernel
theorem dX10_addText_4 : decode cX10_addText 4 = .ok (.invokevirtual 19, 3) := by decide +kernel
theorem dX10_addText_7 : decode cX10_addText 7 = .ok (.if_icmp .ge 18, 3) := by decide +kernel
theorem dX10_addText_10 : decode cX10_addText 10 = .ok (.aload_n 0, 1) := by decide +kernel
theorem dX10_addText_11 : decode cX10_addText 11 = .ok (.aload_n 1, 1) := by decide +kernel
theorem dX10_addText_12 : decode cX10_addText 12 = .ok (.iload_n 2, 1) := by decide +kernel
theorem dX10_addText_13 : decode cX10_addText 13 = .ok (.invokevirtual 24, 3) := by decide +kernel
theorem dX10_addText_16 : decode cX10_addText 16 = .ok (.invokevirtual 28, 3) := by decide +kernel
theorem dX10_addText_19 : decode cX10_addText 19 = .ok (.iinc 2 1, 3) := by decide +kernel
theorem dX10_addText_22 : decode cX10_addText 22 = .ok (.goto (-20), 3) := by decide +kernel
theorem dX10_addText_25 : decode cX10_addText 25 = .ok (.return_, 1) := by decide +kernel
theorem dX10_addFour_0 : decode cX10_addFour 0 = .ok (.aload_n 0, 1) := by decide +kernel
theorem dX10_addFour_1 : decode cX10_addFour 1 = .ok (.iload_n 1, 1) := by decide +kernel
theorem dX10_addFour_2 : decode cX10_addFour 2 = .ok (.bipush 24, 2) := by decide +kernel
theorem dX10_addFour_4 : decode cX10_addFour 4 = .ok (.ishr, 1) := by decide +kernel
theorem dX10_addFour_5 : decode cX10_addFour 5 = .ok (.invokevirtual 28, 3) := by decide +kernel
theorem dX10_addFour_8 : decode cX10_addFour 8 = .ok (.aload_n 0, 1) := by decide +kernel
theorem dX10_addFour_9 : decode cX10_addFour 9 = .ok (.iload_n 1, 1) := by decide +kernel
theorem dX10_addFour_10 : decode cX10_addFour 10 = .ok (.bipush 16, 2) := by decide +kernel
theorem dX10_addFour_12 : decode cX10_addFour 12 = .ok (.ishr, 1) := by decide +kernel
theorem dX10_addFour_13 : decode cX10_addFour 13 = .ok (.invokevirtual 28, 3) := by decide +kernel
theorem dX10_addFour_16 : decode cX10_addFour 16 = .ok (.aload_n 0, 1) := by decide +kernel
theorem dX10_addFour_17 : decode cX10_addFour 17 = .ok (.iload_n 1, 1) := by decide +kernel
theorem dX10_addFour_18 : decode cX10_addFour 18 = .ok (.bipush 8, 2) := by decide +kernel
theorem dX10_addFour_20 : decode cX10_addFour 20 = .ok (.ishr, 1) := by decide +kernel
theorem dX10_addFour_21 : decode cX10_addFour 21 = .ok (.invokevirtual 28, 3) := by decide +kernel
theorem dX10_addFour_24 : decode cX10_addFour 24 = .ok (.aload_n 0, 1) := by decide +kernel
theorem dX10_addFour_25 : decode cX10_addFour 25 = .ok (.iload_n 1, 1) := by decide +kernel
theorem dX10_addFour_26 : decode cX10_addFour 26 = .ok (.invokevirtual 28, 3) := by decide +kernel
theorem dX10_addFour_29 : decode cX10_addFour 29 = .ok (.return_, 1) := by decide +kernel
theorem dX10_addByte_0 : decode cX10_addByte 0 = .ok (.aload_n 0, 1) := by decide +kernel
theorem dX10_addByte_1 : decode cX10_addByte 1 = .ok (.getfield 15, 3) := by decide +kernel
theorem dX10_addByte_4 : decode cX10_addByte 4 = .ok (.sipush 600, 3) := by decide +kernel
theorem dX10_addByte_7 : decode cX10_addByte 7 = .ok (.if_icmp .ge 24, 3) := by decide +kernel
theorem dX10_addByte_10 : decode cX10_addByte 10 = .ok (.aload_n 0, 1) := by decide +kernel
theorem dX10_addByte_11 : decode cX10_addByte 11 = .ok (.getfield 9, 3) := by decide +kernel
theorem dX10_addByte_14 : decode cX10_addByte 14 = .ok (.aload_n 0, 1) := by decide +kernel
theorem dX10_addByte_15 : decode cX10_addByte 15 = .ok (.getfield 15, 3) := by decide +kernel
theorem dX10_addByte_18 : decode cX10_addByte 18 = .ok (.iload_n 1, 1) := by decide +kernel
theorem dX10_addByte_19 : decode cX10_addByte 19 = .ok (.i2b, 1) := by decide +kernel
theorem dX10_addByte_20 : decode cX10_addByte 20 = .ok (.bastore, 1) := by decide +kernel
theorem dX10_addByte_21 : decode cX10_addByte 21 = .ok (.aload_n 0, 1) := by decide +kernel
theorem dX10_addByte_22 : decode cX10_addByte 22 = .ok (.dup, 1) := by decide +kernel
theorem dX10_addByte_23 : decode cX10_addByte 23 = .ok (.getfield 15, 3) := by decide +kernel
theorem dX10_addByte_26 : decode cX10_addByte 26 = .ok (.iconst 1, 1) := by decide +kernel
theorem dX10_addByte_27 : decode cX10_addByte 27 = .ok (.iadd, 1) := by decide +kernel
theorem dX10_addByte_28 : decode cX10_addByte 28 = .ok (.putfield 15, 3) := by decide +kernel
theorem dX10_addByte_31 : decode cX10_addByte 31 = .ok (.return_, 1) := by decide +kernel
theorem dX10_toFirst_0 : decode cX10_toFirst 0 = .ok (.aload_n 0, 1) := by decide +kernel
theorem dX10_toFirst_1 : decode cX10_toFirst 1 = .ok (.iconst 0, 1) := by decide +kernel
theorem dX10_toFirst_2 : decode cX10_toFirst 2 = .ok (.putfield 32, 3) := by decide +kernel
theorem dX10_toFirst_5 : decode cX10_toFirst 5 = .ok (.aload_n 0, 1) := by decide +kernel
theorem dX10_toFirst_6 : decode cX10_toFirst 6 = .ok (.invokevirtual 35, 3) := by decide +kernel
theorem dX10_toFirst_9 : decode cX10_toFirst 9 = .ok (.return_, 1) := by decide +kernel
theorem dX10_toNext_0 : decode cX10_toNext 0 = .ok (.aload_n 0, 1) := by decide +kernel
theorem dX10_toNext_1 : decode cX10_toNext 1 = .ok (.aload_n 0, 1) := by decide +kernel
theorem dX10_toNext_2 : decode cX10_toNext 2 = .ok (.getfield 32, 3) := by decide +kernel
theorem dX10_toNext_5 : decode cX10_toNext 5 = .ok (.putfield 38, 3) := by decide +kernel
theorem dX10_toNext_8 : decode cX10_toNext 8 = .ok (.aload_n 0, 1) := by decide +kernel
theorem dX10_toNext_9 : decode cX10_toNext 9 = .ok (.getfield 38, 3) := by decide +kernel
theorem dX10_toNext_12 : decode cX10_toNext 12 = .ok (.aload_n 0, 1) := by decide +kernel
theorem dX10_toNext_13 : decode cX10_toNext 13 = .ok (.getfield 15, 3) := by decide +kernel
theorem dX10_toNext_16 : decode cX10_toNext 16 = .ok (.if_icmp .ge 28, 3) := by decide +kernel
theorem dX10_toNext_19 : decode cX10_toNext 19 = .ok (.aload_n 0, 1) := by decide +kernel
theorem dX10_toNext_20 : decode cX10_toNext 20 = .ok (.aload_n 0, 1) := by decide +kernel
theorem dX10_toNext_21 : decode cX10_toNext 21 = .ok (.getfield 38, 3) := by decide +kernel
theorem dX10_toNext_24 : decode cX10_toNext 24 = .ok (.invokevirtual 41, 3) := by decide +kernel
theorem dX10_toNext_27 : decode cX10_toNext 27 = .ok (.iconst 1, 1) := by decide +kernel
theorem dX10_toNext_28 : decode cX10_toNext 28 = .ok (.if_icmp .ne 16, 3) := by decide +kernel
theorem dX10_toNext_31 : decode cX10_toNext 31 = .ok (.aload_n 0, 1) := by decide +kernel
theorem dX10_toNext_32 : decode cX10_toNext 32 = .ok (.dup, 1) := by decide +kernel
theorem dX10_toNext_33 : decode cX10_toNext 33 = .ok (.getfield 38, 3) := by decide +kernel
theorem dX10_toNext_36 : decode cX10_toNext 36 = .ok (.iconst 1, 1) := by decide +kernel
theorem dX10_toNext_37 : decode cX10_toNext 37 = .ok (.iadd, 1) := by decide +kernel
theorem dX10_toNext_38 : decode cX10_toNext 38 = .ok (.putfield 38, 3) := by decide +kernel
theorem dX10_toNext_41 : decode cX10_toNext 41 = .ok (.goto (-33), 3) := by decide +kernel
theorem dX10_toNext_44 : decode cX10_toNext 44 = .ok (.aload_n 0, 1) := by decide +kernel
theorem dX10_toNext_45 : decode cX10_toNext 45 = .ok (.aload_n 0, 1) := by decide +kernel
theorem dX10_toNext_46 : decode cX10_toNext 46 = .ok (.aload_n 0, 1) := by decide +kernel
theorem dX10_toNext_47 : decode cX10_toNext 47 = .ok (.getfield 38, 3) := by decide +kernel
theorem dX10_toNext_50 : decode cX10_toNext 50 = .ok (.invokevirtual 41, 3) := by decide +kernel
theorem dX10_toNext_53 : decode cX10_toNext 53 = .ok (.putfield 45, 3) := by decide +kernel
theorem dX10_toNext_56 : decode cX10_toNext 56 = .ok (.aload_n 0, 1) := by decide +kernel
theorem dX10_toNext_57 : decode cX10_toNext 57 = .ok (.aload_n 0, 1) := by decide +kernel
theorem dX10_toNext_58 : decode cX10_toNext 58 = .ok (.getfield 38, 3) := by decide +kernel
theorem dX10_toNext_61 : decode cX10_toNext 61 = .ok (.putfield 32, 3) := by decide +kernel
theorem dX10_toNext_64 : decode cX10_toNext 64 = .ok (.aload_n 0, 1) := by decide +kernel
theorem dX10_toNext_65 : decode cX10_toNext 65 = .ok (.iconst 0, 1) := by decide +kernel
theorem dX10_toNext_66 : decode cX10_toNext 66 = .ok (.putfield 48, 3) := by decide +kernel
theorem dX10_toNext_69 : decode cX10_toNext 69 = .ok (.aload_n 0, 1) := by decide +kernel
theorem dX10_toNext_70 : decode cX10_toNext 70 = .ok (.iconst 0, 1) := by decide +kernel
theorem dX10_toNext_71 : decode cX10_toNext 71 = .ok (.putfield 51, 3) := by decide +kernel
theorem dX10_toNext_74 : decode cX10_toNext 74 = .ok (.aload_n 0, 1) := by decide +kernel
theorem dX10_toNext_75 : decode cX10_toNext 75 = .ok (.getfield 32, 3) := by decide +kernel
theorem dX10_toNext_78 : decode cX10_toNext 78 = .ok (.aload_n 0, 1) := by decide +kernel
theorem dX10_toNext_79 : decode cX10_toNext 79 = .ok (.getfield 15, 3) := by decide +kernel
theorem dX10_toNext_82 : decode cX10_toNext 82 = .ok (.if_icmp .ge 61, 3) := by decide +kernel
theorem dX10_toNext_85 : decode cX10_toNext 85 = .ok (.aload_n 0, 1) := by decide +kernel
theorem dX10_toNext_86 : decode cX10_toNext 86 = .ok (.aload_n 0, 1) := by decide +kernel
theorem dX10_toNext_87 : decode cX10_toNext 87 = .ok (.getfield 32, 3) := by decide +kernel
theorem dX10_toNext_90 : decode cX10_toNext 90 = .ok (.invokevirtual 41, 3) := by decide +kernel
theorem dX10_toNext_93 : decode cX10_toNext 93 = .ok (.aload_n 0, 1) := by decide +kernel
theorem dX10_toNext_94 : decode cX10_toNext 94 = .ok (.getfield 45, 3) := by decide +kernel
theorem dX10_toNext_97 : decode cX10_toNext 97 = .ok (.if_icmp .ne 46, 3) := by decide +kernel
theorem dX10_toNext_100 : decode cX10_toNext 100 = .ok (.aload_n 0, 1) := by decide +kernel
theorem dX10_toNext_101 : decode cX10_toNext 101 = .ok (.getfield 32, 3) := by decide +kernel
theorem dX10_toNext_104 : decode cX10_toNext 104 = .ok (.aload_n 0, 1) := by decide +kernel
theorem dX10_toNext_105 : decode cX10_toNext 105 = .ok (.getfield 38, 3) := by decide +kernel
theorem dX10_toNext_108 : decode cX10_toNext 108 = .ok (.if_icmp .eq 10, 3) := by decide +kernel
theorem dX10_toNext_111 : decode cX10_toNext 111 = .ok (.aload_n 0, 1) := by decide +kernel
theorem dX10_toNext_112 : decode cX10_toNext 112 = .ok (.invokevirtual 54, 3) := by decide +kernel
theorem dX10_toNext_115 : decode cX10_toNext 115 = .ok (.ifCond .eq 28, 3) := by decide +kernel
theorem dX10_toNext_118 : decode cX10_toNext 118 = .ok (.aload_n 0, 1) := by decide +kernel
theorem dX10_toNext_119 : decode cX10_toNext 119 = .ok (.aload_n 0, 1) := by decide +kernel
theorem dX10_toNext_120 : decode cX10_toNext 120 = .ok (.aload_n 0, 1) := by decide +kernel
theorem dX10_toNext_121 : decode cX10_toNext 121 = .ok (.getfield 32, 3) := by decide +kernel
theorem dX10_toNext_124 : decode cX10_toNext 124 = .ok (.invokevirtual 58, 3) := by decide +kernel
theorem dX10_toNext_127 : decode cX10_toNext 127 = .ok (.invokevirtual 61, 3) := by decide +kernel
theorem dX10_toNext_130 : decode cX10_toNext 130 = .ok (.aload_n 0, 1) := by decide +kernel
theorem dX10_toNext_131 : decode cX10_toNext 131 = .ok (.dup, 1) := by decide +kernel
theorem dX10_toNext_132 : decode cX10_toNext 132 = .ok (.getfield 32, 3) := by decide +kernel
theorem dX10_toNext_135 : decode cX10_toNext 135 = .ok (.iconst 1, 1) := by decide +kernel
theorem dX10_toNext_136 : decode cX10_toNext 136 = .ok (.iadd, 1) := by decide +kernel
theorem dX10_toNext_137 : decode cX10_toNext 137 = .ok (.putfield 32, 3) := by decide +kernel
theorem dX10_toNext_140 : decode cX10_toNext 140 = .ok (.goto (-66), 3) := by decide +kernel
theorem dX10_toNext_143 : decode cX10_toNext 143 = .ok (.aload_n 0, 1) := by decide +kernel
theorem dX10_toNext_144 : decode cX10_toNext 144 = .ok (.getfield 32, 3) := by decide +kernel
theorem dX10_toNext_147 : decode cX10_toNext 147 = .ok (.aload_n 0, 1) := by decide +kernel
theorem dX10_toNext_148 : decode cX10_toNext 148 = .ok (.getfield 38, 3) := by decide +kernel
theorem dX10_toNext_151 : decode cX10_toNext 151 = .ok (.isub, 1) := by decide +kernel
theorem dX10_toNext_152 : decode cX10_toNext 152 = .ok (.iconst 4, 1) := by decide +kernel
theorem dX10_toNext_153 : decode cX10_toNext 153 = .ok (.if_icmp .le 8, 3) := by decide +kernel
theorem dX10_toNext_156 : decode cX10_toNext 156 = .ok (.aload_n 0, 1) := by decide +kernel
theorem dX10_toNext_157 : decode cX10_toNext 157 = .ok (.iconst 0, 1) := by decide +kernel
theorem dX10_toNext_158 : decode cX10_toNext 158 = .ok (.putfield 48, 3) := by decide +kernel
theorem dX10_toNext_161 : decode cX10_toNext 161 = .ok (.return_, 1) := by decide +kernel
theorem dX10_isRun_0 : decode cX10_isRun 0 = .ok (.aload_n 0, 1) := by decide +kernel
theorem dX10_isRun_1 : decode cX10_isRun 1 = .ok (.getfield 45, 3) := by decide +kernel
theorem dX10_isRun_4 : decode cX10_isRun 4 = .ok (.iconst 2, 1) := by decide +kernel
theorem dX10_isRun_5 : decode cX10_isRun 5 = .ok (.if_icmp .eq 11, 3) := by decide +kernel
theorem dX10_isRun_8 : decode cX10_isRun 8 = .ok (.aload_n 0, 1) := by decide +kernel
theorem dX10_isRun_9 : decode cX10_isRun 9 = .ok (.getfield 45, 3) := by decide +kernel
theorem dX10_isRun_12 : decode cX10_isRun 12 = .ok (.iconst 3, 1) := by decide +kernel
theorem dX10_isRun_13 : decode cX10_isRun 13 = .ok (.if_icmp .ne 7, 3) := by decide +kernel
theorem dX10_isRun_16 : decode cX10_isRun 16 = .ok (.iconst 1, 1) := by decide +kernel
theorem dX10_isRun_17 : decode cX10_isRun 17 = .ok (.goto 4, 3) := by decide +kernel
theorem dX10_isRun_20 : decode cX10_isRun 20 = .ok (.iconst 0, 1) := by decide +kernel
theorem dX10_isRun_21 : decode cX10_isRun 21 = .ok (.ireturn, 1) := by decide +kernel
theorem dX10_takeSign_0 : decode cX10_takeSign 0 = .ok (.aload_n 0, 1) := by decide +kernel
theorem dX10_takeSign_1 : decode cX10_takeSign 1 = .ok (.getfield 45, 3) := by decide +kernel
theorem dX10_takeSign_4 : decode cX10_takeSign 4 = .ok (.iconst 2, 1) := by decide +kernel
theorem dX10_takeSign_5 : decode cX10_takeSign 5 = .ok (.if_icmp .ne 23, 3) := by decide +kernel
theorem dX10_takeSign_8 : decode cX10_takeSign 8 = .ok (.aload_n 0, 1) := by decide +kernel
theorem dX10_takeSign_9 : decode cX10_takeSign 9 = .ok (.aload_n 0, 1) := by decide +kernel
theorem dX10_takeSign_10 : decode cX10_takeSign 10 = .ok (.getfield 48, 3) := by decide +kernel
theorem dX10_takeSign_13 : decode cX10_takeSign 13 = .ok (.iconst 5, 1) := by decide +kernel
theorem dX10_takeSign_14 : decode cX10_takeSign 14 = .ok (.ishl, 1) := by decide +kernel
theorem dX10_takeSign_15 : decode cX10_takeSign 15 = .ok (.iload_n 1, 1) := by decide +kernel
theorem dX10_takeSign_16 : decode cX10_takeSign 16 = .ok (.iadd, 1) := by decide +kernel
theorem dX10_takeSign_17 : decode cX10_takeSign 17 = .ok (.bipush 97, 2) := by decide +kernel
theorem dX10_takeSign_19 : decode cX10_takeSign 19 = .ok (.isub, 1) := by decide +kernel
theorem dX10_takeSign_20 : decode cX10_takeSign 20 = .ok (.iconst 1, 1) := by decide +kernel
theorem dX10_takeSign_21 : decode cX10_takeSign 21 = .ok (.iadd, 1) := by decide +kernel
theorem dX10_takeSign_22 : decode cX10_takeSign 22 = .ok (.putfield 48, 3) := by decide +kernel
theorem dX10_takeSign_25 : decode cX10_takeSign 25 = .ok (.goto 36, 3) := by decide +kernel
theorem dX10_takeSign_28 : decode cX10_takeSign 28 = .ok (.aload_n 0, 1) := by decide +kernel
theorem dX10_takeSign_29 : decode cX10_takeSign 29 = .ok (.getfield 45, 3) := by decide +kernel
theorem dX10_takeSign_32 : decode cX10_takeSign 32 = .ok (.iconst 3, 1) := by decide +kernel
theorem dX10_takeSign_33 : decode cX10_takeSign 33 = .ok (.if_icmp .ne 28, 3) := by decide +kernel
theorem dX10_takeSign_36 : decode cX10_takeSign 36 = .ok (.aload_n 0, 1) := by decide +kernel
theorem dX10_takeSign_37 : decode cX10_takeSign 37 = .ok (.getfield 51, 3) := by decide +kernel
theorem dX10_takeSign_40 : decode cX10_takeSign 40 = .ok (.ldc 64, 2) := by decide +kernel
theorem dX10_takeSign_42 : decode cX10_takeSign 42 = .ok (.if_icmp .ge 19, 3) := by decide +kernel
theorem dX10_takeSign_45 : decode cX10_takeSign 45 = .ok (.aload_n 0, 1) := by decide +kernel
theorem dX10_takeSign_46 : decode cX10_takeSign 46 = .ok (.bipush 10, 2) := by decide +kernel
theorem dX10_takeSign_48 : decode cX10_takeSign 48 = .ok (.aload_n 0, 1) := by decide +kernel
theorem dX10_takeSign_49 : decode cX10_takeSign 49 = .ok (.getfield 51, 3) := by decide +kernel
theorem dX10_takeSign_52 : decode cX10_takeSign 52 = .ok (.imul, 1) := by decide +kernel
theorem dX10_takeSign_53 : decode cX10_takeSign 53 = .ok (.iload_n 1, 1) := by decide +kernel
theorem dX10_takeSign_54 : decode cX10_takeSign 54 = .ok (.iadd, 1) := by decide +kernel
theorem dX10_takeSign_55 : decode cX10_takeSign 55 = .ok (.bipush 48, 2) := by decide +kernel
theorem dX10_takeSign_57 : decode cX10_takeSign 57 = .ok (.isub, 1) := by decide +kernel
theorem dX10_takeSign_58 : decode cX10_takeSign 58 = .ok (.putfield 51, 3) := by decide +kernel
theorem dX10_takeSign_61 : decode cX10_takeSign 61 = .ok (.return_, 1) := by decide +kernel
theorem dX10_spells_0 : decode cX10_spells 0 = .ok (.aload_n 0, 1) := by decide +kernel
theorem dX10_spells_1 : decode cX10_spells 1 = .ok (.getfield 45, 3) := by decide +kernel
theorem dX10_spells_4 : decode cX10_spells 4 = .ok (.iconst 2, 1) := by decide +kernel
theorem dX10_spells_5 : decode cX10_spells 5 = .ok (.if_icmp .ne 19, 3) := by decide +kernel
theorem dX10_spells_8 : decode cX10_spells 8 = .ok (.aload_n 0, 1) := by decide +kernel
theorem dX10_spells_9 : decode cX10_spells 9 = .ok (.getfield 32, 3) := by decide +kernel
theorem dX10_spells_12 : decode cX10_spells 12 = .ok (.aload_n 0, 1) := by decide +kernel
theorem dX10_spells_13 : decode cX10_spells 13 = .ok (.getfield 38, 3) := by decide +kernel
theorem dX10_spells_16 : decode cX10_spells 16 = .ok (.isub, 1) := by decide +kernel
theorem dX10_spells_17 : decode cX10_spells 17 = .ok (.aload_n 1, 1) := by decide +kernel
theorem dX10_spells_18 : decode cX10_spells 18 = .ok (.invokevirtual 19, 3) := by decide +kernel
theorem dX10_spells_21 : decode cX10_spells 21 = .ok (.if_icmp .eq 5, 3) := by decide +kernel
theorem dX10_spells_24 : decode cX10_spells 24 = .ok (.iconst 0, 1) := by decide +kernel
theorem dX10_spells_25 : decode cX10_spells 25 = .ok (.ireturn, 1) := by decide +kernel
theorem dX10_spells_26 : decode cX10_spells 26 = .ok (.iconst 0, 1) := by decide +kernel
theorem dX10_spells_27 : decode cX10_spells 27 = .ok (.istore_n 2, 1) := by decide +kernel
theorem dX10_spells_28 : decode cX10_spells 28 = .ok (.iload_n 2, 1) := by decide +kernel
theorem dX10_spells_29 : decode cX10_spells 29 = .ok (.aload_n 1, 1) := by decide +kernel
theorem dX10_spells_30 : decode cX10_spells 30 = .ok (.invokevirtual 19, 3) := by decide +kernel
theorem dX10_spells_33 : decode cX10_spells 33 = .ok (.if_icmp .ge 29, 3) := by decide +kernel
theorem dX10_spells_36 : decode cX10_spells 36 = .ok (.aload_n 0, 1) := by decide +kernel
theorem dX10_spells_37 : decode cX10_spells 37 = .ok (.aload_n 0, 1) := by decide +kernel
theorem dX10_spells_38 : decode cX10_spells 38 = .ok (.getfield 38, 3) := by decide +kernel
theorem dX10_spells_41 : decode cX10_spells 41 = .ok (.iload_n 2, 1) := by decide +kernel
theorem dX10_spells_42 : decode cX10_spells 42 = .ok (.iadd, 1) := by decide +kernel
theorem dX10_spells_43 : decode cX10_spells 43 = .ok (.invokevirtual 58, 3) := by decide +kernel
theorem dX10_spells_46 : decode cX10_spells 46 = .ok (.aload_n 1, 1) := by decide +kernel
theorem dX10_spells_47 : decode cX10_spells 47 = .ok (.iload_n 2, 1) := by decide +kernel
theorem dX10_spells_48 : decode cX10_spells 48 = .ok (.invokevirtual 24, 3) := by decide +kernel
theorem dX10_spells_51 : decode cX10_spells 51 = .ok (.if_icmp .eq 5, 3) := by decide +kernel
theorem dX10_spells_54 : decode cX10_spells 54 = .ok (.iconst 0, 1) := by decide +kernel
theorem dX10_spells_55 : decode cX10_spells 55 = .ok (.ireturn, 1) := by decide +kernel
theorem dX10_spells_56 : decode cX10_spells 56 = .ok (.iinc 2 1, 3) := by decide +kernel
theorem dX10_spells_59 : decode cX10_spells 59 = .ok (.goto (-31), 3) := by decide +kernel
theorem dX10_spells_62 : decode cX10_spells 62 = .ok (.iconst 1, 1) := by decide +kernel
theorem dX10_spells_63 : decode cX10_spells 63 = .ok (.ireturn, 1) := by decide +kernel
theorem dX10_signAt_0 : decode cX10_signAt 0 = .ok (.iload_n 1, 1) := by decide +kernel
theorem dX10_signAt_1 : decode cX10_signAt 1 = .ok (.ifCond .lt 20, 3) := by decide +kernel
theorem dX10_signAt_4 : decode cX10_signAt 4 = .ok (.iload_n 1, 1) := by decide +kernel
theorem dX10_signAt_5 : decode cX10_signAt 5 = .ok (.aload_n 0, 1) := by decide +kernel
theorem dX10_signAt_6 : decode cX10_signAt 6 = .ok (.getfield 15, 3) := by decide +kernel
theorem dX10_signAt_9 : decode cX10_signAt 9 = .ok (.if_icmp .ge 12, 3) := by decide +kernel
theorem dX10_signAt_12 : decode cX10_signAt 12 = .ok (.aload_n 0, 1) := by decide +kernel
theorem dX10_signAt_13 : decode cX10_signAt 13 = .ok (.getfield 9, 3) := by decide +kernel
theorem dX10_signAt_16 : decode cX10_signAt 16 = .ok (.iload_n 1, 1) := by decide +kernel
theorem dX10_signAt_17 : decode cX10_signAt 17 = .ok (.baload, 1) := by decide +kernel
theorem dX10_signAt_18 : decode cX10_signAt 18 = .ok (.goto 4, 3) := by decide +kernel
theorem dX10_signAt_21 : decode cX10_signAt 21 = .ok (.iconst 0, 1) := by decide +kernel
theorem dX10_signAt_22 : decode cX10_signAt 22 = .ok (.ireturn, 1) := by decide +kernel
theorem dX10_kindAt_0 : decode cX10_kindAt 0 = .ok (.iload_n 1, 1) := by decide +kernel
theorem dX10_kindAt_1 : decode cX10_kindAt 1 = .ok (.ifCond .lt 11, 3) := by decide +kernel
theorem dX10_kindAt_4 : decode cX10_kindAt 4 = .ok (.iload_n 1, 1) := by decide +kernel
theorem dX10_kindAt_5 : decode cX10_kindAt 5 = .ok (.aload_n 0, 1) := by decide +kernel
theorem dX10_kindAt_6 : decode cX10_kindAt 6 = .ok (.getfield 15, 3) := by decide +kernel
theorem dX10_kindAt_9 : decode cX10_kindAt 9 = .ok (.if_icmp .lt 5, 3) := by decide +kernel
theorem dX10_kindAt_12 : decode cX10_kindAt 12 = .ok (.iconst 0, 1) := by decide +kernel
theorem dX10_kindAt_13 : decode cX10_kindAt 13 = .ok (.ireturn, 1) := by decide +kernel
theorem dX10_kindAt_14 : decode cX10_kindAt 14 = .ok (.aload_n 0, 1) := by decide +kernel
theorem dX10_kindAt_15 : decode cX10_kindAt 15 = .ok (.getfield 9, 3) := by decide +kernel
theorem dX10_kindAt_18 : decode cX10_kindAt 18 = .ok (.iload_n 1, 1) := by decide +kernel
theorem dX10_kindAt_19 : decode cX10_kindAt 19 = .ok (.baload, 1) := by decide +kernel
theorem dX10_kindAt_20 : decode cX10_kindAt 20 = .ok (.istore_n 2, 1) := by decide +kernel
theorem dX10_kindAt_21 : decode cX10_kindAt 21 = .ok (.iload_n 2, 1) := by decide +kernel
theorem dX10_kindAt_22 : decode cX10_kindAt 22 = .ok (.bipush 97, 2) := by decide +kernel
theorem dX10_kindAt_24 : decode cX10_kindAt 24 = .ok (.if_icmp .lt 11, 3) := by decide +kernel
theorem dX10_kindAt_27 : decode cX10_kindAt 27 = .ok (.iload_n 2, 1) := by decide +kernel
theorem dX10_kindAt_28 : decode cX10_kindAt 28 = .ok (.bipush 122, 2) := by decide +kernel
theorem dX10_kindAt_30 : decode cX10_kindAt 30 = .ok (.if_icmp .gt 5, 3) := by decide +kernel
theorem dX10_kindAt_33 : decode cX10_kindAt 33 = .ok (.iconst 2, 1) := by decide +kernel
theorem dX10_kindAt_34 : decode cX10_kindAt 34 = .ok (.ireturn, 1) := by decide +kernel
theorem dX10_kindAt_35 : decode cX10_kindAt 35 = .ok (.iload_n 2, 1) := by decide +kernel
theorem dX10_kindAt_36 : decode cX10_kindAt 36 = .ok (.bipush 48, 2) := by decide +kernel
theorem dX10_kindAt_38 : decode cX10_kindAt 38 = .ok (.if_icmp .lt 11, 3) := by decide +kernel
theorem dX10_kindAt_41 : decode cX10_kindAt 41 = .ok (.iload_n 2, 1) := by decide +kernel
theorem dX10_kindAt_42 : decode cX10_kindAt 42 = .ok (.bipush 57, 2) := by decide +kernel
theorem dX10_kindAt_44 : decode cX10_kindAt 44 = .ok (.if_icmp .gt 5, 3) := by decide +kernel
theorem dX10_kindAt_47 : decode cX10_kindAt 47 = .ok (.iconst 3, 1) := by decide +kernel
theorem dX10_kindAt_48 : decode cX10_kindAt 48 = .ok (.ireturn, 1) := by decide +kernel
theorem dX10_kindAt_49 : decode cX10_kindAt 49 = .ok (.iload_n 2, 1) := by decide +kernel
theorem dX10_kindAt_50 : decode cX10_kindAt 50 = .ok (.bipush 59, 2) := by decide +kernel
theorem dX10_kindAt_52 : decode cX10_kindAt 52 = .ok (.if_icmp .ne 5, 3) := by decide +kernel
theorem dX10_kindAt_55 : decode cX10_kindAt 55 = .ok (.iconst 4, 1) := by decide +kernel
theorem dX10_kindAt_56 : decode cX10_kindAt 56 = .ok (.ireturn, 1) := by decide +kernel
theorem dX10_kindAt_57 : decode cX10_kindAt 57 = .ok (.iload_n 2, 1) := by decide +kernel
theorem dX10_kindAt_58 : decode cX10_kindAt 58 = .ok (.bipush 32, 2) := by decide +kernel
theorem dX10_kindAt_60 : decode cX10_kindAt 60 = .ok (.if_icmp .eq 9, 3) := by decide +kernel
theorem dX10_kindAt_63 : decode cX10_kindAt 63 = .ok (.iload_n 2, 1) := by decide +kernel
theorem dX10_kindAt_64 : decode cX10_kindAt 64 = .ok (.bipush 10, 2) := by decide +kernel
theorem dX10_kindAt_66 : decode cX10_kindAt 66 = .ok (.if_icmp .ne 7, 3) := by decide +kernel
theorem dX10_kindAt_69 : decode cX10_kindAt 69 = .ok (.iconst 1, 1) := by decide +kernel
theorem dX10_kindAt_70 : decode cX10_kindAt 70 = .ok (.goto 4, 3) := by decide +kernel
theorem dX10_kindAt_73 : decode cX10_kindAt 73 = .ok (.iconst 5, 1) := by decide +kernel
theorem dX10_kindAt_74 : decode cX10_kindAt 74 = .ok (.ireturn, 1) := by decide +kernel
theorem dX11_init_0 : decode cX11_init 0 = .ok (.aload_n 0, 1) := by decide +kernel
theorem dX11_init_1 : decode cX11_init 1 = .ok (.invokespecial 1, 3) := by decide +kernel
theorem dX11_init_4 : decode cX11_init 4 = .ok (.aload_n 0, 1) := by decide +kernel
theorem dX11_init_5 : decode cX11_init 5 = .ok (.new 7, 3) := by decide +kernel
theorem dX11_init_8 : decode cX11_init 8 = .ok (.dup, 1) := by decide +kernel
theorem dX11_init_9 : decode cX11_init 9 = .ok (.invokespecial 9, 3) := by decide +kernel
theorem dX11_init_12 : decode cX11_init 12 = .ok (.putfield 10, 3) := by decide +kernel
theorem dX11_init_15 : decode cX11_init 15 = .ok (.aload_n 0, 1) := by decide +kernel
theorem dX11_init_16 : decode cX11_init 16 = .ok (.new 16, 3) := by decide +kernel
theorem dX11_init_19 : decode cX11_init 19 = .ok (.dup, 1) := by decide +kernel
theorem dX11_init_20 : decode cX11_init 20 = .ok (.invokespecial 18, 3) := by decide +kernel
theorem dX11_init_23 : decode cX11_init 23 = .ok (.putfield 19, 3) := by decide +kernel
theorem dX11_init_26 : decode cX11_init 26 = .ok (.aload_n 0, 1) := by decide +kernel
theorem dX11_init_27 : decode cX11_init 27 = .ok (.new 23, 3) := by decide +kernel
theorem dX11_init_30 : decode cX11_init 30 = .ok (.dup, 1) := by decide +kernel
theorem dX11_init_31 : decode cX11_init 31 = .ok (.invokespecial 25, 3) := by decide +kernel
theorem dX11_init_34 : decode cX11_init 34 = .ok (.putfield 26, 3) := by decide +kernel
theorem dX11_init_37 : decode cX11_init 37 = .ok (.aload_n 0, 1) := by decide +kernel
theorem dX11_init_38 : decode cX11_init 38 = .ok (.iconst 2, 1) := by decide +kernel
theorem dX11_init_39 : decode cX11_init 39 = .ok (.anewarray 16, 3) := by decide +kernel
theorem dX11_init_42 : decode cX11_init 42 = .ok (.putfield 30, 3) := by decide +kernel
theorem dX11_init_45 : decode cX11_init 45 = .ok (.iconst 0, 1) := by decide +kernel
theorem dX11_init_46 : decode cX11_init 46 = .ok (.istore_n 1, 1) := by decide +kernel
theorem dX11_init_47 : decode cX11_init 47 = .ok (.iload_n 1, 1) := by decide +kernel
theorem dX11_init_48 : decode cX11_init 48 = .ok (.iconst 2, 1) := by decide +kernel
theorem dX11_init_49 : decode cX11_init 49 = .ok (.if_icmp .ge 22, 3) := by decide +kernel
theorem dX11_init_52 : decode cX11_init 52 = .ok (.aload_n 0, 1) := by decide +kernel
theorem dX11_init_53 : decode cX11_init 53 = .ok (.getfield 30, 3) := by decide +kernel
theorem dX11_init_56 : decode cX11_init 56 = .ok (.iload_n 1, 1) := by decide +kernel
theorem dX11_init_57 : decode cX11_init 57 = .ok (.new 16, 3) := by decide +kernel
theorem dX11_init_60 : decode cX11_init 60 = .ok (.dup, 1) := by decide +kernel
theorem dX11_init_61 : decode cX11_init 61 = .ok (.invokespecial 18, 3) := by decide +kernel
theorem dX11_init_64 : decode cX11_init 64 = .ok (.aastore, 1) := by decide +kernel
theorem dX11_init_65 : decode cX11_init 65 = .ok (.iinc 1 1, 3) := by decide +kernel
theorem dX11_init_68 : decode cX11_init 68 = .ok (.goto (-21), 3) := by decide +kernel
theorem dX11_init_71 : decode cX11_init 71 = .ok (.aload_n 0, 1) := by decide +kernel
theorem dX11_init_72 : decode cX11_init 72 = .ok (.iconst 2, 1) := by decide +kernel
theorem dX11_init_73 : decode cX11_init 73 = .ok (.newarray .boolean, 2) := by decide +kernel
theorem dX11_init_75 : decode cX11_init 75 = .ok (.putfield 34, 3) := by decide +kernel
theorem dX11_init_78 : decode cX11_init 78 = .ok (.aload_n 0, 1) := by decide +kernel
theorem dX11_init_79 : decode cX11_init 79 = .ok (.new 38, 3) := by decide +kernel
theorem dX11_init_82 : decode cX11_init 82 = .ok (.dup, 1) := by decide +kernel
theorem dX11_init_83 : decode cX11_init 83 = .ok (.invokespecial 40, 3) := by decide +kernel
theorem dX11_init_86 : decode cX11_init 86 = .ok (.putfield 41, 3) := by decide +kernel
theorem dX11_init_89 : decode cX11_init 89 = .ok (.aload_n 0, 1) := by decide +kernel
theorem dX11_init_90 : decode cX11_init 90 = .ok (.getfield 10, 3) := by decide +kernel
theorem dX11_init_93 : decode cX11_init 93 = .ok (.getfield 45, 3) := by decide +kernel
theorem dX11_init_96 : decode cX11_init 96 = .ok (.ldc 49, 2) := by decide +kernel
theorem dX11_init_98 : decode cX11_init 98 = .ok (.invokevirtual 51, 3) := by decide +kernel
theorem dX11_init_101 : decode cX11_init 101 = .ok (.aload_n 0, 1) := by decide +kernel
theorem dX11_init_102 : decode cX11_init 102 = .ok (.getfield 10, 3) := by decide +kernel
theorem dX11_init_105 : decode cX11_init 105 = .ok (.getfield 45, 3) := by decide +kernel
theorem dX11_init_108 : decode cX11_init 108 = .ok (.ldc 57, 2) := by decide +kernel
theorem dX11_init_110 : decode cX11_init 110 = .ok (.invokevirtual 51, 3) := by decide +kernel
theorem dX11_init_113 : decode cX11_init 113 = .ok (.aload_n 0, 1) := by decide +kernel
theorem dX11_init_114 : decode cX11_init 114 = .ok (.getfield 10, 3) := by decide +kernel
theorem dX11_init_117 : decode cX11_init 117 = .ok (.getfield 45, 3) := by decide +kernel
theorem dX11_init_120 : decode cX11_init 120 = .ok (.ldc 59, 2) := by decide +kernel
theorem dX11_init_122 : decode cX11_init 122 = .ok (.invokevirtual 51, 3) := by decide +kernel
theorem dX11_init_125 : decode cX11_init 125 = .ok (.aload_n 0, 1) := by decide +kernel
theorem dX11_init_126 : decode cX11_init 126 = .ok (.getfield 10, 3) := by decide +kernel
theorem dX11_init_129 : decode cX11_init 129 = .ok (.getfield 45, 3) := by decide +kernel
theorem dX11_init_132 : decode cX11_init 132 = .ok (.ldc 61, 2) := by decide +kernel
theorem dX11_init_134 : decode cX11_init 134 = .ok (.invokevirtual 51, 3) := by decide +kernel
theorem dX11_init_137 : decode cX11_init 137 = .ok (.aload_n 0, 1) := by decide +kernel
theorem dX11_init_138 : decode cX11_init 138 = .ok (.getfield 10, 3) := by decide +kernel
theorem dX11_init_141 : decode cX11_init 141 = .ok (.getfield 45, 3) := by decide +kernel
theorem dX11_init_144 : decode cX11_init 144 = .ok (.ldc 63, 2) := by decide +kernel
theorem dX11_init_146 : decode cX11_init 146 = .ok (.invokevirtual 51, 3) := by decide +kernel
theorem dX11_init_149 : decode cX11_init 149 = .ok (.aload_n 0, 1) := by decide +kernel
theorem dX11_init_150 : decode cX11_init 150 = .ok (.getfield 10, 3) := by decide +kernel
theorem dX11_init_153 : decode cX11_init 153 = .ok (.getfield 45, 3) := by decide +kernel
theorem dX11_init_156 : decode cX11_init 156 = .ok (.ldc 65, 2) := by decide +kernel
theorem dX11_init_158 : decode cX11_init 158 = .ok (.invokevirtual 51, 3) := by decide +kernel
theorem dX11_init_161 : decode cX11_init 161 = .ok (.aload_n 0, 1) := by decide +kernel
theorem dX11_init_162 : decode cX11_init 162 = .ok (.getfield 10, 3) := by decide +kernel
theorem dX11_init_165 : decode cX11_init 165 = .ok (.invokevirtual 67, 3) := by decide +kernel
theorem dX11_init_168 : decode cX11_init 168 = .ok (.pop, 1) := by decide +kernel
theorem dX11_init_169 : decode cX11_init 169 = .ok (.aload_n 0, 1) := by decide +kernel
theorem dX11_init_170 : decode cX11_init 170 = .ok (.getfield 19, 3) := by decide +kernel
theorem dX11_init_173 : decode cX11_init 173 = .ok (.aload_n 0, 1) := by decide +kernel
theorem dX11_init_174 : decode cX11_init 174 = .ok (.getfield 10, 3) := by decide +kernel
theorem dX11_init_177 : decode cX11_init 177 = .ok (.getfield 71, 3) := by decide +kernel
theorem dX11_init_180 : decode cX11_init 180 = .ok (.invokevirtual 74, 3) := by decide +kernel
theorem dX11_init_183 : decode cX11_init 183 = .ok (.return_, 1) := by decide +kernel
theorem dX11_append_0 : decode cX11_append 0 = .ok (.aload_n 0, 1) := by decide +kernel
theorem dX11_append_1 : decode cX11_append 1 = .ok (.getfield 10, 3) := by decide +kernel
theorem dX11_append_4 : decode cX11_append 4 = .ok (.getfield 45, 3) := by decide +kernel
theorem dX11_append_7 : decode cX11_append 7 = .ok (.astore 6, 2) := by decide +kernel
theorem dX11_append_9 : decode cX11_append 9 = .ok (.aload 6, 2) := by decide +kernel
theorem dX11_append_11 : decode cX11_append 11 = .ok (.bipush 20, 2) := by decide +kernel
theorem dX11_append_13 : decode cX11_append 13 = .ok (.invokevirtual 78, 3) := by decide +kernel
theorem dX11_append_16 : decode cX11_append 16 = .ok (.ifCond .ne 13, 3) := by decide +kernel
theorem dX11_append_19 : decode cX11_append 19 = .ok (.new 82, 3) := by decide +kernel
theorem dX11_append_22 : decode cX11_append 22 = .ok (.dup, 1) := by decide +kernel
theorem dX11_append_23 : decode cX11_append 23 = .ok (.ldc 84, 2) := by decide +kernel
theorem dX11_append_25 : decode cX11_append 25 = .ok (.invokespecial 86, 3) := by decide +kernel
theorem dX11_append_28 : decode cX11_append 28 = .ok (.athrow, 1) := by decide +kernel
theorem dX11_append_29 : decode cX11_append 29 = .ok (.aload 6, 2) := by decide +kernel
theorem dX11_append_31 : decode cX11_append 31 = .ok (.iload_n 1, 1) := by decide +kernel
theorem dX11_append_32 : decode cX11_append 32 = .ok (.invokevirtual 88, 3) := by decide +kernel
theorem dX11_append_35 : decode cX11_append 35 = .ok (.aload 6, 2) := by decide +kernel
theorem dX11_append_37 : decode cX11_append 37 = .ok (.iload_n 2, 1) := by decide +kernel
theorem dX11_append_38 : decode cX11_append 38 = .ok (.invokevirtual 88, 3) := by decide +kernel
theorem dX11_append_41 : decode cX11_append 41 = .ok (.aload 6, 2) := by decide +kernel
theorem dX11_append_43 : decode cX11_append 43 = .ok (.iload_n 3, 1) := by decide +kernel
theorem dX11_append_44 : decode cX11_append 44 = .ok (.invokevirtual 88, 3) := by decide +kernel
theorem dX11_append_47 : decode cX11_append 47 = .ok (.aload 6, 2) := by decide +kernel
theorem dX11_append_49 : decode cX11_append 49 = .ok (.iload 4, 2) := by decide +kernel
theorem dX11_append_51 : decode cX11_append 51 = .ok (.invokevirtual 88, 3) := by decide +kernel
theorem dX11_append_54 : decode cX11_append 54 = .ok (.aload 6, 2) := by decide +kernel
theorem dX11_append_56 : decode cX11_append 56 = .ok (.iload 5, 2) := by decide +kernel
theorem dX11_append_58 : decode cX11_append 58 = .ok (.invokevirtual 88, 3) := by decide +kernel
theorem dX11_append_61 : decode cX11_append 61 = .ok (.aload 6, 2) := by decide +kernel
theorem dX11_append_63 : decode cX11_append 63 = .ok (.getfield 92, 3) := by decide +kernel
theorem dX11_append_66 : decode cX11_append 66 = .ok (.ireturn, 1) := by decide +kernel
theorem dX11_truncate_0 : decode cX11_truncate 0 = .ok (.iload_n 1, 1) := by decide +kernel
theorem dX11_truncate_1 : decode cX11_truncate 1 = .ok (.ifCond .lt 17, 3) := by decide +kernel
theorem dX11_truncate_4 : decode cX11_truncate 4 = .ok (.iload_n 1, 1) := by decide +kernel
theorem dX11_truncate_5 : decode cX11_truncate 5 = .ok (.aload_n 0, 1) := by decide +kernel
theorem dX11_truncate_6 : decode cX11_truncate 6 = .ok (.getfield 10, 3) := by decide +kernel
theorem dX11_truncate_9 : decode cX11_truncate 9 = .ok (.getfield 45, 3) := by decide +kernel
theorem dX11_truncate_12 : decode cX11_truncate 12 = .ok (.getfield 92, 3) := by decide +kernel
theorem dX11_truncate_15 : decode cX11_truncate 15 = .ok (.if_icmp .le 13, 3) := by decide +kernel
theorem dX11_truncate_18 : decode cX11_truncate 18 = .ok (.new 96, 3) := by decide +kernel
theorem dX11_truncate_21 : decode cX11_truncate 21 = .ok (.dup, 1) := by decide +kernel
theorem dX11_truncate_22 : decode cX11_truncate 22 = .ok (.ldc 98, 2) := by decide +kernel
theorem dX11_truncate_24 : decode cX11_truncate 24 = .ok (.invokespecial 100, 3) := by decide +kernel
theorem dX11_truncate_27 : decode cX11_truncate 27 = .ok (.athrow, 1) := by decide +kernel
theorem dX11_truncate_28 : decode cX11_truncate 28 = .ok (.aload_n 0, 1) := by decide +kernel
theorem dX11_truncate_29 : decode cX11_truncate 29 = .ok (.getfield 10, 3) := by decide +kernel
theorem dX11_truncate_32 : decode cX11_truncate 32 = .ok (.getfield 45, 3) := by decide +kernel
theorem dX11_truncate_35 : decode cX11_truncate 35 = .ok (.iload_n 1, 1) := by decide +kernel
theorem dX11_truncate_36 : decode cX11_truncate 36 = .ok (.putfield 92, 3) := by decide +kernel
theorem dX11_truncate_39 : decode cX11_truncate 39 = .ok (.iload_n 1, 1) := by decide +kernel
theorem dX11_truncate_40 : decode cX11_truncate 40 = .ok (.ireturn, 1) := by decide +kernel
theorem dX11_load_0 : decode cX11_load 0 = .ok (.aload_n 0, 1) := by decide +kernel
theorem dX11_load_1 : decode cX11_load 1 = .ok (.getfield 10, 3) := by decide +kernel
theorem dX11_load_4 : decode cX11_load 4 = .ok (.invokevirtual 67, 3) := by decide +kernel
theorem dX11_load_7 : decode cX11_load 7 = .ok (.ifCond .ne 6, 3) := by decide +kernel
theorem dX11_load_10 : decode cX11_load 10 = .ok (.bipush (-7), 2) := by decide +kernel
theorem dX11_load_12 : decode cX11_load 12 = .ok (.ireturn, 1) := by decide +kernel
theorem dX11_load_13 : decode cX11_load 13 = .ok (.aload_n 0, 1) := by decide +kernel
theorem dX11_load_14 : decode cX11_load 14 = .ok (.getfield 26, 3) := by decide +kernel
theorem dX11_load_17 : decode cX11_load 17 = .ok (.aload_n 0, 1) := by decide +kernel
theorem dX11_load_18 : decode cX11_load 18 = .ok (.getfield 19, 3) := by decide +kernel
theorem dX11_load_21 : decode cX11_load 21 = .ok (.invokevirtual 101, 3) := by decide +kernel
theorem dX11_load_24 : decode cX11_load 24 = .ok (.aload_n 0, 1) := by decide +kernel
theorem dX11_load_25 : decode cX11_load 25 = .ok (.getfield 19, 3) := by decide +kernel
theorem dX11_load_28 : decode cX11_load 28 = .ok (.aload_n 0, 1) := by decide +kernel
theorem dX11_load_29 : decode cX11_load 29 = .ok (.getfield 10, 3) := by decide +kernel
theorem dX11_load_32 : decode cX11_load 32 = .ok (.getfield 71, 3) := by decide +kernel
theorem dX11_load_35 : decode cX11_load 35 = .ok (.invokevirtual 74, 3) := by decide +kernel
theorem dX11_load_38 : decode cX11_load 38 = .ok (.aload_n 0, 1) := by decide +kernel
theorem dX11_load_39 : decode cX11_load 39 = .ok (.getfield 19, 3) := by decide +kernel
theorem dX11_load_42 : decode cX11_load 42 = .ok (.getfield 104, 3) := by decide +kernel
theorem dX11_load_45 : decode cX11_load 45 = .ok (.getfield 108, 3) := by decide +kernel
theorem dX11_load_48 : decode cX11_load 48 = .ok (.ireturn, 1) := by decide +kernel
theorem dX11_errorCode_0 : decode cX11_errorCode 0 = .ok (.aload_n 0, 1) := by decide +kernel
theorem dX11_errorCode_1 : decode cX11_errorCode 1 = .ok (.getfield 10, 3) := by decide +kernel
theorem dX11_errorCode_4 : decode cX11_errorCode 4 = .ok (.getfield 113, 3) := by decide +kernel
theorem dX11_errorCode_7 : decode cX11_errorCode 7 = .ok (.ireturn, 1) := by decide +kernel
theorem dX11_errorOffset_0 : decode cX11_errorOffset 0 = .ok (.aload_n 0, 1) := by decide +kernel
theorem dX11_errorOffset_1 : decode cX11_errorOffset 1 = .ok (.getfield 10, 3) := by decide +kernel
theorem dX11_errorOffset_4 : decode cX11_errorOffset 4 = .ok (.getfield 116, 3) := by decide +kernel
theorem dX11_errorOffset_7 : decode cX11_errorOffset 7 = .ok (.ireturn, 1) := by decide +kernel
theorem dX11_varietyCount_0 : decode cX11_varietyCount 0 = .ok (.aload_n 0, 1) := by decide +kernel
theorem dX11_varietyCount_1 : decode cX11_varietyCount 1 = .ok (.getfield 19, 3) := by decide +kernel
theorem dX11_varietyCount_4 : decode cX11_varietyCount 4 = .ok (.getfield 119, 3) := by decide +kernel
theorem dX11_varietyCount_7 : decode cX11_varietyCount 7 = .ok (.getfield 123, 3) := by decide +kernel
theorem dX11_varietyCount_10 : decode cX11_varietyCount 10 = .ok (.ireturn, 1) := by decide +kernel
theorem dX11_classCount_0 : decode cX11_classCount 0 = .ok (.aload_n 0, 1) := by decide +kernel
theorem dX11_classCount_1 : decode cX11_classCount 1 = .ok (.getfield 19, 3) := by decide +kernel
theorem dX11_classCount_4 : decode cX11_classCount 4 = .ok (.getfield 119, 3) := by decide +kernel
theorem dX11_classCount_7 : decode cX11_classCount 7 = .ok (.getfield 128, 3) := by decide +kernel
theorem dX11_classCount_10 : decode cX11_classCount 10 = .ok (.ireturn, 1) := by decide +kernel
theorem dX11_growerCount_0 : decode cX11_growerCount 0 = .ok (.aload_n 0, 1) := by decide +kernel
theorem dX11_growerCount_1 : decode cX11_growerCount 1 = .ok (.getfield 19, 3) := by decide +kernel
theorem dX11_growerCount_4 : decode cX11_growerCount 4 = .ok (.getfield 131, 3) := by decide +kernel
theorem dX11_growerCount_7 : decode cX11_growerCount 7 = .ok (.getfield 135, 3) := by decide +kernel
theorem dX11_growerCount_10 : decode cX11_growerCount 10 = .ok (.ireturn, 1) := by decide +kernel
theorem dX11_plotCount_0 : decode cX11_plotCount 0 = .ok (.aload_n 0, 1) := by decide +kernel
theorem dX11_plotCount_1 : decode cX11_plotCount 1 = .ok (.getfield 19, 3) := by decide +kernel
theorem dX11_plotCount_4 : decode cX11_plotCount 4 = .ok (.getfield 131, 3) := by decide +kernel
theorem dX11_plotCount_7 : decode cX11_plotCount 7 = .ok (.getfield 140, 3) := by decide +kernel
theorem dX11_plotCount_10 : decode cX11_plotCount 10 = .ok (.ireturn, 1) := by decide +kernel
theorem dX11_loadCount_0 : decode cX11_loadCount 0 = .ok (.aload_n 0, 1) := by decide +kernel
theorem dX11_loadCount_1 : decode cX11_loadCount 1 = .ok (.getfield 19, 3) := by decide +kernel
theorem dX11_loadCount_4 : decode cX11_loadCount 4 = .ok (.getfield 104, 3) := by decide +kernel
theorem dX11_loadCount_7 : decode cX11_loadCount 7 = .ok (.getfield 108, 3) := by decide +kernel
theorem dX11_loadCount_10 : decode cX11_loadCount 10 = .ok (.ireturn, 1) := by decide +kernel
theorem dX11_lotCount_0 : decode cX11_lotCount 0 = .ok (.aload_n 0, 1) := by decide +kernel
theorem dX11_lotCount_1 : decode cX11_lotCount 1 = .ok (.getfield 19, 3) := by decide +kernel
theorem dX11_lotCount_4 : decode cX11_lotCount 4 = .ok (.getfield 143, 3) := by decide +kernel
theorem dX11_lotCount_7 : decode cX11_lotCount 7 = .ok (.getfield 147, 3) := by decide +kernel
theorem dX11_lotCount_10 : decode cX11_lotCount 10 = .ok (.ireturn, 1) := by decide +kernel
theorem dX11_classBySugar_0 : decode cX11_classBySugar 0 = .ok (.iload_n 1, 1) := by decide +kernel
theorem dX11_classBySugar_1 : decode cX11_classBySugar 1 = .ok (.invokestatic 152, 3) := by decide +kernel
theorem dX11_classBySugar_4 : decode cX11_classBySugar 4 = .ok (.aload_n 0, 1) := by decide +kernel
theorem dX11_classBySugar_5 : decode cX11_classBySugar 5 = .ok (.getfield 19, 3) := by decide +kernel
theorem dX11_classBySugar_8 : decode cX11_classBySugar 8 = .ok (.getfield 119, 3) := by decide +kernel
theorem dX11_classBySugar_11 : decode cX11_classBySugar 11 = .ok (.iload_n 1, 1) := by decide +kernel
theorem dX11_classBySugar_12 : decode cX11_classBySugar 12 = .ok (.invokevirtual 155, 3) := by decide +kernel
theorem dX11_classBySugar_15 : decode cX11_classBySugar 15 = .ok (.ireturn, 1) := by decide +kernel
theorem dX11_price_0 : decode cX11_price 0 = .ok (.aload_n 0, 1) := by decide +kernel
theorem dX11_price_1 : decode cX11_price 1 = .ok (.iload_n 1, 1) := by decide +kernel
theorem dX11_price_2 : decode cX11_price 2 = .ok (.invokevirtual 159, 3) := by decide +kernel
theorem dX11_price_5 : decode cX11_price 5 = .ok (.aload_n 0, 1) := by decide +kernel
theorem dX11_price_6 : decode cX11_price 6 = .ok (.iload_n 2, 1) := by decide +kernel
theorem dX11_price_7 : decode cX11_price 7 = .ok (.invokevirtual 162, 3) := by decide +kernel
theorem dX11_price_10 : decode cX11_price 10 = .ok (.aload_n 0, 1) := by decide +kernel
theorem dX11_price_11 : decode cX11_price 11 = .ok (.getfield 19, 3) := by decide +kernel
theorem dX11_price_14 : decode cX11_price 14 = .ok (.getfield 119, 3) := by decide +kernel
theorem dX11_price_17 : decode cX11_price 17 = .ok (.iload_n 1, 1) := by decide +kernel
theorem dX11_price_18 : decode cX11_price 18 = .ok (.iload_n 2, 1) := by decide +kernel
theorem dX11_price_19 : decode cX11_price 19 = .ok (.invokevirtual 165, 3) := by decide +kernel
theorem dX11_price_22 : decode cX11_price 22 = .ok (.ireturn, 1) := by decide +kernel
theorem dX11_weightOfClass_0 : decode cX11_weightOfClass 0 = .ok (.aload_n 0, 1) := by decide +kernel
theorem dX11_weightOfClass_1 : decode cX11_weightOfClass 1 = .ok (.iload_n 1, 1) := by decide +kernel
theorem dX11_weightOfClass_2 : decode cX11_weightOfClass 2 = .ok (.invokevirtual 159, 3) := by decide +kernel
theorem dX11_weightOfClass_5 : decode cX11_weightOfClass 5 = .ok (.aload_n 0, 1) := by decide +kernel
theorem dX11_weightOfClass_6 : decode cX11_weightOfClass 6 = .ok (.iload_n 2, 1) := by decide +kernel
theorem dX11_weightOfClass_7 : decode cX11_weightOfClass 7 = .ok (.invokevirtual 162, 3) := by decide +kernel
theorem dX11_weightOfClass_10 : decode cX11_weightOfClass 10 = .ok (.aload_n 0, 1) := by decide +kernel
theorem dX11_weightOfClass_11 : decode cX11_weightOfClass 11 = .ok (.getfield 19, 3) := by decide +kernel
theorem dX11_weightOfClass_14 : decode cX11_weightOfClass 14 = .ok (.getfield 104, 3) := by decide +kernel
theorem dX11_weightOfClass_17 : decode cX11_weightOfClass 17 = .ok (.iload_n 1, 1) := by decide +kernel
theorem dX11_weightOfClass_18 : decode cX11_weightOfClass 18 = .ok (.iload_n 2, 1) := by decide +kernel
theorem dX11_weightOfClass_19 : decode cX11_weightOfClass 19 = .ok (.invokevirtual 169, 3) := by decide +kernel
theorem dX11_weightOfClass_22 : decode cX11_weightOfClass 22 = .ok (.ireturn, 1) := by decide +kernel
theorem dX11_deliveredClasses_0 : decode cX11_deliveredClasses 0 = .ok (.aload_n 0, 1) := by decide +kernel
theorem dX11_deliveredClasses_1 : decode cX11_deliveredClasses 1 = .ok (.getfield 19, 3) := by decide +kernel
theorem dX11_deliveredClasses_4 : decode cX11_deliveredClasses 4 = .ok (.getfield 104, 3) := by decide +kernel
theorem dX11_deliveredClasses_7 : decode cX11_deliveredClasses 7 = .ok (.invokevirtual 172, 3) := by decide +kernel
theorem dX11_deliveredClasses_10 : decode cX11_deliveredClasses 10 = .ok (.ireturn, 1) := by decide +kernel
theorem dX11_classInOrder_0 : decode cX11_classInOrder 0 = .ok (.aload_n 0, 1) := by decide +kernel
theorem dX11_classInOrder_1 : decode cX11_classInOrder 1 = .ok (.getfield 19, 3) := by decide +kernel
theorem dX11_classInOrder_4 : decode cX11_classInOrder 4 = .ok (.getfield 104, 3) := by decide +kernel
theorem dX11_classInOrder_7 : decode cX11_classInOrder 7 = .ok (.iload_n 1, 1) := by decide +kernel
theorem dX11_classInOrder_8 : decode cX11_classInOrder 8 = .ok (.invokevirtual 176, 3) := by decide +kernel
theorem dX11_classInOrder_11 : decode cX11_classInOrder 11 = .ok (.istore_n 2, 1) := by decide +kernel
theorem dX11_classInOrder_12 : decode cX11_classInOrder 12 = .ok (.iload_n 2, 1) := by decide +kernel
theorem dX11_classInOrder_13 : decode cX11_classInOrder 13 = .ok (.iconst (-1), 1) := by decide +kernel
theorem dX11_classInOrder_14 : decode cX11_classInOrder 14 = .ok (.if_icmp .ne 13, 3) := by decide +kernel
theorem dX11_classInOrder_17 : decode cX11_classInOrder 17 = .ok (.new 179, 3) := by decide +kernel
theorem dX11_classInOrder_20 : decode cX11_classInOrder 20 = .ok (.dup, 1) := by decide +kernel
theorem dX11_classInOrder_21 : decode cX11_classInOrder 21 = .ok (.ldc 181, 2) := by decide +kernel
theorem dX11_classInOrder_23 : decode cX11_classInOrder 23 = .ok (.invokespecial 183, 3) := by decide +kernel
theorem dX11_classInOrder_26 : decode cX11_classInOrder 26 = .ok (.athrow, 1) := by decide +kernel
theorem dX11_classInOrder_27 : decode cX11_classInOrder 27 = .ok (.iload_n 2, 1) := by decide +kernel
theorem dX11_classInOrder_28 : decode cX11_classInOrder 28 = .ok (.ireturn, 1) := by decide +kernel
theorem dX11_greatestClass_0 : decode cX11_greatestClass 0 = .ok (.aload_n 0, 1) := by decide +kernel
theorem dX11_greatestClass_1 : decode cX11_greatestClass 1 = .ok (.getfield 19, 3) := by decide +kernel
theorem dX11_greatestClass_4 : decode cX11_greatestClass 4 = .ok (.getfield 104, 3) := by decide +kernel
theorem dX11_greatestClass_7 : decode cX11_greatestClass 7 = .ok (.invokevirtual 184, 3) := by decide +kernel
theorem dX11_greatestClass_10 : decode cX11_greatestClass 10 = .ok (.ireturn, 1) := by decide +kernel
theorem dX11_plotsOf_0 : decode cX11_plotsOf 0 = .ok (.aload_n 0, 1) := by decide +kernel
theorem dX11_plotsOf_1 : decode cX11_plotsOf 1 = .ok (.iload_n 1, 1) := by decide +kernel
theorem dX11_plotsOf_2 : decode cX11_plotsOf 2 = .ok (.invokevirtual 187, 3) := by decide +kernel
theorem dX11_plotsOf_5 : decode cX11_plotsOf 5 = .ok (.aload_n 0, 1) := by decide +kernel
theorem dX11_plotsOf_6 : decode cX11_plotsOf 6 = .ok (.getfield 19, 3) := by decide +kernel
theorem dX11_plotsOf_9 : decode cX11_plotsOf 9 = .ok (.getfield 131, 3) := by decide +kernel
theorem dX11_plotsOf_12 : decode cX11_plotsOf 12 = .ok (.iload_n 1, 1) := by decide +kernel
theorem dX11_plotsOf_13 : decode cX11_plotsOf 13 = .ok (.invokevirtual 190, 3) := by decide +kernel
theorem dX11_plotsOf_16 : decode cX11_plotsOf 16 = .ok (.ireturn, 1) := by decide +kernel
theorem dX11_weightOf_0 : decode cX11_weightOf 0 = .ok (.aload_n 0, 1) := by decide +kernel
theorem dX11_weightOf_1 : decode cX11_weightOf 1 = .ok (.iload_n 1, 1) := by decide +kernel
theorem dX11_weightOf_2 : decode cX11_weightOf 2 = .ok (.invokevirtual 187, 3) := by decide +kernel
theorem dX11_weightOf_5 : decode cX11_weightOf 5 = .ok (.aload_n 0, 1) := by decide +kernel
theorem dX11_weightOf_6 : decode cX11_weightOf 6 = .ok (.getfield 19, 3) := by decide +kernel
theorem dX11_weightOf_9 : decode cX11_weightOf 9 = .ok (.getfield 104, 3) := by decide +kernel
theorem dX11_weightOf_12 : decode cX11_weightOf 12 = .ok (.iload_n 1, 1) := by decide +kernel
theorem dX11_weightOf_13 : decode cX11_weightOf 13 = .ok (.invokevirtual 193, 3) := by decide +kernel
theorem dX11_weightOf_16 : decode cX11_weightOf 16 = .ok (.ireturn, 1) := by decide +kernel
theorem dX11_owed_0 : decode cX11_owed 0 = .ok (.aload_n 0, 1) := by decide +kernel
theorem dX11_owed_1 : decode cX11_owed 1 = .ok (.iload_n 1, 1) := by decide +kernel
theorem dX11_owed_2 : decode cX11_owed 2 = .ok (.invokevirtual 187, 3) := by decide +kernel
theorem dX11_owed_5 : decode cX11_owed 5 = .ok (.aload_n 0, 1) := by decide +kernel
theorem dX11_owed_6 : decode cX11_owed 6 = .ok (.getfield 19, 3) := by decide +kernel
theorem dX11_owed_9 : decode cX11_owed 9 = .ok (.iload_n 1, 1) := by decide +kernel
theorem dX11_owed_10 : decode cX11_owed 10 = .ok (.invokevirtual 196, 3) := by decide +kernel
theorem dX11_owed_13 : decode cX11_owed 13 = .ok (.ireturn, 1) := by decide +kernel
theorem dX11_paidTo_0 : decode cX11_paidTo 0 = .ok (.aload_n 0, 1) := by decide +kernel
theorem dX11_paidTo_1 : decode cX11_paidTo 1 = .ok (.iload_n 1, 1) := by decide +kernel
theorem dX11_paidTo_2 : decode cX11_paidTo 2 = .ok (.invokevirtual 187, 3) := by decide +kernel
theorem dX11_paidTo_5 : decode cX11_paidTo 5 = .ok (.aload_n 0, 1) := by decide +kernel
theorem dX11_paidTo_6 : decode cX11_paidTo 6 = .ok (.getfield 19, 3) := by decide +kernel
theorem dX11_paidTo_9 : decode cX11_paidTo 9 = .ok (.getfield 104, 3) := by decide +kernel
theorem dX11_paidTo_12 : decode cX11_paidTo 12 = .ok (.iload_n 1, 1) := by decide +kernel
theorem dX11_paidTo_13 : decode cX11_paidTo 13 = .ok (.invokevirtual 199, 3) := by decide +kernel
theorem dX11_paidTo_16 : decode cX11_paidTo 16 = .ok (.ireturn, 1) := by decide +kernel
theorem dX11_varietiesOf_0 : decode cX11_varietiesOf 0 = .ok (.aload_n 0, 1) := by decide +kernel
theorem dX11_varietiesOf_1 : decode cX11_varietiesOf 1 = .ok (.iload_n 1, 1) := by decide +kernel
theorem dX11_varietiesOf_2 : decode cX11_varietiesOf 2 = .ok (.invokevirtual 187, 3) := by decide +kernel
theorem dX11_varietiesOf_5 : decode cX11_varietiesOf 5 = .ok (.aload_n 0, 1) := by decide +kernel
theorem dX11_varietiesOf_6 : decode cX11_varietiesOf 6 = .ok (.getfield 19, 3) := by decide +kernel
theorem dX11_varietiesOf_9 : decode cX11_varietiesOf 9 = .ok (.iload_n 1, 1) := by decide +kernel
theorem dX11_varietiesOf_10 : decode cX11_varietiesOf 10 = .ok (.invokevirtual 202, 3) := by decide +kernel
theorem dX11_varietiesOf_13 : decode cX11_varietiesOf 13 = .ok (.ireturn, 1) := by decide +kernel
theorem dX11_greatestGrower_0 : decode cX11_greatestGrower 0 = .ok (.aload_n 0, 1) := by decide +kernel
theorem dX11_greatestGrower_1 : decode cX11_greatestGrower 1 = .ok (.getfield 19, 3) := by decide +kernel
theorem dX11_greatestGrower_4 : decode cX11_greatestGrower 4 = .ok (.invokevirtual 205, 3) := by decide +kernel
theorem dX11_greatestGrower_7 : decode cX11_greatestGrower 7 = .ok (.ireturn, 1) := by decide +kernel
theorem dX11_yieldLimit_0 : decode cX11_yieldLimit 0 = .ok (.aload_n 0, 1) := by decide +kernel
theorem dX11_yieldLimit_1 : decode cX11_yieldLimit 1 = .ok (.iload_n 1, 1) := by decide +kernel
theorem dX11_yieldLimit_2 : decode cX11_yieldLimit 2 = .ok (.invokevirtual 208, 3) := by decide +kernel
theorem dX11_yieldLimit_5 : decode cX11_yieldLimit 5 = .ok (.aload_n 0, 1) := by decide +kernel
theorem dX11_yieldLimit_6 : decode cX11_yieldLimit 6 = .ok (.getfield 19, 3) := by decide +kernel
theorem dX11_yieldLimit_9 : decode cX11_yieldLimit 9 = .ok (.getfield 131, 3) := by decide +kernel
theorem dX11_yieldLimit_12 : decode cX11_yieldLimit 12 = .ok (.iload_n 1, 1) := by decide +kernel
theorem dX11_yieldLimit_13 : decode cX11_yieldLimit 13 = .ok (.invokevirtual 211, 3) := by decide +kernel
theorem dX11_yieldLimit_16 : decode cX11_yieldLimit 16 = .ok (.ireturn, 1) := by decide +kernel
theorem dX11_harvested_0 : decode cX11_harvested 0 = .ok (.aload_n 0, 1) := by decide +kernel
theorem dX11_harvested_1 : decode cX11_harvested 1 = .ok (.iload_n 1, 1) := by decide +kernel
theorem dX11_harvested_2 : decode cX11_harvested 2 = .ok (.invokevirtual 208, 3) := by decide +kernel
theorem dX11_harvested_5 : decode cX11_harvested 5 = .ok (.aload_n 0, 1) := by decide +kernel
theorem dX11_harvested_6 : decode cX11_harvested 6 = .ok (.getfield 19, 3) := by decide +kernel
theorem dX11_harvested_9 : decode cX11_harvested 9 = .ok (.getfield 104, 3) := by decide +kernel
theorem dX11_harvested_12 : decode cX11_harvested 12 = .ok (.iload_n 1, 1) := by decide +kernel
theorem dX11_harvested_13 : decode cX11_harvested 13 = .ok (.invokevirtual 214, 3) := by decide +kernel
theorem dX11_harvested_16 : decode cX11_harvested 16 = .ok (.ireturn, 1) := by decide +kernel
theorem dX11_yieldLeft_0 : decode cX11_yieldLeft 0 = .ok (.aload_n 0, 1) := by decide +kernel
theorem dX11_yieldLeft_1 : decode cX11_yieldLeft 1 = .ok (.iload_n 1, 1) := by decide +kernel
theorem dX11_yieldLeft_2 : decode cX11_yieldLeft 2 = .ok (.invokevirtual 208, 3) := by decide +kernel
theorem dX11_yieldLeft_5 : decode cX11_yieldLeft 5 = .ok (.aload_n 0, 1) := by decide +kernel
theorem dX11_yieldLeft_6 : decode cX11_yieldLeft 6 = .ok (.getfield 19, 3) := by decide +kernel
theorem dX11_yieldLeft_9 : decode cX11_yieldLeft 9 = .ok (.iload_n 1, 1) := by decide +kernel
theorem dX11_yieldLeft_10 : decode cX11_yieldLeft 10 = .ok (.invokevirtual 217, 3) := by decide +kernel
theorem dX11_yieldLeft_13 : decode cX11_yieldLeft 13 = .ok (.ireturn, 1) := by decide +kernel
theorem dX11_plotOfLoad_0 : decode cX11_plotOfLoad 0 = .ok (.aload_n 0, 1) := by decide +kernel
theorem dX11_plotOfLoad_1 : decode cX11_plotOfLoad 1 = .ok (.iload_n 1, 1) := by decide +kernel
theorem dX11_plotOfLoad_2 : decode cX11_plotOfLoad 2 = .ok (.invokevirtual 220, 3) := by decide +kernel
theorem dX11_plotOfLoad_5 : decode cX11_plotOfLoad 5 = .ok (.getfield 224, 3) := by decide +kernel
theorem dX11_plotOfLoad_8 : decode cX11_plotOfLoad 8 = .ok (.ireturn, 1) := by decide +kernel
theorem dX11_classOfLoad_0 : decode cX11_classOfLoad 0 = .ok (.aload_n 0, 1) := by decide +kernel
theorem dX11_classOfLoad_1 : decode cX11_classOfLoad 1 = .ok (.iload_n 1, 1) := by decide +kernel
theorem dX11_classOfLoad_2 : decode cX11_classOfLoad 2 = .ok (.invokevirtual 220, 3) := by decide +kernel
theorem dX11_classOfLoad_5 : decode cX11_classOfLoad 5 = .ok (.getfield 229, 3) := by decide +kernel
theorem dX11_classOfLoad_8 : decode cX11_classOfLoad 8 = .ok (.ireturn, 1) := by decide +kernel
theorem dX11_tankOfLoad_0 : decode cX11_tankOfLoad 0 = .ok (.aload_n 0, 1) := by decide +kernel
theorem dX11_tankOfLoad_1 : decode cX11_tankOfLoad 1 = .ok (.iload_n 1, 1) := by decide +kernel
theorem dX11_tankOfLoad_2 : decode cX11_tankOfLoad 2 = .ok (.invokevirtual 220, 3) := by decide +kernel
theorem dX11_tankOfLoad_5 : decode cX11_tankOfLoad 5 = .ok (.getfield 232, 3) := by decide +kernel
theorem dX11_tankOfLoad_8 : decode cX11_tankOfLoad 8 = .ok (.ireturn, 1) := by decide +kernel
theorem dX11_valueOf_0 : decode cX11_valueOf 0 = .ok (.aload_n 0, 1) := by decide +kernel
theorem dX11_valueOf_1 : decode cX11_valueOf 1 = .ok (.getfield 19, 3) := by decide +kernel
theorem dX11_valueOf_4 : decode cX11_valueOf 4 = .ok (.aload_n 0, 1) := by decide +kernel
theorem dX11_valueOf_5 : decode cX11_valueOf 5 = .ok (.iload_n 1, 1) := by decide +kernel
theorem dX11_valueOf_6 : decode cX11_valueOf 6 = .ok (.invokevirtual 220, 3) := by decide +kernel
theorem dX11_valueOf_9 : decode cX11_valueOf 9 = .ok (.invokevirtual 235, 3) := by decide +kernel
theorem dX11_valueOf_12 : decode cX11_valueOf 12 = .ok (.ireturn, 1) := by decide +kernel
theorem dX11_isPaid_0 : decode cX11_isPaid 0 = .ok (.aload_n 0, 1) := by decide +kernel
theorem dX11_isPaid_1 : decode cX11_isPaid 1 = .ok (.iload_n 1, 1) := by decide +kernel
theorem dX11_isPaid_2 : decode cX11_isPaid 2 = .ok (.invokevirtual 220, 3) := by decide +kernel
theorem dX11_isPaid_5 : decode cX11_isPaid 5 = .ok (.getfield 239, 3) := by decide +kernel
theorem dX11_isPaid_8 : decode cX11_isPaid 8 = .ok (.ireturn, 1) := by decide +kernel
theorem dX11_isLowered_0 : decode cX11_isLowered 0 = .ok (.aload_n 0, 1) := by decide +kernel
theorem dX11_isLowered_1 : decode cX11_isLowered 1 = .ok (.iload_n 1, 1) := by decide +kernel
theorem dX11_isLowered_2 : decode cX11_isLowered 2 = .ok (.invokevirtual 220, 3) := by decide +kernel
theorem dX11_isLowered_5 : decode cX11_isLowered 5 = .ok (.astore_n 2, 1) := by decide +kernel
theorem dX11_isLowered_6 : decode cX11_isLowered 6 = .ok (.aload_n 2, 1) := by decide +kernel
theorem dX11_isLowered_7 : decode cX11_isLowered 7 = .ok (.getfield 229, 3) := by decide +kernel
theorem dX11_isLowered_10 : decode cX11_isLowered 10 = .ok (.aload_n 0, 1) := by decide +kernel
theorem dX11_isLowered_11 : decode cX11_isLowered 11 = .ok (.getfield 19, 3) := by decide +kernel
theorem dX11_isLowered_14 : decode cX11_isLowered 14 = .ok (.getfield 119, 3) := by decide +kernel
theorem dX11_isLowered_17 : decode cX11_isLowered 17 = .ok (.aload_n 2, 1) := by decide +kernel
theorem dX11_isLowered_18 : decode cX11_isLowered 18 = .ok (.getfield 243, 3) := by decide +kernel
theorem dX11_isLowered_21 : decode cX11_isLowered 21 = .ok (.invokevirtual 155, 3) := by decide +kernel
theorem dX11_isLowered_24 : decode cX11_isLowered 24 = .ok (.if_icmp .eq 7, 3) := by decide +kernel
theorem dX11_isLowered_27 : decode cX11_isLowered 27 = .ok (.iconst 1, 1) := by decide +kernel
theorem dX11_isLowered_28 : decode cX11_isLowered 28 = .ok (.goto 4, 3) := by decide +kernel
theorem dX11_isLowered_31 : decode cX11_isLowered 31 = .ok (.iconst 0, 1) := by decide +kernel
theorem dX11_isLowered_32 : decode cX11_isLowered 32 = .ok (.ireturn, 1) := by decide +kernel
theorem dX11_content_0 : decode cX11_content 0 = .ok (.aload_n 0, 1) := by decide +kernel
theorem dX11_content_1 : decode cX11_content 1 = .ok (.iload_n 1, 1) := by decide +kernel
theorem dX11_content_2 : decode cX11_content 2 = .ok (.invokevirtual 246, 3) := by decide +kernel
theorem dX11_content_5 : decode cX11_content 5 = .ok (.getfield 250, 3) := by decide +kernel
theorem dX11_content_8 : decode cX11_content 8 = .ok (.ireturn, 1) := by decide +kernel
theorem dX11_varietyIn_0 : decode cX11_varietyIn 0 = .ok (.aload_n 0, 1) := by decide +kernel
theorem dX11_varietyIn_1 : decode cX11_varietyIn 1 = .ok (.iload_n 1, 1) := by decide +kernel
theorem dX11_varietyIn_2 : decode cX11_varietyIn 2 = .ok (.invokevirtual 246, 3) := by decide +kernel
theorem dX11_varietyIn_5 : decode cX11_varietyIn 5 = .ok (.getfield 255, 3) := by decide +kernel
theorem dX11_varietyIn_8 : decode cX11_varietyIn 8 = .ok (.ireturn, 1) := by decide +kernel
theorem dX11_meanSugar_0 : decode cX11_meanSugar 0 = .ok (.aload_n 0, 1) := by decide +kernel
theorem dX11_meanSugar_1 : decode cX11_meanSugar 1 = .ok (.iload_n 1, 1) := by decide +kernel
theorem dX11_meanSugar_2 : decode cX11_meanSugar 2 = .ok (.invokevirtual 246, 3) := by decide +kernel
theorem dX11_meanSugar_5 : decode cX11_meanSugar 5 = .ok (.invokevirtual 258, 3) := by decide +kernel
theorem dX11_meanSugar_8 : decode cX11_meanSugar 8 = .ok (.ireturn, 1) := by decide +kernel
theorem dX11_tankFor_0 : decode cX11_tankFor 0 = .ok (.aload_n 0, 1) := by decide +kernel
theorem dX11_tankFor_1 : decode cX11_tankFor 1 = .ok (.iload_n 1, 1) := by decide +kernel
theorem dX11_tankFor_2 : decode cX11_tankFor 2 = .ok (.invokevirtual 159, 3) := by decide +kernel
theorem dX11_tankFor_5 : decode cX11_tankFor 5 = .ok (.iload_n 2, 1) := by decide +kernel
theorem dX11_tankFor_6 : decode cX11_tankFor 6 = .ok (.invokestatic 261, 3) := by decide +kernel
theorem dX11_tankFor_9 : decode cX11_tankFor 9 = .ok (.aload_n 0, 1) := by decide +kernel
theorem dX11_tankFor_10 : decode cX11_tankFor 10 = .ok (.getfield 19, 3) := by decide +kernel
theorem dX11_tankFor_13 : decode cX11_tankFor 13 = .ok (.getfield 143, 3) := by decide +kernel
theorem dX11_tankFor_16 : decode cX11_tankFor 16 = .ok (.iload_n 1, 1) := by decide +kernel
theorem dX11_tankFor_17 : decode cX11_tankFor 17 = .ok (.iload_n 2, 1) := by decide +kernel
theorem dX11_tankFor_18 : decode cX11_tankFor 18 = .ok (.invokevirtual 264, 3) := by decide +kernel
theorem dX11_tankFor_21 : decode cX11_tankFor 21 = .ok (.ireturn, 1) := by decide +kernel
theorem dX11_greatestLoad_0 : decode cX11_greatestLoad 0 = .ok (.aload_n 0, 1) := by decide +kernel
theorem dX11_greatestLoad_1 : decode cX11_greatestLoad 1 = .ok (.iload_n 1, 1) := by decide +kernel
theorem dX11_greatestLoad_2 : decode cX11_greatestLoad 2 = .ok (.invokevirtual 159, 3) := by decide +kernel
theorem dX11_greatestLoad_5 : decode cX11_greatestLoad 5 = .ok (.aload_n 0, 1) := by decide +kernel
theorem dX11_greatestLoad_6 : decode cX11_greatestLoad 6 = .ok (.getfield 19, 3) := by decide +kernel
theorem dX11_greatestLoad_9 : decode cX11_greatestLoad 9 = .ok (.getfield 143, 3) := by decide +kernel
theorem dX11_greatestLoad_12 : decode cX11_greatestLoad 12 = .ok (.iload_n 1, 1) := by decide +kernel
theorem dX11_greatestLoad_13 : decode cX11_greatestLoad 13 = .ok (.invokevirtual 267, 3) := by decide +kernel
theorem dX11_greatestLoad_16 : decode cX11_greatestLoad 16 = .ok (.ireturn, 1) := by decide +kernel
theorem dX11_refusal_0 : decode cX11_refusal 0 = .ok (.aload_n 0, 1) := by decide +kernel
theorem dX11_refusal_1 : decode cX11_refusal 1 = .ok (.iload_n 1, 1) := by decide +kernel
theorem dX11_refusal_2 : decode cX11_refusal 2 = .ok (.invokevirtual 208, 3) := by decide +kernel
theorem dX11_refusal_5 : decode cX11_refusal 5 = .ok (.iload_n 2, 1) := by decide +kernel
theorem dX11_refusal_6 : decode cX11_refusal 6 = .ok (.invokestatic 261, 3) := by decide +kernel
theorem dX11_refusal_9 : decode cX11_refusal 9 = .ok (.iload_n 3, 1) := by decide +kernel
theorem dX11_refusal_10 : decode cX11_refusal 10 = .ok (.invokestatic 152, 3) := by decide +kernel
theorem dX11_refusal_13 : decode cX11_refusal 13 = .ok (.aload_n 0, 1) := by decide +kernel
theorem dX11_refusal_14 : decode cX11_refusal 14 = .ok (.getfield 19, 3) := by decide +kernel
theorem dX11_refusal_17 : decode cX11_refusal 17 = .ok (.iload_n 1, 1) := by decide +kernel
theorem dX11_refusal_18 : decode cX11_refusal 18 = .ok (.iload_n 2, 1) := by decide +kernel
theorem dX11_refusal_19 : decode cX11_refusal 19 = .ok (.iload_n 3, 1) := by decide +kernel
theorem dX11_refusal_20 : decode cX11_refusal 20 = .ok (.invokevirtual 270, 3) := by decide +kernel
theorem dX11_refusal_23 : decode cX11_refusal 23 = .ok (.ireturn, 1) := by decide +kernel
theorem dX11_valueIfDelivered_0 : decode cX11_valueIfDelivered 0 = .ok (.aload_n 0, 1) := by decide +kernel
theorem dX11_valueIfDelivered_1 : decode cX11_valueIfDelivered 1 = .ok (.iload_n 1, 1) := by decide +kernel
theorem dX11_valueIfDelivered_2 : decode cX11_valueIfDelivered 2 = .ok (.invokevirtual 208, 3) := by decide +kernel
theorem dX11_valueIfDelivered_5 : decode cX11_valueIfDelivered 5 = .ok (.iload_n 2, 1) := by decide +kernel
theorem dX11_valueIfDelivered_6 : decode cX11_valueIfDelivered 6 = .ok (.invokestatic 261, 3) := by decide +kernel
theorem dX11_valueIfDelivered_9 : decode cX11_valueIfDelivered 9 = .ok (.iload_n 3, 1) := by decide +kernel
theorem dX11_valueIfDelivered_10 : decode cX11_valueIfDelivered 10 = .ok (.invokestatic 152, 3) := by decide +kernel
theorem dX11_valueIfDelivered_13 : decode cX11_valueIfDelivered 13 = .ok (.aload_n 0, 1) := by decide +kernel
theorem dX11_valueIfDelivered_14 : decode cX11_valueIfDelivered 14 = .ok (.getfield 19, 3) := by decide +kernel
theorem dX11_valueIfDelivered_17 : decode cX11_valueIfDelivered 17 = .ok (.iload_n 1, 1) := by decide +kernel
theorem dX11_valueIfDelivered_18 : decode cX11_valueIfDelivered 18 = .ok (.iload_n 2, 1) := by decide +kernel
theorem dX11_valueIfDelivered_19 : decode cX11_valueIfDelivered 19 = .ok (.iload_n 3, 1) := by decide +kernel
theorem dX11_valueIfDelivered_20 : decode cX11_valueIfDelivered 20 = .ok (.invokevirtual 270, 3) := by decide +kernel
theorem dX11_valueIfDelivered_23 : decode cX11_valueIfDelivered 23 = .ok (.ifCond .eq 5, 3) := by decide +kernel
theorem dX11_valueIfDelivered_26 : decode cX11_valueIfDelivered 26 = .ok (.iconst (-1), 1) := by decide +kernel
theorem dX11_valueIfDelivered_27 : decode cX11_valueIfDelivered 27 = .ok (.ireturn, 1) := by decide +kernel
theorem dX11_valueIfDelivered_28 : decode cX11_valueIfDelivered 28 = .ok (.iload_n 2, 1) := by decide +kernel
theorem dX11_valueIfDelivered_29 : decode cX11_valueIfDelivered 29 = .ok (.aload_n 0, 1) := by decide +kernel
theorem dX11_valueIfDelivered_30 : decode cX11_valueIfDelivered 30 = .ok (.getfield 19, 3) := by decide +kernel
theorem dX11_valueIfDelivered_33 : decode cX11_valueIfDelivered 33 = .ok (.getfield 119, 3) := by decide +kernel
theorem dX11_valueIfDelivered_36 : decode cX11_valueIfDelivered 36 = .ok (.aload_n 0, 1) := by decide +kernel
theorem dX11_valueIfDelivered_37 : decode cX11_valueIfDelivered 37 = .ok (.getfield 19, 3) := by decide +kernel
theorem dX11_valueIfDelivered_40 : decode cX11_valueIfDelivered 40 = .ok (.getfield 131, 3) := by decide +kernel
theorem dX11_valueIfDelivered_43 : decode cX11_valueIfDelivered 43 = .ok (.iload_n 1, 1) := by decide +kernel
theorem dX11_valueIfDelivered_44 : decode cX11_valueIfDelivered 44 = .ok (.invokevirtual 274, 3) := by decide +kernel
theorem dX11_valueIfDelivered_47 : decode cX11_valueIfDelivered 47 = .ok (.aload_n 0, 1) := by decide +kernel
theorem dX11_valueIfDelivered_48 : decode cX11_valueIfDelivered 48 = .ok (.getfield 19, 3) := by decide +kernel
theorem dX11_valueIfDelivered_51 : decode cX11_valueIfDelivered 51 = .ok (.iload_n 1, 1) := by decide +kernel
theorem dX11_valueIfDelivered_52 : decode cX11_valueIfDelivered 52 = .ok (.iload_n 2, 1) := by decide +kernel
theorem dX11_valueIfDelivered_53 : decode cX11_valueIfDelivered 53 = .ok (.iload_n 3, 1) := by decide +kernel
theorem dX11_valueIfDelivered_54 : decode cX11_valueIfDelivered 54 = .ok (.invokevirtual 277, 3) := by decide +kernel
theorem dX11_valueIfDelivered_57 : decode cX11_valueIfDelivered 57 = .ok (.invokevirtual 165, 3) := by decide +kernel
theorem dX11_valueIfDelivered_60 : decode cX11_valueIfDelivered 60 = .ok (.imul, 1) := by decide +kernel
theorem dX11_valueIfDelivered_61 : decode cX11_valueIfDelivered 61 = .ok (.ireturn, 1) := by decide +kernel
theorem dX11_lotVariety_0 : decode cX11_lotVariety 0 = .ok (.aload_n 0, 1) := by decide +kernel
theorem dX11_lotVariety_1 : decode cX11_lotVariety 1 = .ok (.iload_n 1, 1) := by decide +kernel
theorem dX11_lotVariety_2 : decode cX11_lotVariety 2 = .ok (.invokevirtual 280, 3) := by decide +kernel
theorem dX11_lotVariety_5 : decode cX11_lotVariety 5 = .ok (.getfield 284, 3) := by decide +kernel
theorem dX11_lotVariety_8 : decode cX11_lotVariety 8 = .ok (.ireturn, 1) := by decide +kernel
theorem dX11_lotSugar_0 : decode cX11_lotSugar 0 = .ok (.aload_n 0, 1) := by decide +kernel
theorem dX11_lotSugar_1 : decode cX11_lotSugar 1 = .ok (.iload_n 1, 1) := by decide +kernel
theorem dX11_lotSugar_2 : decode cX11_lotSugar 2 = .ok (.invokevirtual 280, 3) := by decide +kernel
theorem dX11_lotSugar_5 : decode cX11_lotSugar 5 = .ok (.getfield 287, 3) := by decide +kernel
theorem dX11_lotSugar_8 : decode cX11_lotSugar 8 = .ok (.ireturn, 1) := by decide +kernel
theorem dX11_unsold_0 : decode cX11_unsold 0 = .ok (.aload_n 0, 1) := by decide +kernel
theorem dX11_unsold_1 : decode cX11_unsold 1 = .ok (.iload_n 1, 1) := by decide +kernel
theorem dX11_unsold_2 : decode cX11_unsold 2 = .ok (.invokevirtual 280, 3) := by decide +kernel
theorem dX11_unsold_5 : decode cX11_unsold 5 = .ok (.getfield 288, 3) := by decide +kernel
theorem dX11_unsold_8 : decode cX11_unsold 8 = .ok (.ireturn, 1) := by decide +kernel
theorem dX11_sweetestLot_0 : decode cX11_sweetestLot 0 = .ok (.aload_n 0, 1) := by decide +kernel
theorem dX11_sweetestLot_1 : decode cX11_sweetestLot 1 = .ok (.getfield 19, 3) := by decide +kernel
theorem dX11_sweetestLot_4 : decode cX11_sweetestLot 4 = .ok (.getfield 143, 3) := by decide +kernel
theorem dX11_sweetestLot_7 : decode cX11_sweetestLot 7 = .ok (.invokevirtual 291, 3) := by decide +kernel
theorem dX11_sweetestLot_10 : decode cX11_sweetestLot 10 = .ok (.ireturn, 1) := by decide +kernel
theorem dX11_bottlesOf_0 : decode cX11_bottlesOf 0 = .ok (.aload_n 0, 1) := by decide +kernel
theorem dX11_bottlesOf_1 : decode cX11_bottlesOf 1 = .ok (.iload_n 1, 1) := by decide +kernel
theorem dX11_bottlesOf_2 : decode cX11_bottlesOf 2 = .ok (.invokevirtual 159, 3) := by decide +kernel
theorem dX11_bottlesOf_5 : decode cX11_bottlesOf 5 = .ok (.aload_n 0, 1) := by decide +kernel
theorem dX11_bottlesOf_6 : decode cX11_bottlesOf 6 = .ok (.getfield 19, 3) := by decide +kernel
theorem dX11_bottlesOf_9 : decode cX11_bottlesOf 9 = .ok (.getfield 143, 3) := by decide +kernel
theorem dX11_bottlesOf_12 : decode cX11_bottlesOf 12 = .ok (.iload_n 1, 1) := by decide +kernel
theorem dX11_bottlesOf_13 : decode cX11_bottlesOf 13 = .ok (.invokevirtual 294, 3) := by decide +kernel
theorem dX11_bottlesOf_16 : decode cX11_bottlesOf 16 = .ok (.ireturn, 1) := by decide +kernel
theorem dX11_missingCash_0 : decode cX11_missingCash 0 = .ok (.iconst 0, 1) := by decide +kernel
theorem dX11_missingCash_1 : decode cX11_missingCash 1 = .ok (.aload_n 0, 1) := by decide +kernel
theorem dX11_missingCash_2 : decode cX11_missingCash 2 = .ok (.getfield 19, 3) := by decide +kernel
theorem dX11_missingCash_5 : decode cX11_missingCash 5 = .ok (.invokevirtual 297, 3) := by decide +kernel
theorem dX11_missingCash_8 : decode cX11_missingCash 8 = .ok (.aload_n 0, 1) := by decide +kernel
theorem dX11_missingCash_9 : decode cX11_missingCash 9 = .ok (.getfield 19, 3) := by decide +kernel
theorem dX11_missingCash_12 : decode cX11_missingCash 12 = .ok (.getfield 300, 3) := by decide +kernel
theorem dX11_missingCash_15 : decode cX11_missingCash 15 = .ok (.isub, 1) := by decide +kernel
theorem dX11_missingCash_16 : decode cX11_missingCash 16 = .ok (.invokestatic 303, 3) := by decide +kernel
theorem dX11_missingCash_19 : decode cX11_missingCash 19 = .ok (.ireturn, 1) := by decide +kernel
theorem dX11_cash_0 : decode cX11_cash 0 = .ok (.aload_n 0, 1) := by decide +kernel
theorem dX11_cash_1 : decode cX11_cash 1 = .ok (.getfield 19, 3) := by decide +kernel
theorem dX11_cash_4 : decode cX11_cash 4 = .ok (.getfield 300, 3) := by decide +kernel
theorem dX11_cash_7 : decode cX11_cash 7 = .ok (.ireturn, 1) := by decide +kernel
theorem dX11_owedToAll_0 : decode cX11_owedToAll 0 = .ok (.aload_n 0, 1) := by decide +kernel
theorem dX11_owedToAll_1 : decode cX11_owedToAll 1 = .ok (.getfield 19, 3) := by decide +kernel
theorem dX11_owedToAll_4 : decode cX11_owedToAll 4 = .ok (.invokevirtual 297, 3) := by decide +kernel
theorem dX11_owedToAll_7 : decode cX11_owedToAll 7 = .ok (.ireturn, 1) := by decide +kernel
theorem dX11_payableGrowers_0 : decode cX11_payableGrowers 0 = .ok (.aload_n 0, 1) := by decide +kernel
theorem dX11_payableGrowers_1 : decode cX11_payableGrowers 1 = .ok (.getfield 19, 3) := by decide +kernel
theorem dX11_payableGrowers_4 : decode cX11_payableGrowers 4 = .ok (.invokevirtual 308, 3) := by decide +kernel
theorem dX11_payableGrowers_7 : decode cX11_payableGrowers 7 = .ok (.ireturn, 1) := by decide +kernel
theorem dX11_bottleDifference_0 : decode cX11_bottleDifference 0 = .ok (.aload_n 0, 1) := by decide +kernel
theorem dX11_bottleDifference_1 : decode cX11_bottleDifference 1 = .ok (.getfield 19, 3) := by decide +kernel
theorem dX11_bottleDifference_4 : decode cX11_bottleDifference 4 = .ok (.getfield 104, 3) := by decide +kernel
theorem dX11_bottleDifference_7 : decode cX11_bottleDifference 7 = .ok (.invokevirtual 311, 3) := by decide +kernel
theorem dX11_bottleDifference_10 : decode cX11_bottleDifference 10 = .ok (.aload_n 0, 1) := by decide +kernel
theorem dX11_bottleDifference_11 : decode cX11_bottleDifference 11 = .ok (.getfield 19, 3) := by decide +kernel
theorem dX11_bottleDifference_14 : decode cX11_bottleDifference 14 = .ok (.getfield 143, 3) := by decide +kernel
theorem dX11_bottleDifference_17 : decode cX11_bottleDifference 17 = .ok (.invokevirtual 314, 3) := by decide +kernel
theorem dX11_bottleDifference_20 : decode cX11_bottleDifference 20 = .ok (.isub, 1) := by decide +kernel
theorem dX11_bottleDifference_21 : decode cX11_bottleDifference 21 = .ok (.aload_n 0, 1) := by decide +kernel
theorem dX11_bottleDifference_22 : decode cX11_bottleDifference 22 = .ok (.getfield 19, 3) := by decide +kernel
theorem dX11_bottleDifference_25 : decode cX11_bottleDifference 25 = .ok (.getfield 143, 3) := by decide +kernel
theorem dX11_bottleDifference_28 : decode cX11_bottleDifference 28 = .ok (.invokevirtual 317, 3) := by decide +kernel
theorem dX11_bottleDifference_31 : decode cX11_bottleDifference 31 = .ok (.isub, 1) := by decide +kernel
theorem dX11_bottleDifference_32 : decode cX11_bottleDifference 32 = .ok (.ireturn, 1) := by decide +kernel
theorem dX11_cashDifference_0 : decode cX11_cashDifference 0 = .ok (.aload_n 0, 1) := by decide +kernel
theorem dX11_cashDifference_1 : decode cX11_cashDifference 1 = .ok (.getfield 19, 3) := by decide +kernel
theorem dX11_cashDifference_4 : decode cX11_cashDifference 4 = .ok (.getfield 320, 3) := by decide +kernel
theorem dX11_cashDifference_7 : decode cX11_cashDifference 7 = .ok (.aload_n 0, 1) := by decide +kernel
theorem dX11_cashDifference_8 : decode cX11_cashDifference 8 = .ok (.getfield 19, 3) := by decide +kernel
theorem dX11_cashDifference_11 : decode cX11_cashDifference 11 = .ok (.getfield 323, 3) := by decide +kernel
theorem dX11_cashDifference_14 : decode cX11_cashDifference 14 = .ok (.iadd, 1) := by decide +kernel
theorem dX11_cashDifference_15 : decode cX11_cashDifference 15 = .ok (.aload_n 0, 1) := by decide +kernel
theorem dX11_cashDifference_16 : decode cX11_cashDifference 16 = .ok (.getfield 19, 3) := by decide +kernel
theorem dX11_cashDifference_19 : decode cX11_cashDifference 19 = .ok (.getfield 104, 3) := by decide +kernel
theorem dX11_cashDifference_22 : decode cX11_cashDifference 22 = .ok (.invokevirtual 326, 3) := by decide +kernel
theorem dX11_cashDifference_25 : decode cX11_cashDifference 25 = .ok (.isub, 1) := by decide +kernel
theorem dX11_cashDifference_26 : decode cX11_cashDifference 26 = .ok (.aload_n 0, 1) := by decide +kernel
theorem dX11_cashDifference_27 : decode cX11_cashDifference 27 = .ok (.getfield 19, 3) := by decide +kernel
theorem dX11_cashDifference_30 : decode cX11_cashDifference 30 = .ok (.getfield 300, 3) := by decide +kernel
theorem dX11_cashDifference_33 : decode cX11_cashDifference 33 = .ok (.isub, 1) := by decide +kernel
theorem dX11_cashDifference_34 : decode cX11_cashDifference 34 = .ok (.ireturn, 1) := by decide +kernel
theorem dX11_fullness_0 : decode cX11_fullness 0 = .ok (.aload_n 0, 1) := by decide +kernel
theorem dX11_fullness_1 : decode cX11_fullness 1 = .ok (.getfield 19, 3) := by decide +kernel
theorem dX11_fullness_4 : decode cX11_fullness 4 = .ok (.getfield 143, 3) := by decide +kernel
theorem dX11_fullness_7 : decode cX11_fullness 7 = .ok (.invokevirtual 329, 3) := by decide +kernel
theorem dX11_fullness_10 : decode cX11_fullness 10 = .ok (.istore_n 1, 1) := by decide +kernel
theorem dX11_fullness_11 : decode cX11_fullness 11 = .ok (.iload_n 1, 1) := by decide +kernel
theorem dX11_fullness_12 : decode cX11_fullness 12 = .ok (.ifCond .le 20, 3) := by decide +kernel
theorem dX11_fullness_15 : decode cX11_fullness 15 = .ok (.aload_n 0, 1) := by decide +kernel
theorem dX11_fullness_16 : decode cX11_fullness 16 = .ok (.getfield 19, 3) := by decide +kernel
theorem dX11_fullness_19 : decode cX11_fullness 19 = .ok (.getfield 143, 3) := by decide +kernel
theorem dX11_fullness_22 : decode cX11_fullness 22 = .ok (.invokevirtual 314, 3) := by decide +kernel
theorem dX11_fullness_25 : decode cX11_fullness 25 = .ok (.i2f, 1) := by decide +kernel
theorem dX11_fullness_26 : decode cX11_fullness 26 = .ok (.iload_n 1, 1) := by decide +kernel
theorem dX11_fullness_27 : decode cX11_fullness 27 = .ok (.i2f, 1) := by decide +kernel
theorem dX11_fullness_28 : decode cX11_fullness 28 = .ok (.fdiv, 1) := by decide +kernel
theorem dX11_fullness_29 : decode cX11_fullness 29 = .ok (.goto 4, 3) := by decide +kernel
theorem dX11_fullness_32 : decode cX11_fullness 32 = .ok (.fconst 0, 1) := by decide +kernel
theorem dX11_fullness_33 : decode cX11_fullness 33 = .ok (.freturn, 1) := by decide +kernel
theorem dX11_averageSugar_0 : decode cX11_averageSugar 0 = .ok (.aload_n 0, 1) := by decide +kernel
theorem dX11_averageSugar_1 : decode cX11_averageSugar 1 = .ok (.getfield 19, 3) := by decide +kernel
theorem dX11_averageSugar_4 : decode cX11_averageSugar 4 = .ok (.getfield 104, 3) := by decide +kernel
theorem dX11_averageSugar_7 : decode cX11_averageSugar 7 = .ok (.invokevirtual 311, 3) := by decide +kernel
theorem dX11_averageSugar_10 : decode cX11_averageSugar 10 = .ok (.istore_n 1, 1) := by decide +kernel
theorem dX11_averageSugar_11 : decode cX11_averageSugar 11 = .ok (.iload_n 1, 1) := by decide +kernel
theorem dX11_averageSugar_12 : decode cX11_averageSugar 12 = .ok (.ifCond .le 20, 3) := by decide +kernel
theorem dX11_averageSugar_15 : decode cX11_averageSugar 15 = .ok (.aload_n 0, 1) := by decide +kernel
theorem dX11_averageSugar_16 : decode cX11_averageSugar 16 = .ok (.getfield 19, 3) := by decide +kernel
theorem dX11_averageSugar_19 : decode cX11_averageSugar 19 = .ok (.getfield 104, 3) := by decide +kernel
theorem dX11_averageSugar_22 : decode cX11_averageSugar 22 = .ok (.invokevirtual 332, 3) := by decide +kernel
theorem dX11_averageSugar_25 : decode cX11_averageSugar 25 = .ok (.i2d, 1) := by decide +kernel
theorem dX11_averageSugar_26 : decode cX11_averageSugar 26 = .ok (.iload_n 1, 1) := by decide +kernel
theorem dX11_averageSugar_27 : decode cX11_averageSugar 27 = .ok (.i2d, 1) := by decide +kernel
theorem dX11_averageSugar_28 : decode cX11_averageSugar 28 = .ok (.ddiv, 1) := by decide +kernel
theorem dX11_averageSugar_29 : decode cX11_averageSugar 29 = .ok (.goto 4, 3) := by decide +kernel
theorem dX11_averageSugar_32 : decode cX11_averageSugar 32 = .ok (.dconst 0, 1) := by decide +kernel
theorem dX11_averageSugar_33 : decode cX11_averageSugar 33 = .ok (.dreturn, 1) := by decide +kernel
theorem dX11_deliver_0 : decode cX11_deliver 0 = .ok (.aload_n 0, 1) := by decide +kernel
theorem dX11_deliver_1 : decode cX11_deliver 1 = .ok (.iload_n 1, 1) := by decide +kernel
theorem dX11_deliver_2 : decode cX11_deliver 2 = .ok (.invokevirtual 208, 3) := by decide +kernel
theorem dX11_deliver_5 : decode cX11_deliver 5 = .ok (.iload_n 2, 1) := by decide +kernel
theorem dX11_deliver_6 : decode cX11_deliver 6 = .ok (.invokestatic 261, 3) := by decide +kernel
theorem dX11_deliver_9 : decode cX11_deliver 9 = .ok (.iload_n 3, 1) := by decide +kernel
theorem dX11_deliver_10 : decode cX11_deliver 10 = .ok (.invokestatic 152, 3) := by decide +kernel
theorem dX11_deliver_13 : decode cX11_deliver 13 = .ok (.aload_n 0, 1) := by decide +kernel
theorem dX11_deliver_14 : decode cX11_deliver 14 = .ok (.getfield 19, 3) := by decide +kernel
theorem dX11_deliver_17 : decode cX11_deliver 17 = .ok (.iload_n 1, 1) := by decide +kernel
theorem dX11_deliver_18 : decode cX11_deliver 18 = .ok (.iload_n 2, 1) := by decide +kernel
theorem dX11_deliver_19 : decode cX11_deliver 19 = .ok (.iload_n 3, 1) := by decide +kernel
theorem dX11_deliver_20 : decode cX11_deliver 20 = .ok (.invokevirtual 270, 3) := by decide +kernel
theorem dX11_deliver_23 : decode cX11_deliver 23 = .ok (.ifCond .eq 14, 3) := by decide +kernel
theorem dX11_deliver_26 : decode cX11_deliver 26 = .ok (.new 82, 3) := by decide +kernel
theorem dX11_deliver_29 : decode cX11_deliver 29 = .ok (.dup, 1) := by decide +kernel
theorem dX11_deliver_30 : decode cX11_deliver 30 = .ok (.ldc_w 335, 3) := by decide +kernel
theorem dX11_deliver_33 : decode cX11_deliver 33 = .ok (.invokespecial 86, 3) := by decide +kernel
theorem dX11_deliver_36 : decode cX11_deliver 36 = .ok (.athrow, 1) := by decide +kernel
theorem dX11_deliver_37 : decode cX11_deliver 37 = .ok (.aload_n 0, 1) := by decide +kernel
theorem dX11_deliver_38 : decode cX11_deliver 38 = .ok (.getfield 26, 3) := by decide +kernel
theorem dX11_deliver_41 : decode cX11_deliver 41 = .ok (.aload_n 0, 1) := by decide +kernel
theorem dX11_deliver_42 : decode cX11_deliver 42 = .ok (.getfield 19, 3) := by decide +kernel
theorem dX11_deliver_45 : decode cX11_deliver 45 = .ok (.invokevirtual 101, 3) := by decide +kernel
theorem dX11_deliver_48 : decode cX11_deliver 48 = .ok (.aload_n 0, 1) := by decide +kernel
theorem dX11_deliver_49 : decode cX11_deliver 49 = .ok (.getfield 19, 3) := by decide +kernel
theorem dX11_deliver_52 : decode cX11_deliver 52 = .ok (.iload_n 1, 1) := by decide +kernel
theorem dX11_deliver_53 : decode cX11_deliver 53 = .ok (.iload_n 2, 1) := by decide +kernel
theorem dX11_deliver_54 : decode cX11_deliver 54 = .ok (.iload_n 3, 1) := by decide +kernel
theorem dX11_deliver_55 : decode cX11_deliver 55 = .ok (.invokevirtual 337, 3) := by decide +kernel
theorem dX11_deliver_58 : decode cX11_deliver 58 = .ok (.ireturn, 1) := by decide +kernel
theorem dX11_setPrice_0 : decode cX11_setPrice 0 = .ok (.aload_n 0, 1) := by decide +kernel
theorem dX11_setPrice_1 : decode cX11_setPrice 1 = .ok (.iload_n 1, 1) := by decide +kernel
theorem dX11_setPrice_2 : decode cX11_setPrice 2 = .ok (.invokevirtual 159, 3) := by decide +kernel
theorem dX11_setPrice_5 : decode cX11_setPrice 5 = .ok (.aload_n 0, 1) := by decide +kernel
theorem dX11_setPrice_6 : decode cX11_setPrice 6 = .ok (.iload_n 2, 1) := by decide +kernel
theorem dX11_setPrice_7 : decode cX11_setPrice 7 = .ok (.invokevirtual 162, 3) := by decide +kernel
theorem dX11_setPrice_10 : decode cX11_setPrice 10 = .ok (.iload_n 3, 1) := by decide +kernel
theorem dX11_setPrice_11 : decode cX11_setPrice 11 = .ok (.ifCond .lt 10, 3) := by decide +kernel
theorem dX11_setPrice_14 : decode cX11_setPrice 14 = .ok (.iload_n 3, 1) := by decide +kernel
theorem dX11_setPrice_15 : decode cX11_setPrice 15 = .ok (.sipush 999, 3) := by decide +kernel
theorem dX11_setPrice_18 : decode cX11_setPrice 18 = .ok (.if_icmp .le 14, 3) := by decide +kernel
theorem dX11_setPrice_21 : decode cX11_setPrice 21 = .ok (.new 96, 3) := by decide +kernel
theorem dX11_setPrice_24 : decode cX11_setPrice 24 = .ok (.dup, 1) := by decide +kernel
theorem dX11_setPrice_25 : decode cX11_setPrice 25 = .ok (.ldc_w 340, 3) := by decide +kernel
theorem dX11_setPrice_28 : decode cX11_setPrice 28 = .ok (.invokespecial 100, 3) := by decide +kernel
theorem dX11_setPrice_31 : decode cX11_setPrice 31 = .ok (.athrow, 1) := by decide +kernel
theorem dX11_setPrice_32 : decode cX11_setPrice 32 = .ok (.aload_n 0, 1) := by decide +kernel
theorem dX11_setPrice_33 : decode cX11_setPrice 33 = .ok (.getfield 26, 3) := by decide +kernel
theorem dX11_setPrice_36 : decode cX11_setPrice 36 = .ok (.aload_n 0, 1) := by decide +kernel
theorem dX11_setPrice_37 : decode cX11_setPrice 37 = .ok (.getfield 19, 3) := by decide +kernel
theorem dX11_setPrice_40 : decode cX11_setPrice 40 = .ok (.invokevirtual 101, 3) := by decide +kernel
theorem dX11_setPrice_43 : decode cX11_setPrice 43 = .ok (.aload_n 0, 1) := by decide +kernel
theorem dX11_setPrice_44 : decode cX11_setPrice 44 = .ok (.getfield 19, 3) := by decide +kernel
theorem dX11_setPrice_47 : decode cX11_setPrice 47 = .ok (.getfield 119, 3) := by decide +kernel
theorem dX11_setPrice_50 : decode cX11_setPrice 50 = .ok (.iload_n 1, 1) := by decide +kernel
theorem dX11_setPrice_51 : decode cX11_setPrice 51 = .ok (.iload_n 2, 1) := by decide +kernel
theorem dX11_setPrice_52 : decode cX11_setPrice 52 = .ok (.invokevirtual 165, 3) := by decide +kernel
theorem dX11_setPrice_55 : decode cX11_setPrice 55 = .ok (.istore 4, 2) := by decide +kernel
theorem dX11_setPrice_57 : decode cX11_setPrice 57 = .ok (.aload_n 0, 1) := by decide +kernel
theorem dX11_setPrice_58 : decode cX11_setPrice 58 = .ok (.getfield 19, 3) := by decide +kernel
theorem dX11_setPrice_61 : decode cX11_setPrice 61 = .ok (.getfield 119, 3) := by decide +kernel
theorem dX11_setPrice_64 : decode cX11_setPrice 64 = .ok (.iload_n 1, 1) := by decide +kernel
theorem dX11_setPrice_65 : decode cX11_setPrice 65 = .ok (.iload_n 2, 1) := by decide +kernel
theorem dX11_setPrice_66 : decode cX11_setPrice 66 = .ok (.iload_n 3, 1) := by decide +kernel
theorem dX11_setPrice_67 : decode cX11_setPrice 67 = .ok (.invokevirtual 342, 3) := by decide +kernel
theorem dX11_setPrice_70 : decode cX11_setPrice 70 = .ok (.iload 4, 2) := by decide +kernel
theorem dX11_setPrice_72 : decode cX11_setPrice 72 = .ok (.ireturn, 1) := by decide +kernel
theorem dX11_bottle_0 : decode cX11_bottle 0 = .ok (.aload_n 0, 1) := by decide +kernel
theorem dX11_bottle_1 : decode cX11_bottle 1 = .ok (.iload_n 1, 1) := by decide +kernel
theorem dX11_bottle_2 : decode cX11_bottle 2 = .ok (.invokevirtual 246, 3) := by decide +kernel
theorem dX11_bottle_5 : decode cX11_bottle 5 = .ok (.astore_n 3, 1) := by decide +kernel
theorem dX11_bottle_6 : decode cX11_bottle 6 = .ok (.iload_n 2, 1) := by decide +kernel
theorem dX11_bottle_7 : decode cX11_bottle 7 = .ok (.invokestatic 346, 3) := by decide +kernel
theorem dX11_bottle_10 : decode cX11_bottle 10 = .ok (.aload_n 0, 1) := by decide +kernel
theorem dX11_bottle_11 : decode cX11_bottle 11 = .ok (.getfield 19, 3) := by decide +kernel
theorem dX11_bottle_14 : decode cX11_bottle 14 = .ok (.getfield 143, 3) := by decide +kernel
theorem dX11_bottle_17 : decode cX11_bottle 17 = .ok (.aload_n 3, 1) := by decide +kernel
theorem dX11_bottle_18 : decode cX11_bottle 18 = .ok (.iload_n 2, 1) := by decide +kernel
theorem dX11_bottle_19 : decode cX11_bottle 19 = .ok (.invokevirtual 349, 3) := by decide +kernel
theorem dX11_bottle_22 : decode cX11_bottle 22 = .ok (.ifCond .ne 14, 3) := by decide +kernel
theorem dX11_bottle_25 : decode cX11_bottle 25 = .ok (.new 82, 3) := by decide +kernel
theorem dX11_bottle_28 : decode cX11_bottle 28 = .ok (.dup, 1) := by decide +kernel
theorem dX11_bottle_29 : decode cX11_bottle 29 = .ok (.ldc_w 353, 3) := by decide +kernel
theorem dX11_bottle_32 : decode cX11_bottle 32 = .ok (.invokespecial 86, 3) := by decide +kernel
theorem dX11_bottle_35 : decode cX11_bottle 35 = .ok (.athrow, 1) := by decide +kernel
theorem dX11_bottle_36 : decode cX11_bottle 36 = .ok (.aload_n 0, 1) := by decide +kernel
theorem dX11_bottle_37 : decode cX11_bottle 37 = .ok (.getfield 26, 3) := by decide +kernel
theorem dX11_bottle_40 : decode cX11_bottle 40 = .ok (.aload_n 0, 1) := by decide +kernel
theorem dX11_bottle_41 : decode cX11_bottle 41 = .ok (.getfield 19, 3) := by decide +kernel
theorem dX11_bottle_44 : decode cX11_bottle 44 = .ok (.invokevirtual 101, 3) := by decide +kernel
theorem dX11_bottle_47 : decode cX11_bottle 47 = .ok (.aload_n 0, 1) := by decide +kernel
theorem dX11_bottle_48 : decode cX11_bottle 48 = .ok (.getfield 19, 3) := by decide +kernel
theorem dX11_bottle_51 : decode cX11_bottle 51 = .ok (.getfield 143, 3) := by decide +kernel
theorem dX11_bottle_54 : decode cX11_bottle 54 = .ok (.aload_n 3, 1) := by decide +kernel
theorem dX11_bottle_55 : decode cX11_bottle 55 = .ok (.iload_n 2, 1) := by decide +kernel
theorem dX11_bottle_56 : decode cX11_bottle 56 = .ok (.invokevirtual 355, 3) := by decide +kernel
theorem dX11_bottle_59 : decode cX11_bottle 59 = .ok (.ireturn, 1) := by decide +kernel
theorem dX11_sell_0 : decode cX11_sell 0 = .ok (.aload_n 0, 1) := by decide +kernel
theorem dX11_sell_1 : decode cX11_sell 1 = .ok (.iload_n 1, 1) := by decide +kernel
theorem dX11_sell_2 : decode cX11_sell 2 = .ok (.invokevirtual 280, 3) := by decide +kernel
theorem dX11_sell_5 : decode cX11_sell 5 = .ok (.astore 4, 2) := by decide +kernel
theorem dX11_sell_7 : decode cX11_sell 7 = .ok (.iload_n 2, 1) := by decide +kernel
theorem dX11_sell_8 : decode cX11_sell 8 = .ok (.invokestatic 346, 3) := by decide +kernel
theorem dX11_sell_11 : decode cX11_sell 11 = .ok (.iload_n 3, 1) := by decide +kernel
theorem dX11_sell_12 : decode cX11_sell 12 = .ok (.iconst 1, 1) := by decide +kernel
theorem dX11_sell_13 : decode cX11_sell 13 = .ok (.if_icmp .lt 10, 3) := by decide +kernel
theorem dX11_sell_16 : decode cX11_sell 16 = .ok (.iload_n 3, 1) := by decide +kernel
theorem dX11_sell_17 : decode cX11_sell 17 = .ok (.sipush 9999, 3) := by decide +kernel
theorem dX11_sell_20 : decode cX11_sell 20 = .ok (.if_icmp .le 14, 3) := by decide +kernel
theorem dX11_sell_23 : decode cX11_sell 23 = .ok (.new 96, 3) := by decide +kernel
theorem dX11_sell_26 : decode cX11_sell 26 = .ok (.dup, 1) := by decide +kernel
theorem dX11_sell_27 : decode cX11_sell 27 = .ok (.ldc_w 359, 3) := by decide +kernel
theorem dX11_sell_30 : decode cX11_sell 30 = .ok (.invokespecial 100, 3) := by decide +kernel
theorem dX11_sell_33 : decode cX11_sell 33 = .ok (.athrow, 1) := by decide +kernel
theorem dX11_sell_34 : decode cX11_sell 34 = .ok (.aload_n 0, 1) := by decide +kernel
theorem dX11_sell_35 : decode cX11_sell 35 = .ok (.getfield 19, 3) := by decide +kernel
theorem dX11_sell_38 : decode cX11_sell 38 = .ok (.aload 4, 2) := by decide +kernel
theorem dX11_sell_40 : decode cX11_sell 40 = .ok (.iload_n 2, 1) := by decide +kernel
theorem dX11_sell_41 : decode cX11_sell 41 = .ok (.iload_n 3, 1) := by decide +kernel
theorem dX11_sell_42 : decode cX11_sell 42 = .ok (.invokevirtual 361, 3) := by decide +kernel
theorem dX11_sell_45 : decode cX11_sell 45 = .ok (.ifCond .ne 14, 3) := by decide +kernel
theorem dX11_sell_48 : decode cX11_sell 48 = .ok (.new 82, 3) := by decide +kernel
theorem dX11_sell_51 : decode cX11_sell 51 = .ok (.dup, 1) := by decide +kernel
theorem dX11_sell_52 : decode cX11_sell 52 = .ok (.ldc_w 365, 3) := by decide +kernel
theorem dX11_sell_55 : decode cX11_sell 55 = .ok (.invokespecial 86, 3) := by decide +kernel
theorem dX11_sell_58 : decode cX11_sell 58 = .ok (.athrow, 1) := by decide +kernel
theorem dX11_sell_59 : decode cX11_sell 59 = .ok (.aload_n 0, 1) := by decide +kernel
theorem dX11_sell_60 : decode cX11_sell 60 = .ok (.getfield 26, 3) := by decide +kernel
theorem dX11_sell_63 : decode cX11_sell 63 = .ok (.aload_n 0, 1) := by decide +kernel
theorem dX11_sell_64 : decode cX11_sell 64 = .ok (.getfield 19, 3) := by decide +kernel
theorem dX11_sell_67 : decode cX11_sell 67 = .ok (.invokevirtual 101, 3) := by decide +kernel
theorem dX11_sell_70 : decode cX11_sell 70 = .ok (.aload_n 0, 1) := by decide +kernel
theorem dX11_sell_71 : decode cX11_sell 71 = .ok (.getfield 19, 3) := by decide +kernel
theorem dX11_sell_74 : decode cX11_sell 74 = .ok (.aload 4, 2) := by decide +kernel
theorem dX11_sell_76 : decode cX11_sell 76 = .ok (.iload_n 2, 1) := by decide +kernel
theorem dX11_sell_77 : decode cX11_sell 77 = .ok (.iload_n 3, 1) := by decide +kernel
theorem dX11_sell_78 : decode cX11_sell 78 = .ok (.invokevirtual 367, 3) := by decide +kernel
theorem dX11_sell_81 : decode cX11_sell 81 = .ok (.aload_n 0, 1) := by decide +kernel
theorem dX11_sell_82 : decode cX11_sell 82 = .ok (.getfield 19, 3) := by decide +kernel
theorem dX11_sell_85 : decode cX11_sell 85 = .ok (.getfield 300, 3) := by decide +kernel
theorem dX11_sell_88 : decode cX11_sell 88 = .ok (.ireturn, 1) := by decide +kernel
theorem dX11_payLoad_0 : decode cX11_payLoad 0 = .ok (.aload_n 0, 1) := by decide +kernel
theorem dX11_payLoad_1 : decode cX11_payLoad 1 = .ok (.iload_n 1, 1) := by decide +kernel
theorem dX11_payLoad_2 : decode cX11_payLoad 2 = .ok (.invokevirtual 220, 3) := by decide +kernel
theorem dX11_payLoad_5 : decode cX11_payLoad 5 = .ok (.astore_n 2, 1) := by decide +kernel
theorem dX11_payLoad_6 : decode cX11_payLoad 6 = .ok (.aload_n 0, 1) := by decide +kernel
theorem dX11_payLoad_7 : decode cX11_payLoad 7 = .ok (.getfield 19, 3) := by decide +kernel
theorem dX11_payLoad_10 : decode cX11_payLoad 10 = .ok (.aload_n 2, 1) := by decide +kernel
theorem dX11_payLoad_11 : decode cX11_payLoad 11 = .ok (.invokevirtual 235, 3) := by decide +kernel
theorem dX11_payLoad_14 : decode cX11_payLoad 14 = .ok (.istore_n 3, 1) := by decide +kernel
theorem dX11_payLoad_15 : decode cX11_payLoad 15 = .ok (.aload_n 2, 1) := by decide +kernel
theorem dX11_payLoad_16 : decode cX11_payLoad 16 = .ok (.getfield 239, 3) := by decide +kernel
theorem dX11_payLoad_19 : decode cX11_payLoad 19 = .ok (.ifCond .ne 14, 3) := by decide +kernel
theorem dX11_payLoad_22 : decode cX11_payLoad 22 = .ok (.iload_n 3, 1) := by decide +kernel
theorem dX11_payLoad_23 : decode cX11_payLoad 23 = .ok (.aload_n 0, 1) := by decide +kernel
theorem dX11_payLoad_24 : decode cX11_payLoad 24 = .ok (.getfield 19, 3) := by decide +kernel
theorem dX11_payLoad_27 : decode cX11_payLoad 27 = .ok (.getfield 300, 3) := by decide +kernel
theorem dX11_payLoad_30 : decode cX11_payLoad 30 = .ok (.if_icmp .le 14, 3) := by decide +kernel
theorem dX11_payLoad_33 : decode cX11_payLoad 33 = .ok (.new 82, 3) := by decide +kernel
theorem dX11_payLoad_36 : decode cX11_payLoad 36 = .ok (.dup, 1) := by decide +kernel
theorem dX11_payLoad_37 : decode cX11_payLoad 37 = .ok (.ldc_w 371, 3) := by decide +kernel
theorem dX11_payLoad_40 : decode cX11_payLoad 40 = .ok (.invokespecial 86, 3) := by decide +kernel
theorem dX11_payLoad_43 : decode cX11_payLoad 43 = .ok (.athrow, 1) := by decide +kernel
theorem dX11_payLoad_44 : decode cX11_payLoad 44 = .ok (.aload_n 0, 1) := by decide +kernel
theorem dX11_payLoad_45 : decode cX11_payLoad 45 = .ok (.getfield 26, 3) := by decide +kernel
theorem dX11_payLoad_48 : decode cX11_payLoad 48 = .ok (.aload_n 0, 1) := by decide +kernel
theorem dX11_payLoad_49 : decode cX11_payLoad 49 = .ok (.getfield 19, 3) := by decide +kernel
theorem dX11_payLoad_52 : decode cX11_payLoad 52 = .ok (.invokevirtual 101, 3) := by decide +kernel
theorem dX11_payLoad_55 : decode cX11_payLoad 55 = .ok (.aload_n 0, 1) := by decide +kernel
theorem dX11_payLoad_56 : decode cX11_payLoad 56 = .ok (.getfield 19, 3) := by decide +kernel
theorem dX11_payLoad_59 : decode cX11_payLoad 59 = .ok (.aload_n 2, 1) := by decide +kernel
theorem dX11_payLoad_60 : decode cX11_payLoad 60 = .ok (.iload_n 3, 1) := by decide +kernel
theorem dX11_payLoad_61 : decode cX11_payLoad 61 = .ok (.invokevirtual 373, 3) := by decide +kernel
theorem dX11_payLoad_64 : decode cX11_payLoad 64 = .ok (.ireturn, 1) := by decide +kernel
theorem dX11_payGrower_0 : decode cX11_payGrower 0 = .ok (.aload_n 0, 1) := by decide +kernel
theorem dX11_payGrower_1 : decode cX11_payGrower 1 = .ok (.iload_n 1, 1) := by decide +kernel
theorem dX11_payGrower_2 : decode cX11_payGrower 2 = .ok (.invokevirtual 187, 3) := by decide +kernel
theorem dX11_payGrower_5 : decode cX11_payGrower 5 = .ok (.aload_n 0, 1) := by decide +kernel
theorem dX11_payGrower_6 : decode cX11_payGrower 6 = .ok (.getfield 19, 3) := by decide +kernel
theorem dX11_payGrower_9 : decode cX11_payGrower 9 = .ok (.iload_n 1, 1) := by decide +kernel
theorem dX11_payGrower_10 : decode cX11_payGrower 10 = .ok (.invokevirtual 377, 3) := by decide +kernel
theorem dX11_payGrower_13 : decode cX11_payGrower 13 = .ok (.ifCond .ne 14, 3) := by decide +kernel
theorem dX11_payGrower_16 : decode cX11_payGrower 16 = .ok (.new 82, 3) := by decide +kernel
theorem dX11_payGrower_19 : decode cX11_payGrower 19 = .ok (.dup, 1) := by decide +kernel
theorem dX11_payGrower_20 : decode cX11_payGrower 20 = .ok (.ldc_w 380, 3) := by decide +kernel
theorem dX11_payGrower_23 : decode cX11_payGrower 23 = .ok (.invokespecial 86, 3) := by decide +kernel
theorem dX11_payGrower_26 : decode cX11_payGrower 26 = .ok (.athrow, 1) := by decide +kernel
theorem dX11_payGrower_27 : decode cX11_payGrower 27 = .ok (.aload_n 0, 1) := by decide +kernel
theorem dX11_payGrower_28 : decode cX11_payGrower 28 = .ok (.getfield 26, 3) := by decide +kernel
theorem dX11_payGrower_31 : decode cX11_payGrower 31 = .ok (.aload_n 0, 1) := by decide +kernel
theorem dX11_payGrower_32 : decode cX11_payGrower 32 = .ok (.getfield 19, 3) := by decide +kernel
theorem dX11_payGrower_35 : decode cX11_payGrower 35 = .ok (.invokevirtual 101, 3) := by decide +kernel
theorem dX11_payGrower_38 : decode cX11_payGrower 38 = .ok (.aload_n 0, 1) := by decide +kernel
theorem dX11_payGrower_39 : decode cX11_payGrower 39 = .ok (.getfield 19, 3) := by decide +kernel
theorem dX11_payGrower_42 : decode cX11_payGrower 42 = .ok (.iload_n 1, 1) := by decide +kernel
theorem dX11_payGrower_43 : decode cX11_payGrower 43 = .ok (.invokevirtual 382, 3) := by decide +kernel
theorem dX11_payGrower_46 : decode cX11_payGrower 46 = .ok (.ireturn, 1) := by decide +kernel
theorem dX11_pump_0 : decode cX11_pump 0 = .ok (.aload_n 0, 1) := by decide +kernel
theorem dX11_pump_1 : decode cX11_pump 1 = .ok (.iload_n 1, 1) := by decide +kernel
theorem dX11_pump_2 : decode cX11_pump 2 = .ok (.invokevirtual 246, 3) := by decide +kernel
theorem dX11_pump_5 : decode cX11_pump 5 = .ok (.astore_n 3, 1) := by decide +kernel
theorem dX11_pump_6 : decode cX11_pump 6 = .ok (.aload_n 0, 1) := by decide +kernel
theorem dX11_pump_7 : decode cX11_pump 7 = .ok (.iload_n 2, 1) := by decide +kernel
theorem dX11_pump_8 : decode cX11_pump 8 = .ok (.invokevirtual 246, 3) := by decide +kernel
theorem dX11_pump_11 : decode cX11_pump 11 = .ok (.astore 4, 2) := by decide +kernel
theorem dX11_pump_13 : decode cX11_pump 13 = .ok (.iload_n 1, 1) := by decide +kernel
theorem dX11_pump_14 : decode cX11_pump 14 = .ok (.iload_n 2, 1) := by decide +kernel
theorem dX11_pump_15 : decode cX11_pump 15 = .ok (.if_icmp .ne 14, 3) := by decide +kernel
theorem dX11_pump_18 : decode cX11_pump 18 = .ok (.new 96, 3) := by decide +kernel
theorem dX11_pump_21 : decode cX11_pump 21 = .ok (.dup, 1) := by decide +kernel
theorem dX11_pump_22 : decode cX11_pump 22 = .ok (.ldc_w 385, 3) := by decide +kernel
theorem dX11_pump_25 : decode cX11_pump 25 = .ok (.invokespecial 100, 3) := by decide +kernel
theorem dX11_pump_28 : decode cX11_pump 28 = .ok (.athrow, 1) := by decide +kernel
theorem dX11_pump_29 : decode cX11_pump 29 = .ok (.aload_n 3, 1) := by decide +kernel
theorem dX11_pump_30 : decode cX11_pump 30 = .ok (.aload 4, 2) := by decide +kernel
theorem dX11_pump_32 : decode cX11_pump 32 = .ok (.invokevirtual 387, 3) := by decide +kernel
theorem dX11_pump_35 : decode cX11_pump 35 = .ok (.ifCond .ne 14, 3) := by decide +kernel
theorem dX11_pump_38 : decode cX11_pump 38 = .ok (.new 82, 3) := by decide +kernel
theorem dX11_pump_41 : decode cX11_pump 41 = .ok (.dup, 1) := by decide +kernel
theorem dX11_pump_42 : decode cX11_pump 42 = .ok (.ldc_w 391, 3) := by decide +kernel
theorem dX11_pump_45 : decode cX11_pump 45 = .ok (.invokespecial 86, 3) := by decide +kernel
theorem dX11_pump_48 : decode cX11_pump 48 = .ok (.athrow, 1) := by decide +kernel
theorem dX11_pump_49 : decode cX11_pump 49 = .ok (.aload_n 0, 1) := by decide +kernel
theorem dX11_pump_50 : decode cX11_pump 50 = .ok (.getfield 26, 3) := by decide +kernel
theorem dX11_pump_53 : decode cX11_pump 53 = .ok (.aload_n 0, 1) := by decide +kernel
theorem dX11_pump_54 : decode cX11_pump 54 = .ok (.getfield 19, 3) := by decide +kernel
theorem dX11_pump_57 : decode cX11_pump 57 = .ok (.invokevirtual 101, 3) := by decide +kernel
theorem dX11_pump_60 : decode cX11_pump 60 = .ok (.aload_n 3, 1) := by decide +kernel
theorem dX11_pump_61 : decode cX11_pump 61 = .ok (.aload 4, 2) := by decide +kernel
theorem dX11_pump_63 : decode cX11_pump 63 = .ok (.invokevirtual 393, 3) := by decide +kernel
theorem dX11_pump_66 : decode cX11_pump 66 = .ok (.aload 4, 2) := by decide +kernel
theorem dX11_pump_68 : decode cX11_pump 68 = .ok (.getfield 250, 3) := by decide +kernel
theorem dX11_pump_71 : decode cX11_pump 71 = .ok (.ireturn, 1) := by decide +kernel
theorem dX11_undo_0 : decode cX11_undo 0 = .ok (.aload_n 0, 1) := by decide +kernel
theorem dX11_undo_1 : decode cX11_undo 1 = .ok (.getfield 26, 3) := by decide +kernel
theorem dX11_undo_4 : decode cX11_undo 4 = .ok (.getfield 402, 3) := by decide +kernel
theorem dX11_undo_7 : decode cX11_undo 7 = .ok (.ifCond .ne 14, 3) := by decide +kernel
theorem dX11_undo_10 : decode cX11_undo 10 = .ok (.new 82, 3) := by decide +kernel
theorem dX11_undo_13 : decode cX11_undo 13 = .ok (.dup, 1) := by decide +kernel
theorem dX11_undo_14 : decode cX11_undo 14 = .ok (.ldc_w 403, 3) := by decide +kernel
theorem dX11_undo_17 : decode cX11_undo 17 = .ok (.invokespecial 86, 3) := by decide +kernel
theorem dX11_undo_20 : decode cX11_undo 20 = .ok (.athrow, 1) := by decide +kernel
theorem dX11_undo_21 : decode cX11_undo 21 = .ok (.aload_n 0, 1) := by decide +kernel
theorem dX11_undo_22 : decode cX11_undo 22 = .ok (.getfield 26, 3) := by decide +kernel
theorem dX11_undo_25 : decode cX11_undo 25 = .ok (.aload_n 0, 1) := by decide +kernel
theorem dX11_undo_26 : decode cX11_undo 26 = .ok (.getfield 19, 3) := by decide +kernel
theorem dX11_undo_29 : decode cX11_undo 29 = .ok (.invokevirtual 405, 3) := by decide +kernel
theorem dX11_undo_32 : decode cX11_undo 32 = .ok (.aload_n 0, 1) := by decide +kernel
theorem dX11_undo_33 : decode cX11_undo 33 = .ok (.getfield 26, 3) := by decide +kernel
theorem dX11_undo_36 : decode cX11_undo 36 = .ok (.getfield 402, 3) := by decide +kernel
theorem dX11_undo_39 : decode cX11_undo 39 = .ok (.ireturn, 1) := by decide +kernel
theorem dX11_knownLoad_0 : decode cX11_knownLoad 0 = .ok (.iload_n 1, 1) := by decide +kernel
theorem dX11_knownLoad_1 : decode cX11_knownLoad 1 = .ok (.ifCond .lt 17, 3) := by decide +kernel
theorem dX11_knownLoad_4 : decode cX11_knownLoad 4 = .ok (.iload_n 1, 1) := by decide +kernel
theorem dX11_knownLoad_5 : decode cX11_knownLoad 5 = .ok (.aload_n 0, 1) := by decide +kernel
theorem dX11_knownLoad_6 : decode cX11_knownLoad 6 = .ok (.getfield 19, 3) := by decide +kernel
theorem dX11_knownLoad_9 : decode cX11_knownLoad 9 = .ok (.getfield 104, 3) := by decide +kernel
theorem dX11_knownLoad_12 : decode cX11_knownLoad 12 = .ok (.getfield 108, 3) := by decide +kernel
theorem dX11_knownLoad_15 : decode cX11_knownLoad 15 = .ok (.if_icmp .lt 14, 3) := by decide +kernel
theorem dX11_knownLoad_18 : decode cX11_knownLoad 18 = .ok (.new 439, 3) := by decide +kernel
theorem dX11_knownLoad_21 : decode cX11_knownLoad 21 = .ok (.dup, 1) := by decide +kernel
theorem dX11_knownLoad_22 : decode cX11_knownLoad 22 = .ok (.ldc_w 441, 3) := by decide +kernel
theorem dX11_knownLoad_25 : decode cX11_knownLoad 25 = .ok (.invokespecial 443, 3) := by decide +kernel
theorem dX11_knownLoad_28 : decode cX11_knownLoad 28 = .ok (.athrow, 1) := by decide +kernel
theorem dX11_knownLoad_29 : decode cX11_knownLoad 29 = .ok (.aload_n 0, 1) := by decide +kernel
theorem dX11_knownLoad_30 : decode cX11_knownLoad 30 = .ok (.getfield 19, 3) := by decide +kernel
theorem dX11_knownLoad_33 : decode cX11_knownLoad 33 = .ok (.getfield 104, 3) := by decide +kernel
theorem dX11_knownLoad_36 : decode cX11_knownLoad 36 = .ok (.getfield 444, 3) := by decide +kernel
theorem dX11_knownLoad_39 : decode cX11_knownLoad 39 = .ok (.iload_n 1, 1) := by decide +kernel
theorem dX11_knownLoad_40 : decode cX11_knownLoad 40 = .ok (.aaload, 1) := by decide +kernel
theorem dX11_knownLoad_41 : decode cX11_knownLoad 41 = .ok (.areturn, 1) := by decide +kernel
theorem dX11_knownTank_0 : decode cX11_knownTank 0 = .ok (.iload_n 1, 1) := by decide +kernel
theorem dX11_knownTank_1 : decode cX11_knownTank 1 = .ok (.ifCond .lt 17, 3) := by decide +kernel
theorem dX11_knownTank_4 : decode cX11_knownTank 4 = .ok (.iload_n 1, 1) := by decide +kernel
theorem dX11_knownTank_5 : decode cX11_knownTank 5 = .ok (.aload_n 0, 1) := by decide +kernel
theorem dX11_knownTank_6 : decode cX11_knownTank 6 = .ok (.getfield 19, 3) := by decide +kernel
theorem dX11_knownTank_9 : decode cX11_knownTank 9 = .ok (.getfield 143, 3) := by decide +kernel
theorem dX11_knownTank_12 : decode cX11_knownTank 12 = .ok (.getfield 411, 3) := by decide +kernel
theorem dX11_knownTank_15 : decode cX11_knownTank 15 = .ok (.if_icmp .lt 14, 3) := by decide +kernel
theorem dX11_knownTank_18 : decode cX11_knownTank 18 = .ok (.new 439, 3) := by decide +kernel
theorem dX11_knownTank_21 : decode cX11_knownTank 21 = .ok (.dup, 1) := by decide +kernel
theorem dX11_knownTank_22 : decode cX11_knownTank 22 = .ok (.ldc_w 448, 3) := by decide +kernel
theorem dX11_knownTank_25 : decode cX11_knownTank 25 = .ok (.invokespecial 443, 3) := by decide +kernel
theorem dX11_knownTank_28 : decode cX11_knownTank 28 = .ok (.athrow, 1) := by decide +kernel
theorem dX11_knownTank_29 : decode cX11_knownTank 29 = .ok (.aload_n 0, 1) := by decide +kernel
theorem dX11_knownTank_30 : decode cX11_knownTank 30 = .ok (.getfield 19, 3) := by decide +kernel
theorem dX11_knownTank_33 : decode cX11_knownTank 33 = .ok (.getfield 143, 3) := by decide +kernel
theorem dX11_knownTank_36 : decode cX11_knownTank 36 = .ok (.getfield 418, 3) := by decide +kernel
theorem dX11_knownTank_39 : decode cX11_knownTank 39 = .ok (.iload_n 1, 1) := by decide +kernel
theorem dX11_knownTank_40 : decode cX11_knownTank 40 = .ok (.aaload, 1) := by decide +kernel
theorem dX11_knownTank_41 : decode cX11_knownTank 41 = .ok (.areturn, 1) := by decide +kernel
theorem dX11_knownLot_0 : decode cX11_knownLot 0 = .ok (.iload_n 1, 1) := by decide +kernel
theorem dX11_knownLot_1 : decode cX11_knownLot 1 = .ok (.ifCond .lt 17, 3) := by decide +kernel
theorem dX11_knownLot_4 : decode cX11_knownLot 4 = .ok (.iload_n 1, 1) := by decide +kernel
theorem dX11_knownLot_5 : decode cX11_knownLot 5 = .ok (.aload_n 0, 1) := by decide +kernel
theorem dX11_knownLot_6 : decode cX11_knownLot 6 = .ok (.getfield 19, 3) := by decide +kernel
theorem dX11_knownLot_9 : decode cX11_knownLot 9 = .ok (.getfield 143, 3) := by decide +kernel
theorem dX11_knownLot_12 : decode cX11_knownLot 12 = .ok (.getfield 147, 3) := by decide +kernel
theorem dX11_knownLot_15 : decode cX11_knownLot 15 = .ok (.if_icmp .lt 14, 3) := by decide +kernel
theorem dX11_knownLot_18 : decode cX11_knownLot 18 = .ok (.new 439, 3) := by decide +kernel
theorem dX11_knownLot_21 : decode cX11_knownLot 21 = .ok (.dup, 1) := by decide +kernel
theorem dX11_knownLot_22 : decode cX11_knownLot 22 = .ok (.ldc_w 450, 3) := by decide +kernel
theorem dX11_knownLot_25 : decode cX11_knownLot 25 = .ok (.invokespecial 443, 3) := by decide +kernel
theorem dX11_knownLot_28 : decode cX11_knownLot 28 = .ok (.athrow, 1) := by decide +kernel
theorem dX11_knownLot_29 : decode cX11_knownLot 29 = .ok (.aload_n 0, 1) := by decide +kernel
theorem dX11_knownLot_30 : decode cX11_knownLot 30 = .ok (.getfield 19, 3) := by decide +kernel
theorem dX11_knownLot_33 : decode cX11_knownLot 33 = .ok (.getfield 143, 3) := by decide +kernel
theorem dX11_knownLot_36 : decode cX11_knownLot 36 = .ok (.getfield 452, 3) := by decide +kernel
theorem dX11_knownLot_39 : decode cX11_knownLot 39 = .ok (.iload_n 1, 1) := by decide +kernel
theorem dX11_knownLot_40 : decode cX11_knownLot 40 = .ok (.aaload, 1) := by decide +kernel
theorem dX11_knownLot_41 : decode cX11_knownLot 41 = .ok (.areturn, 1) := by decide +kernel
theorem dX11_needVariety_0 : decode cX11_needVariety 0 = .ok (.aload_n 0, 1) := by decide +kernel
theorem dX11_needVariety_1 : decode cX11_needVariety 1 = .ok (.getfield 19, 3) := by decide +kernel
theorem dX11_needVariety_4 : decode cX11_needVariety 4 = .ok (.getfield 119, 3) := by decide +kernel
theorem dX11_needVariety_7 : decode cX11_needVariety 7 = .ok (.iload_n 1, 1) := by decide +kernel
theorem dX11_needVariety_8 : decode cX11_needVariety 8 = .ok (.invokevirtual 456, 3) := by decide +kernel
theorem dX11_needVariety_11 : decode cX11_needVariety 11 = .ok (.ifCond .ne 14, 3) := by decide +kernel
theorem dX11_needVariety_14 : decode cX11_needVariety 14 = .ok (.new 439, 3) := by decide +kernel
theorem dX11_needVariety_17 : decode cX11_needVariety 17 = .ok (.dup, 1) := by decide +kernel
theorem dX11_needVariety_18 : decode cX11_needVariety 18 = .ok (.ldc_w 459, 3) := by decide +kernel
theorem dX11_needVariety_21 : decode cX11_needVariety 21 = .ok (.invokespecial 443, 3) := by decide +kernel
theorem dX11_needVariety_24 : decode cX11_needVariety 24 = .ok (.athrow, 1) := by decide +kernel
theorem dX11_needVariety_25 : decode cX11_needVariety 25 = .ok (.return_, 1) := by decide +kernel
theorem dX11_needClass_0 : decode cX11_needClass 0 = .ok (.aload_n 0, 1) := by decide +kernel
theorem dX11_needClass_1 : decode cX11_needClass 1 = .ok (.getfield 19, 3) := by decide +kernel
theorem dX11_needClass_4 : decode cX11_needClass 4 = .ok (.getfield 119, 3) := by decide +kernel
theorem dX11_needClass_7 : decode cX11_needClass 7 = .ok (.iload_n 1, 1) := by decide +kernel
theorem dX11_needClass_8 : decode cX11_needClass 8 = .ok (.invokevirtual 461, 3) := by decide +kernel
theorem dX11_needClass_11 : decode cX11_needClass 11 = .ok (.ifCond .ne 14, 3) := by decide +kernel
theorem dX11_needClass_14 : decode cX11_needClass 14 = .ok (.new 439, 3) := by decide +kernel
theorem dX11_needClass_17 : decode cX11_needClass 17 = .ok (.dup, 1) := by decide +kernel
theorem dX11_needClass_18 : decode cX11_needClass 18 = .ok (.ldc_w 464, 3) := by decide +kernel
theorem dX11_needClass_21 : decode cX11_needClass 21 = .ok (.invokespecial 443, 3) := by decide +kernel
theorem dX11_needClass_24 : decode cX11_needClass 24 = .ok (.athrow, 1) := by decide +kernel
theorem dX11_needClass_25 : decode cX11_needClass 25 = .ok (.return_, 1) := by decide +kernel
theorem dX11_needGrower_0 : decode cX11_needGrower 0 = .ok (.iload_n 1, 1) := by decide +kernel
theorem dX11_needGrower_1 : decode cX11_needGrower 1 = .ok (.ifCond .lt 17, 3) := by decide +kernel
theorem dX11_needGrower_4 : decode cX11_needGrower 4 = .ok (.iload_n 1, 1) := by decide +kernel
theorem dX11_needGrower_5 : decode cX11_needGrower 5 = .ok (.aload_n 0, 1) := by decide +kernel
theorem dX11_needGrower_6 : decode cX11_needGrower 6 = .ok (.getfield 19, 3) := by decide +kernel
theorem dX11_needGrower_9 : decode cX11_needGrower 9 = .ok (.getfield 131, 3) := by decide +kernel
theorem dX11_needGrower_12 : decode cX11_needGrower 12 = .ok (.getfield 135, 3) := by decide +kernel
theorem dX11_needGrower_15 : decode cX11_needGrower 15 = .ok (.if_icmp .lt 14, 3) := by decide +kernel
theorem dX11_needGrower_18 : decode cX11_needGrower 18 = .ok (.new 439, 3) := by decide +kernel
theorem dX11_needGrower_21 : decode cX11_needGrower 21 = .ok (.dup, 1) := by decide +kernel
theorem dX11_needGrower_22 : decode cX11_needGrower 22 = .ok (.ldc_w 466, 3) := by decide +kernel
theorem dX11_needGrower_25 : decode cX11_needGrower 25 = .ok (.invokespecial 443, 3) := by decide +kernel
theorem dX11_needGrower_28 : decode cX11_needGrower 28 = .ok (.athrow, 1) := by decide +kernel
theorem dX11_needGrower_29 : decode cX11_needGrower 29 = .ok (.return_, 1) := by decide +kernel
theorem dX11_needPlot_0 : decode cX11_needPlot 0 = .ok (.aload_n 0, 1) := by decide +kernel
theorem dX11_needPlot_1 : decode cX11_needPlot 1 = .ok (.getfield 19, 3) := by decide +kernel
theorem dX11_needPlot_4 : decode cX11_needPlot 4 = .ok (.getfield 131, 3) := by decide +kernel
theorem dX11_needPlot_7 : decode cX11_needPlot 7 = .ok (.iload_n 1, 1) := by decide +kernel
theorem dX11_needPlot_8 : decode cX11_needPlot 8 = .ok (.invokevirtual 468, 3) := by decide +kernel
theorem dX11_needPlot_11 : decode cX11_needPlot 11 = .ok (.ifCond .ne 14, 3) := by decide +kernel
theorem dX11_needPlot_14 : decode cX11_needPlot 14 = .ok (.new 439, 3) := by decide +kernel
theorem dX11_needPlot_17 : decode cX11_needPlot 17 = .ok (.dup, 1) := by decide +kernel
theorem dX11_needPlot_18 : decode cX11_needPlot 18 = .ok (.ldc_w 471, 3) := by decide +kernel
theorem dX11_needPlot_21 : decode cX11_needPlot 21 = .ok (.invokespecial 443, 3) := by decide +kernel
theorem dX11_needPlot_24 : decode cX11_needPlot 24 = .ok (.athrow, 1) := by decide +kernel
theorem dX11_needPlot_25 : decode cX11_needPlot 25 = .ok (.return_, 1) := by decide +kernel
theorem dX11_needWeight_0 : decode cX11_needWeight 0 = .ok (.iload_n 0, 1) := by decide +kernel
theorem dX11_needWeight_1 : decode cX11_needWeight 1 = .ok (.iconst 1, 1) := by decide +kernel
theorem dX11_needWeight_2 : decode cX11_needWeight 2 = .ok (.if_icmp .lt 10, 3) := by decide +kernel
theorem dX11_needWeight_5 : decode cX11_needWeight 5 = .ok (.iload_n 0, 1) := by decide +kernel
theorem dX11_needWeight_6 : decode cX11_needWeight 6 = .ok (.sipush 5000, 3) := by decide +kernel
theorem dX11_needWeight_9 : decode cX11_needWeight 9 = .ok (.if_icmp .le 14, 3) := by decide +kernel
theorem dX11_needWeight_12 : decode cX11_needWeight 12 = .ok (.new 96, 3) := by decide +kernel
theorem dX11_needWeight_15 : decode cX11_needWeight 15 = .ok (.dup, 1) := by decide +kernel
theorem dX11_needWeight_16 : decode cX11_needWeight 16 = .ok (.ldc_w 475, 3) := by decide +kernel
theorem dX11_needWeight_19 : decode cX11_needWeight 19 = .ok (.invokespecial 100, 3) := by decide +kernel
theorem dX11_needWeight_22 : decode cX11_needWeight 22 = .ok (.athrow, 1) := by decide +kernel
theorem dX11_needWeight_23 : decode cX11_needWeight 23 = .ok (.return_, 1) := by decide +kernel
theorem dX11_needSugar_0 : decode cX11_needSugar 0 = .ok (.iload_n 0, 1) := by decide +kernel
theorem dX11_needSugar_1 : decode cX11_needSugar 1 = .ok (.ifCond .lt 10, 3) := by decide +kernel
theorem dX11_needSugar_4 : decode cX11_needSugar 4 = .ok (.iload_n 0, 1) := by decide +kernel
theorem dX11_needSugar_5 : decode cX11_needSugar 5 = .ok (.sipush 250, 3) := by decide +kernel
theorem dX11_needSugar_8 : decode cX11_needSugar 8 = .ok (.if_icmp .le 14, 3) := by decide +kernel
theorem dX11_needSugar_11 : decode cX11_needSugar 11 = .ok (.new 96, 3) := by decide +kernel
theorem dX11_needSugar_14 : decode cX11_needSugar 14 = .ok (.dup, 1) := by decide +kernel
theorem dX11_needSugar_15 : decode cX11_needSugar 15 = .ok (.ldc_w 477, 3) := by decide +kernel
theorem dX11_needSugar_18 : decode cX11_needSugar 18 = .ok (.invokespecial 100, 3) := by decide +kernel
theorem dX11_needSugar_21 : decode cX11_needSugar 21 = .ok (.athrow, 1) := by decide +kernel
theorem dX11_needSugar_22 : decode cX11_needSugar 22 = .ok (.return_, 1) := by decide +kernel
theorem dX11_needBottles_0 : decode cX11_needBottles 0 = .ok (.iload_n 0, 1) := by decide +kernel
theorem dX11_needBottles_1 : decode cX11_needBottles 1 = .ok (.iconst 1, 1) := by decide +kernel
theorem dX11_needBottles_2 : decode cX11_needBottles 2 = .ok (.if_icmp .lt 10, 3) := by decide +kernel
theorem dX11_needBottles_5 : decode cX11_needBottles 5 = .ok (.iload_n 0, 1) := by decide +kernel
theorem dX11_needBottles_6 : decode cX11_needBottles 6 = .ok (.sipush 20000, 3) := by decide +kernel
theorem dX11_needBottles_9 : decode cX11_needBottles 9 = .ok (.if_icmp .le 14, 3) := by decide +kernel
theorem dX11_needBottles_12 : decode cX11_needBottles 12 = .ok (.new 96, 3) := by decide +kernel
theorem dX11_needBottles_15 : decode cX11_needBottles 15 = .ok (.dup, 1) := by decide +kernel
theorem dX11_needBottles_16 : decode cX11_needBottles 16 = .ok (.ldc_w 479, 3) := by decide +kernel
theorem dX11_needBottles_19 : decode cX11_needBottles 19 = .ok (.invokespecial 100, 3) := by decide +kernel
theorem dX11_needBottles_22 : decode cX11_needBottles 22 = .ok (.athrow, 1) := by decide +kernel
theorem dX11_needBottles_23 : decode cX11_needBottles 23 = .ok (.return_, 1) := by decide +kernel
