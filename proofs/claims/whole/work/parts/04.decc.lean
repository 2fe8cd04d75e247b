theorem dX0_init_0 : decode cX0_init 0 = .ok (.aload_n 0, 1) := by decide +kernel
theorem dX0_init_1 : decode cX0_init 1 = .ok (.invokespecial 3, 3) := by decide +kernel
theorem dX0_init_4 : decode cX0_init 4 = .ok (.aload_n 0, 1) := by decide +kernel
theorem dX0_init_5 : decode cX0_init 5 = .ok (.sipush 144, 3) := by decide +kernel
theorem dX0_init_8 : decode cX0_init 8 = .ok (.newarray .int, 2) := by decide +kernel
theorem dX0_init_10 : decode cX0_init 10 = .ok (.putfield 9, 3) := by decide +kernel
theorem dX0_init_13 : decode cX0_init 13 = .ok (.aload_n 0, 1) := by decide +kernel
theorem dX0_init_14 : decode cX0_init 14 = .ok (.sipush 144, 3) := by decide +kernel
theorem dX0_init_17 : decode cX0_init 17 = .ok (.newarray .int, 2) := by decide +kernel
theorem dX0_init_19 : decode cX0_init 19 = .ok (.putfield 15, 3) := by decide +kernel
theorem dX0_init_22 : decode cX0_init 22 = .ok (.aload_n 0, 1) := by decide +kernel
theorem dX0_init_23 : decode cX0_init 23 = .ok (.sipush 144, 3) := by decide +kernel
theorem dX0_init_26 : decode cX0_init 26 = .ok (.newarray .int, 2) := by decide +kernel
theorem dX0_init_28 : decode cX0_init 28 = .ok (.putfield 18, 3) := by decide +kernel
theorem dX0_init_31 : decode cX0_init 31 = .ok (.aload_n 0, 1) := by decide +kernel
theorem dX0_init_32 : decode cX0_init 32 = .ok (.iconst 0, 1) := by decide +kernel
theorem dX0_init_33 : decode cX0_init 33 = .ok (.putfield 21, 3) := by decide +kernel
theorem dX0_init_36 : decode cX0_init 36 = .ok (.aload_n 0, 1) := by decide +kernel
theorem dX0_init_37 : decode cX0_init 37 = .ok (.aload_n 1, 1) := by decide +kernel
theorem dX0_init_38 : decode cX0_init 38 = .ok (.putfield 25, 3) := by decide +kernel
theorem dX0_init_41 : decode cX0_init 41 = .ok (.aload_n 0, 1) := by decide +kernel
theorem dX0_init_42 : decode cX0_init 42 = .ok (.aload_n 2, 1) := by decide +kernel
theorem dX0_init_43 : decode cX0_init 43 = .ok (.putfield 29, 3) := by decide +kernel
theorem dX0_init_46 : decode cX0_init 46 = .ok (.return_, 1) := by decide +kernel
theorem dX0_mendings_0 : decode cX0_mendings 0 = .ok (.aload_n 0, 1) := by decide +kernel
theorem dX0_mendings_1 : decode cX0_mendings 1 = .ok (.getfield 21, 3) := by decide +kernel
theorem dX0_mendings_4 : decode cX0_mendings 4 = .ok (.ireturn, 1) := by decide +kernel
theorem dX0_forget_0 : decode cX0_forget 0 = .ok (.iconst 0, 1) := by decide +kernel
theorem dX0_forget_1 : decode cX0_forget 1 = .ok (.istore_n 1, 1) := by decide +kernel
theorem dX0_forget_2 : decode cX0_forget 2 = .ok (.iload_n 1, 1) := by decide +kernel
theorem dX0_forget_3 : decode cX0_forget 3 = .ok (.sipush 144, 3) := by decide +kernel
theorem dX0_forget_6 : decode cX0_forget 6 = .ok (.if_icmp .ge 16, 3) := by decide +kernel
theorem dX0_forget_9 : decode cX0_forget 9 = .ok (.aload_n 0, 1) := by decide +kernel
theorem dX0_forget_10 : decode cX0_forget 10 = .ok (.getfield 9, 3) := by decide +kernel
theorem dX0_forget_13 : decode cX0_forget 13 = .ok (.iload_n 1, 1) := by decide +kernel
theorem dX0_forget_14 : decode cX0_forget 14 = .ok (.iconst 0, 1) := by decide +kernel
theorem dX0_forget_15 : decode cX0_forget 15 = .ok (.iastore, 1) := by decide +kernel
theorem dX0_forget_16 : decode cX0_forget 16 = .ok (.iinc 1 1, 3) := by decide +kernel
theorem dX0_forget_19 : decode cX0_forget 19 = .ok (.goto (-17), 3) := by decide +kernel
theorem dX0_forget_22 : decode cX0_forget 22 = .ok (.aload_n 0, 1) := by decide +kernel
theorem dX0_forget_23 : decode cX0_forget 23 = .ok (.iconst 0, 1) := by decide +kernel
theorem dX0_forget_24 : decode cX0_forget 24 = .ok (.putfield 21, 3) := by decide +kernel
theorem dX0_forget_27 : decode cX0_forget 27 = .ok (.return_, 1) := by decide +kernel
theorem dX0_hear_0 : decode cX0_hear 0 = .ok (.iload_n 1, 1) := by decide +kernel
theorem dX0_hear_1 : decode cX0_hear 1 = .ok (.ifCond .lt 10, 3) := by decide +kernel
theorem dX0_hear_4 : decode cX0_hear 4 = .ok (.iload_n 1, 1) := by decide +kernel
theorem dX0_hear_5 : decode cX0_hear 5 = .ok (.sipush 144, 3) := by decide +kernel
theorem dX0_hear_8 : decode cX0_hear 8 = .ok (.if_icmp .lt 5, 3) := by decide +kernel
theorem dX0_hear_11 : decode cX0_hear 11 = .ok (.iconst (-1), 1) := by decide +kernel
theorem dX0_hear_12 : decode cX0_hear 12 = .ok (.ireturn, 1) := by decide +kernel
theorem dX0_hear_13 : decode cX0_hear 13 = .ok (.aload_n 0, 1) := by decide +kernel
theorem dX0_hear_14 : decode cX0_hear 14 = .ok (.getfield 25, 3) := by decide +kernel
theorem dX0_hear_17 : decode cX0_hear 17 = .ok (.iload_n 1, 1) := by decide +kernel
theorem dX0_hear_18 : decode cX0_hear 18 = .ok (.invokevirtual 33, 3) := by decide +kernel
theorem dX0_hear_21 : decode cX0_hear 21 = .ok (.istore_n 3, 1) := by decide +kernel
theorem dX0_hear_22 : decode cX0_hear 22 = .ok (.iload_n 3, 1) := by decide +kernel
theorem dX0_hear_23 : decode cX0_hear 23 = .ok (.iconst (-1), 1) := by decide +kernel
theorem dX0_hear_24 : decode cX0_hear 24 = .ok (.if_icmp .ne 10, 3) := by decide +kernel
theorem dX0_hear_27 : decode cX0_hear 27 = .ok (.aload_n 0, 1) := by decide +kernel
theorem dX0_hear_28 : decode cX0_hear 28 = .ok (.iload_n 1, 1) := by decide +kernel
theorem dX0_hear_29 : decode cX0_hear 29 = .ok (.iload_n 2, 1) := by decide +kernel
theorem dX0_hear_30 : decode cX0_hear 30 = .ok (.invokevirtual 39, 3) := by decide +kernel
theorem dX0_hear_33 : decode cX0_hear 33 = .ok (.ireturn, 1) := by decide +kernel
theorem dX0_hear_34 : decode cX0_hear 34 = .ok (.aload_n 0, 1) := by decide +kernel
theorem dX0_hear_35 : decode cX0_hear 35 = .ok (.getfield 29, 3) := by decide +kernel
theorem dX0_hear_38 : decode cX0_hear 38 = .ok (.iload_n 2, 1) := by decide +kernel
theorem dX0_hear_39 : decode cX0_hear 39 = .ok (.iload_n 3, 1) := by decide +kernel
theorem dX0_hear_40 : decode cX0_hear 40 = .ok (.invokevirtual 43, 3) := by decide +kernel
theorem dX0_hear_43 : decode cX0_hear 43 = .ok (.ifCond .eq 12, 3) := by decide +kernel
theorem dX0_hear_46 : decode cX0_hear 46 = .ok (.aload_n 0, 1) := by decide +kernel
theorem dX0_hear_47 : decode cX0_hear 47 = .ok (.getfield 9, 3) := by decide +kernel
theorem dX0_hear_50 : decode cX0_hear 50 = .ok (.iload_n 1, 1) := by decide +kernel
theorem dX0_hear_51 : decode cX0_hear 51 = .ok (.iconst 0, 1) := by decide +kernel
theorem dX0_hear_52 : decode cX0_hear 52 = .ok (.iastore, 1) := by decide +kernel
theorem dX0_hear_53 : decode cX0_hear 53 = .ok (.iconst 0, 1) := by decide +kernel
theorem dX0_hear_54 : decode cX0_hear 54 = .ok (.ireturn, 1) := by decide +kernel
theorem dX0_hear_55 : decode cX0_hear 55 = .ok (.aload_n 0, 1) := by decide +kernel
theorem dX0_hear_56 : decode cX0_hear 56 = .ok (.iload_n 1, 1) := by decide +kernel
theorem dX0_hear_57 : decode cX0_hear 57 = .ok (.iload_n 2, 1) := by decide +kernel
theorem dX0_hear_58 : decode cX0_hear 58 = .ok (.iload_n 2, 1) := by decide +kernel
theorem dX0_hear_59 : decode cX0_hear 59 = .ok (.iload_n 3, 1) := by decide +kernel
theorem dX0_hear_60 : decode cX0_hear 60 = .ok (.if_icmp .le 7, 3) := by decide +kernel
theorem dX0_hear_63 : decode cX0_hear 63 = .ok (.iconst 1, 1) := by decide +kernel
theorem dX0_hear_64 : decode cX0_hear 64 = .ok (.goto 4, 3) := by decide +kernel
theorem dX0_hear_67 : decode cX0_hear 67 = .ok (.iconst (-1), 1) := by decide +kernel
theorem dX0_hear_68 : decode cX0_hear 68 = .ok (.invokevirtual 49, 3) := by decide +kernel
theorem dX0_hear_71 : decode cX0_hear 71 = .ok (.ireturn, 1) := by decide +kernel
theorem dX0_hearAgainst_0 : decode cX0_hearAgainst 0 = .ok (.iload_n 1, 1) := by decide +kernel
theorem dX0_hearAgainst_1 : decode cX0_hearAgainst 1 = .ok (.ifCond .lt 10, 3) := by decide +kernel
theorem dX0_hearAgainst_4 : decode cX0_hearAgainst 4 = .ok (.iload_n 1, 1) := by decide +kernel
theorem dX0_hearAgainst_5 : decode cX0_hearAgainst 5 = .ok (.sipush 144, 3) := by decide +kernel
theorem dX0_hearAgainst_8 : decode cX0_hearAgainst 8 = .ok (.if_icmp .lt 5, 3) := by decide +kernel
theorem dX0_hearAgainst_11 : decode cX0_hearAgainst 11 = .ok (.iconst (-1), 1) := by decide +kernel
theorem dX0_hearAgainst_12 : decode cX0_hearAgainst 12 = .ok (.ireturn, 1) := by decide +kernel
theorem dX0_hearAgainst_13 : decode cX0_hearAgainst 13 = .ok (.iconst 0, 1) := by decide +kernel
theorem dX0_hearAgainst_14 : decode cX0_hearAgainst 14 = .ok (.aload_n 0, 1) := by decide +kernel
theorem dX0_hearAgainst_15 : decode cX0_hearAgainst 15 = .ok (.getfield 9, 3) := by decide +kernel
theorem dX0_hearAgainst_18 : decode cX0_hearAgainst 18 = .ok (.iload_n 1, 1) := by decide +kernel
theorem dX0_hearAgainst_19 : decode cX0_hearAgainst 19 = .ok (.iaload, 1) := by decide +kernel
theorem dX0_hearAgainst_20 : decode cX0_hearAgainst 20 = .ok (.iload_n 3, 1) := by decide +kernel
theorem dX0_hearAgainst_21 : decode cX0_hearAgainst 21 = .ok (.imul, 1) := by decide +kernel
theorem dX0_hearAgainst_22 : decode cX0_hearAgainst 22 = .ok (.invokestatic 53, 3) := by decide +kernel
theorem dX0_hearAgainst_25 : decode cX0_hearAgainst 25 = .ok (.istore 4, 2) := by decide +kernel
theorem dX0_hearAgainst_27 : decode cX0_hearAgainst 27 = .ok (.iload 4, 2) := by decide +kernel
theorem dX0_hearAgainst_29 : decode cX0_hearAgainst 29 = .ok (.iconst 2, 1) := by decide +kernel
theorem dX0_hearAgainst_30 : decode cX0_hearAgainst 30 = .ok (.if_icmp .lt 25, 3) := by decide +kernel
theorem dX0_hearAgainst_33 : decode cX0_hearAgainst 33 = .ok (.aload_n 0, 1) := by decide +kernel
theorem dX0_hearAgainst_34 : decode cX0_hearAgainst 34 = .ok (.iload_n 1, 1) := by decide +kernel
theorem dX0_hearAgainst_35 : decode cX0_hearAgainst 35 = .ok (.aload_n 0, 1) := by decide +kernel
theorem dX0_hearAgainst_36 : decode cX0_hearAgainst 36 = .ok (.getfield 15, 3) := by decide +kernel
theorem dX0_hearAgainst_39 : decode cX0_hearAgainst 39 = .ok (.iload_n 1, 1) := by decide +kernel
theorem dX0_hearAgainst_40 : decode cX0_hearAgainst 40 = .ok (.iaload, 1) := by decide +kernel
theorem dX0_hearAgainst_41 : decode cX0_hearAgainst 41 = .ok (.aload_n 0, 1) := by decide +kernel
theorem dX0_hearAgainst_42 : decode cX0_hearAgainst 42 = .ok (.getfield 18, 3) := by decide +kernel
theorem dX0_hearAgainst_45 : decode cX0_hearAgainst 45 = .ok (.iload_n 1, 1) := by decide +kernel
theorem dX0_hearAgainst_46 : decode cX0_hearAgainst 46 = .ok (.iaload, 1) := by decide +kernel
theorem dX0_hearAgainst_47 : decode cX0_hearAgainst 47 = .ok (.iload_n 2, 1) := by decide +kernel
theorem dX0_hearAgainst_48 : decode cX0_hearAgainst 48 = .ok (.invokestatic 58, 3) := by decide +kernel
theorem dX0_hearAgainst_51 : decode cX0_hearAgainst 51 = .ok (.invokevirtual 39, 3) := by decide +kernel
theorem dX0_hearAgainst_54 : decode cX0_hearAgainst 54 = .ok (.ireturn, 1) := by decide +kernel
theorem dX0_hearAgainst_55 : decode cX0_hearAgainst 55 = .ok (.iload 4, 2) := by decide +kernel
theorem dX0_hearAgainst_57 : decode cX0_hearAgainst 57 = .ok (.ifCond .ne 13, 3) := by decide +kernel
theorem dX0_hearAgainst_60 : decode cX0_hearAgainst 60 = .ok (.aload_n 0, 1) := by decide +kernel
theorem dX0_hearAgainst_61 : decode cX0_hearAgainst 61 = .ok (.getfield 15, 3) := by decide +kernel
theorem dX0_hearAgainst_64 : decode cX0_hearAgainst 64 = .ok (.iload_n 1, 1) := by decide +kernel
theorem dX0_hearAgainst_65 : decode cX0_hearAgainst 65 = .ok (.iload_n 2, 1) := by decide +kernel
theorem dX0_hearAgainst_66 : decode cX0_hearAgainst 66 = .ok (.iastore, 1) := by decide +kernel
theorem dX0_hearAgainst_67 : decode cX0_hearAgainst 67 = .ok (.goto 10, 3) := by decide +kernel
theorem dX0_hearAgainst_70 : decode cX0_hearAgainst 70 = .ok (.aload_n 0, 1) := by decide +kernel
theorem dX0_hearAgainst_71 : decode cX0_hearAgainst 71 = .ok (.getfield 18, 3) := by decide +kernel
theorem dX0_hearAgainst_74 : decode cX0_hearAgainst 74 = .ok (.iload_n 1, 1) := by decide +kernel
theorem dX0_hearAgainst_75 : decode cX0_hearAgainst 75 = .ok (.iload_n 2, 1) := by decide +kernel
theorem dX0_hearAgainst_76 : decode cX0_hearAgainst 76 = .ok (.iastore, 1) := by decide +kernel
theorem dX0_hearAgainst_77 : decode cX0_hearAgainst 77 = .ok (.aload_n 0, 1) := by decide +kernel
theorem dX0_hearAgainst_78 : decode cX0_hearAgainst 78 = .ok (.getfield 9, 3) := by decide +kernel
theorem dX0_hearAgainst_81 : decode cX0_hearAgainst 81 = .ok (.iload_n 1, 1) := by decide +kernel
theorem dX0_hearAgainst_82 : decode cX0_hearAgainst 82 = .ok (.iload 4, 2) := by decide +kernel
theorem dX0_hearAgainst_84 : decode cX0_hearAgainst 84 = .ok (.iconst 1, 1) := by decide +kernel
theorem dX0_hearAgainst_85 : decode cX0_hearAgainst 85 = .ok (.iadd, 1) := by decide +kernel
theorem dX0_hearAgainst_86 : decode cX0_hearAgainst 86 = .ok (.iload_n 3, 1) := by decide +kernel
theorem dX0_hearAgainst_87 : decode cX0_hearAgainst 87 = .ok (.imul, 1) := by decide +kernel
theorem dX0_hearAgainst_88 : decode cX0_hearAgainst 88 = .ok (.iastore, 1) := by decide +kernel
theorem dX0_hearAgainst_89 : decode cX0_hearAgainst 89 = .ok (.iconst 1, 1) := by decide +kernel
theorem dX0_hearAgainst_90 : decode cX0_hearAgainst 90 = .ok (.ireturn, 1) := by decide +kernel
theorem dX0_mend_0 : decode cX0_mend 0 = .ok (.iload_n 1, 1) := by decide +kernel
theorem dX0_mend_1 : decode cX0_mend 1 = .ok (.ifCond .lt 10, 3) := by decide +kernel
theorem dX0_mend_4 : decode cX0_mend 4 = .ok (.iload_n 1, 1) := by decide +kernel
theorem dX0_mend_5 : decode cX0_mend 5 = .ok (.sipush 144, 3) := by decide +kernel
theorem dX0_mend_8 : decode cX0_mend 8 = .ok (.if_icmp .lt 5, 3) := by decide +kernel
theorem dX0_mend_11 : decode cX0_mend 11 = .ok (.iconst (-1), 1) := by decide +kernel
theorem dX0_mend_12 : decode cX0_mend 12 = .ok (.ireturn, 1) := by decide +kernel
theorem dX0_mend_13 : decode cX0_mend 13 = .ok (.aload_n 0, 1) := by decide +kernel
theorem dX0_mend_14 : decode cX0_mend 14 = .ok (.getfield 25, 3) := by decide +kernel
theorem dX0_mend_17 : decode cX0_mend 17 = .ok (.iload_n 1, 1) := by decide +kernel
theorem dX0_mend_18 : decode cX0_mend 18 = .ok (.iload_n 2, 1) := by decide +kernel
theorem dX0_mend_19 : decode cX0_mend 19 = .ok (.invokevirtual 61, 3) := by decide +kernel
theorem dX0_mend_22 : decode cX0_mend 22 = .ok (.aload_n 0, 1) := by decide +kernel
theorem dX0_mend_23 : decode cX0_mend 23 = .ok (.getfield 9, 3) := by decide +kernel
theorem dX0_mend_26 : decode cX0_mend 26 = .ok (.iload_n 1, 1) := by decide +kernel
theorem dX0_mend_27 : decode cX0_mend 27 = .ok (.iconst 0, 1) := by decide +kernel
theorem dX0_mend_28 : decode cX0_mend 28 = .ok (.iastore, 1) := by decide +kernel
theorem dX0_mend_29 : decode cX0_mend 29 = .ok (.aload_n 0, 1) := by decide +kernel
theorem dX0_mend_30 : decode cX0_mend 30 = .ok (.dup, 1) := by decide +kernel
theorem dX0_mend_31 : decode cX0_mend 31 = .ok (.getfield 21, 3) := by decide +kernel
theorem dX0_mend_34 : decode cX0_mend 34 = .ok (.iconst 1, 1) := by decide +kernel
theorem dX0_mend_35 : decode cX0_mend 35 = .ok (.iadd, 1) := by decide +kernel
theorem dX0_mend_36 : decode cX0_mend 36 = .ok (.putfield 21, 3) := by decide +kernel
theorem dX0_mend_39 : decode cX0_mend 39 = .ok (.iconst 2, 1) := by decide +kernel
theorem dX0_mend_40 : decode cX0_mend 40 = .ok (.ireturn, 1) := by decide +kernel
theorem dX0_middle_0 : decode cX0_middle 0 = .ok (.iload_n 0, 1) := by decide +kernel
theorem dX0_middle_1 : decode cX0_middle 1 = .ok (.iload_n 1, 1) := by decide +kernel
theorem dX0_middle_2 : decode cX0_middle 2 = .ok (.invokestatic 65, 3) := by decide +kernel
theorem dX0_middle_5 : decode cX0_middle 5 = .ok (.iload_n 0, 1) := by decide +kernel
theorem dX0_middle_6 : decode cX0_middle 6 = .ok (.iload_n 1, 1) := by decide +kernel
theorem dX0_middle_7 : decode cX0_middle 7 = .ok (.invokestatic 53, 3) := by decide +kernel
theorem dX0_middle_10 : decode cX0_middle 10 = .ok (.iload_n 2, 1) := by decide +kernel
theorem dX0_middle_11 : decode cX0_middle 11 = .ok (.invokestatic 65, 3) := by decide +kernel
theorem dX0_middle_14 : decode cX0_middle 14 = .ok (.invokestatic 53, 3) := by decide +kernel
theorem dX0_middle_17 : decode cX0_middle 17 = .ok (.ireturn, 1) := by decide +kernel
theorem dX1_init_0 : decode cX1_init 0 = .ok (.aload_n 0, 1) := by decide +kernel
theorem dX1_init_1 : decode cX1_init 1 = .ok (.invokespecial 3, 3) := by decide +kernel
theorem dX1_init_4 : decode cX1_init 4 = .ok (.aload_n 0, 1) := by decide +kernel
theorem dX1_init_5 : decode cX1_init 5 = .ok (.sipush 144, 3) := by decide +kernel
theorem dX1_init_8 : decode cX1_init 8 = .ok (.newarray .long, 2) := by decide +kernel
theorem dX1_init_10 : decode cX1_init 10 = .ok (.putfield 9, 3) := by decide +kernel
theorem dX1_init_13 : decode cX1_init 13 = .ok (.aload_n 0, 1) := by decide +kernel
theorem dX1_init_14 : decode cX1_init 14 = .ok (.sipush 144, 3) := by decide +kernel
theorem dX1_init_17 : decode cX1_init 17 = .ok (.newarray .long, 2) := by decide +kernel
theorem dX1_init_19 : decode cX1_init 19 = .ok (.putfield 15, 3) := by decide +kernel
theorem dX1_init_22 : decode cX1_init 22 = .ok (.aload_n 0, 1) := by decide +kernel
theorem dX1_init_23 : decode cX1_init 23 = .ok (.iconst 0, 1) := by decide +kernel
theorem dX1_init_24 : decode cX1_init 24 = .ok (.putfield 18, 3) := by decide +kernel
theorem dX1_init_27 : decode cX1_init 27 = .ok (.aload_n 0, 1) := by decide +kernel
theorem dX1_init_28 : decode cX1_init 28 = .ok (.aload_n 1, 1) := by decide +kernel
theorem dX1_init_29 : decode cX1_init 29 = .ok (.putfield 22, 3) := by decide +kernel
theorem dX1_init_32 : decode cX1_init 32 = .ok (.aload_n 0, 1) := by decide +kernel
theorem dX1_init_33 : decode cX1_init 33 = .ok (.aload_n 2, 1) := by decide +kernel
theorem dX1_init_34 : decode cX1_init 34 = .ok (.putfield 26, 3) := by decide +kernel
theorem dX1_init_37 : decode cX1_init 37 = .ok (.aload_n 0, 1) := by decide +kernel
theorem dX1_init_38 : decode cX1_init 38 = .ok (.aload_n 3, 1) := by decide +kernel
theorem dX1_init_39 : decode cX1_init 39 = .ok (.putfield 30, 3) := by decide +kernel
theorem dX1_init_42 : decode cX1_init 42 = .ok (.return_, 1) := by decide +kernel
theorem dX1_losses_0 : decode cX1_losses 0 = .ok (.aload_n 0, 1) := by decide +kernel
theorem dX1_losses_1 : decode cX1_losses 1 = .ok (.getfield 18, 3) := by decide +kernel
theorem dX1_losses_4 : decode cX1_losses 4 = .ok (.ireturn, 1) := by decide +kernel
theorem dX1_forgetLosses_0 : decode cX1_forgetLosses 0 = .ok (.aload_n 0, 1) := by decide +kernel
theorem dX1_forgetLosses_1 : decode cX1_forgetLosses 1 = .ok (.iconst 0, 1) := by decide +kernel
theorem dX1_forgetLosses_2 : decode cX1_forgetLosses 2 = .ok (.putfield 18, 3) := by decide +kernel
theorem dX1_forgetLosses_5 : decode cX1_forgetLosses 5 = .ok (.return_, 1) := by decide +kernel
theorem dX1_start_0 : decode cX1_start 0 = .ok (.aload_n 0, 1) := by decide +kernel
theorem dX1_start_1 : decode cX1_start 1 = .ok (.getfield 30, 3) := by decide +kernel
theorem dX1_start_4 : decode cX1_start 4 = .ok (.iload_n 1, 1) := by decide +kernel
theorem dX1_start_5 : decode cX1_start 5 = .ok (.invokevirtual 34, 3) := by decide +kernel
theorem dX1_start_8 : decode cX1_start 8 = .ok (.iconst 0, 1) := by decide +kernel
theorem dX1_start_9 : decode cX1_start 9 = .ok (.istore_n 2, 1) := by decide +kernel
theorem dX1_start_10 : decode cX1_start 10 = .ok (.iload_n 2, 1) := by decide +kernel
theorem dX1_start_11 : decode cX1_start 11 = .ok (.sipush 144, 3) := by decide +kernel
theorem dX1_start_14 : decode cX1_start 14 = .ok (.if_icmp .ge 41, 3) := by decide +kernel
theorem dX1_start_17 : decode cX1_start 17 = .ok (.aload_n 0, 1) := by decide +kernel
theorem dX1_start_18 : decode cX1_start 18 = .ok (.getfield 9, 3) := by decide +kernel
theorem dX1_start_21 : decode cX1_start 21 = .ok (.iload_n 2, 1) := by decide +kernel
theorem dX1_start_22 : decode cX1_start 22 = .ok (.aload_n 0, 1) := by decide +kernel
theorem dX1_start_23 : decode cX1_start 23 = .ok (.getfield 22, 3) := by decide +kernel
theorem dX1_start_26 : decode cX1_start 26 = .ok (.iload_n 2, 1) := by decide +kernel
theorem dX1_start_27 : decode cX1_start 27 = .ok (.invokevirtual 40, 3) := by decide +kernel
theorem dX1_start_30 : decode cX1_start 30 = .ok (.ifCond .eq 17, 3) := by decide +kernel
theorem dX1_start_33 : decode cX1_start 33 = .ok (.iload_n 1, 1) := by decide +kernel
theorem dX1_start_34 : decode cX1_start 34 = .ok (.iconst (-1), 1) := by decide +kernel
theorem dX1_start_35 : decode cX1_start 35 = .ok (.if_icmp .eq 8, 3) := by decide +kernel
theorem dX1_start_38 : decode cX1_start 38 = .ok (.iload_n 2, 1) := by decide +kernel
theorem dX1_start_39 : decode cX1_start 39 = .ok (.iload_n 1, 1) := by decide +kernel
theorem dX1_start_40 : decode cX1_start 40 = .ok (.if_icmp .ne 7, 3) := by decide +kernel
theorem dX1_start_43 : decode cX1_start 43 = .ok (.lconst 1, 1) := by decide +kernel
theorem dX1_start_44 : decode cX1_start 44 = .ok (.goto 4, 3) := by decide +kernel
theorem dX1_start_47 : decode cX1_start 47 = .ok (.lconst 0, 1) := by decide +kernel
theorem dX1_start_48 : decode cX1_start 48 = .ok (.lastore, 1) := by decide +kernel
theorem dX1_start_49 : decode cX1_start 49 = .ok (.iinc 2 1, 3) := by decide +kernel
theorem dX1_start_52 : decode cX1_start 52 = .ok (.goto (-42), 3) := by decide +kernel
theorem dX1_start_55 : decode cX1_start 55 = .ok (.return_, 1) := by decide +kernel
theorem dX1_fly_0 : decode cX1_fly 0 = .ok (.aload_n 0, 1) := by decide +kernel
theorem dX1_fly_1 : decode cX1_fly 1 = .ok (.invokevirtual 46, 3) := by decide +kernel
theorem dX1_fly_4 : decode cX1_fly 4 = .ok (.iconst 0, 1) := by decide +kernel
theorem dX1_fly_5 : decode cX1_fly 5 = .ok (.istore_n 3, 1) := by decide +kernel
theorem dX1_fly_6 : decode cX1_fly 6 = .ok (.iload_n 3, 1) := by decide +kernel
theorem dX1_fly_7 : decode cX1_fly 7 = .ok (.aload_n 0, 1) := by decide +kernel
theorem dX1_fly_8 : decode cX1_fly 8 = .ok (.getfield 22, 3) := by decide +kernel
theorem dX1_fly_11 : decode cX1_fly 11 = .ok (.invokevirtual 49, 3) := by decide +kernel
theorem dX1_fly_14 : decode cX1_fly 14 = .ok (.if_icmp .ge 66, 3) := by decide +kernel
theorem dX1_fly_17 : decode cX1_fly 17 = .ok (.iconst 0, 1) := by decide +kernel
theorem dX1_fly_18 : decode cX1_fly 18 = .ok (.istore 4, 2) := by decide +kernel
theorem dX1_fly_20 : decode cX1_fly 20 = .ok (.iload 4, 2) := by decide +kernel
theorem dX1_fly_22 : decode cX1_fly 22 = .ok (.aload_n 0, 1) := by decide +kernel
theorem dX1_fly_23 : decode cX1_fly 23 = .ok (.getfield 22, 3) := by decide +kernel
theorem dX1_fly_26 : decode cX1_fly 26 = .ok (.invokevirtual 53, 3) := by decide +kernel
theorem dX1_fly_29 : decode cX1_fly 29 = .ok (.if_icmp .ge 45, 3) := by decide +kernel
theorem dX1_fly_32 : decode cX1_fly 32 = .ok (.aload_n 0, 1) := by decide +kernel
theorem dX1_fly_33 : decode cX1_fly 33 = .ok (.aload_n 0, 1) := by decide +kernel
theorem dX1_fly_34 : decode cX1_fly 34 = .ok (.getfield 22, 3) := by decide +kernel
theorem dX1_fly_37 : decode cX1_fly 37 = .ok (.iload 4, 2) := by decide +kernel
theorem dX1_fly_39 : decode cX1_fly 39 = .ok (.iload_n 3, 1) := by decide +kernel
theorem dX1_fly_40 : decode cX1_fly 40 = .ok (.invokevirtual 56, 3) := by decide +kernel
theorem dX1_fly_43 : decode cX1_fly 43 = .ok (.invokevirtual 60, 3) := by decide +kernel
theorem dX1_fly_46 : decode cX1_fly 46 = .ok (.lstore 5, 2) := by decide +kernel
theorem dX1_fly_48 : decode cX1_fly 48 = .ok (.lload 5, 2) := by decide +kernel
theorem dX1_fly_50 : decode cX1_fly 50 = .ok (.lconst 0, 1) := by decide +kernel
theorem dX1_fly_51 : decode cX1_fly 51 = .ok (.lcmp, 1) := by decide +kernel
theorem dX1_fly_52 : decode cX1_fly 52 = .ok (.ifCond .le 16, 3) := by decide +kernel
theorem dX1_fly_55 : decode cX1_fly 55 = .ok (.aload_n 0, 1) := by decide +kernel
theorem dX1_fly_56 : decode cX1_fly 56 = .ok (.lload 5, 2) := by decide +kernel
theorem dX1_fly_58 : decode cX1_fly 58 = .ok (.iload 4, 2) := by decide +kernel
theorem dX1_fly_60 : decode cX1_fly 60 = .ok (.iload_n 1, 1) := by decide +kernel
theorem dX1_fly_61 : decode cX1_fly 61 = .ok (.iadd, 1) := by decide +kernel
theorem dX1_fly_62 : decode cX1_fly 62 = .ok (.iload_n 3, 1) := by decide +kernel
theorem dX1_fly_63 : decode cX1_fly 63 = .ok (.iload_n 2, 1) := by decide +kernel
theorem dX1_fly_64 : decode cX1_fly 64 = .ok (.iadd, 1) := by decide +kernel
theorem dX1_fly_65 : decode cX1_fly 65 = .ok (.invokevirtual 64, 3) := by decide +kernel
theorem dX1_fly_68 : decode cX1_fly 68 = .ok (.iinc 4 1, 3) := by decide +kernel
theorem dX1_fly_71 : decode cX1_fly 71 = .ok (.goto (-51), 3) := by decide +kernel
theorem dX1_fly_74 : decode cX1_fly 74 = .ok (.iinc 3 1, 3) := by decide +kernel
theorem dX1_fly_77 : decode cX1_fly 77 = .ok (.goto (-71), 3) := by decide +kernel
theorem dX1_fly_80 : decode cX1_fly 80 = .ok (.aload_n 0, 1) := by decide +kernel
theorem dX1_fly_81 : decode cX1_fly 81 = .ok (.getfield 15, 3) := by decide +kernel
theorem dX1_fly_84 : decode cX1_fly 84 = .ok (.iconst 0, 1) := by decide +kernel
theorem dX1_fly_85 : decode cX1_fly 85 = .ok (.aload_n 0, 1) := by decide +kernel
theorem dX1_fly_86 : decode cX1_fly 86 = .ok (.getfield 9, 3) := by decide +kernel
theorem dX1_fly_89 : decode cX1_fly 89 = .ok (.iconst 0, 1) := by decide +kernel
theorem dX1_fly_90 : decode cX1_fly 90 = .ok (.sipush 144, 3) := by decide +kernel
theorem dX1_fly_93 : decode cX1_fly 93 = .ok (.invokestatic 68, 3) := by decide +kernel
theorem dX1_fly_96 : decode cX1_fly 96 = .ok (.aload_n 0, 1) := by decide +kernel
theorem dX1_fly_97 : decode cX1_fly 97 = .ok (.invokevirtual 74, 3) := by decide +kernel
theorem dX1_fly_100 : decode cX1_fly 100 = .ok (.ifCond .ne 9, 3) := by decide +kernel
theorem dX1_fly_103 : decode cX1_fly 103 = .ok (.aload_n 0, 1) := by decide +kernel
theorem dX1_fly_104 : decode cX1_fly 104 = .ok (.invokevirtual 77, 3) := by decide +kernel
theorem dX1_fly_107 : decode cX1_fly 107 = .ok (.iconst 0, 1) := by decide +kernel
theorem dX1_fly_108 : decode cX1_fly 108 = .ok (.ireturn, 1) := by decide +kernel
theorem dX1_fly_109 : decode cX1_fly 109 = .ok (.aload_n 0, 1) := by decide +kernel
theorem dX1_fly_110 : decode cX1_fly 110 = .ok (.getfield 30, 3) := by decide +kernel
theorem dX1_fly_113 : decode cX1_fly 113 = .ok (.iload_n 1, 1) := by decide +kernel
theorem dX1_fly_114 : decode cX1_fly 114 = .ok (.iload_n 2, 1) := by decide +kernel
theorem dX1_fly_115 : decode cX1_fly 115 = .ok (.invokevirtual 80, 3) := by decide +kernel
theorem dX1_fly_118 : decode cX1_fly 118 = .ok (.iconst 1, 1) := by decide +kernel
theorem dX1_fly_119 : decode cX1_fly 119 = .ok (.ireturn, 1) := by decide +kernel
theorem dX1_clearMoved_0 : decode cX1_clearMoved 0 = .ok (.iconst 0, 1) := by decide +kernel
theorem dX1_clearMoved_1 : decode cX1_clearMoved 1 = .ok (.istore_n 1, 1) := by decide +kernel
theorem dX1_clearMoved_2 : decode cX1_clearMoved 2 = .ok (.iload_n 1, 1) := by decide +kernel
theorem dX1_clearMoved_3 : decode cX1_clearMoved 3 = .ok (.sipush 144, 3) := by decide +kernel
theorem dX1_clearMoved_6 : decode cX1_clearMoved 6 = .ok (.if_icmp .ge 16, 3) := by decide +kernel
theorem dX1_clearMoved_9 : decode cX1_clearMoved 9 = .ok (.aload_n 0, 1) := by decide +kernel
theorem dX1_clearMoved_10 : decode cX1_clearMoved 10 = .ok (.getfield 15, 3) := by decide +kernel
theorem dX1_clearMoved_13 : decode cX1_clearMoved 13 = .ok (.iload_n 1, 1) := by decide +kernel
theorem dX1_clearMoved_14 : decode cX1_clearMoved 14 = .ok (.lconst 0, 1) := by decide +kernel
theorem dX1_clearMoved_15 : decode cX1_clearMoved 15 = .ok (.lastore, 1) := by decide +kernel
theorem dX1_clearMoved_16 : decode cX1_clearMoved 16 = .ok (.iinc 1 1, 3) := by decide +kernel
theorem dX1_clearMoved_19 : decode cX1_clearMoved 19 = .ok (.goto (-17), 3) := by decide +kernel
theorem dX1_clearMoved_22 : decode cX1_clearMoved 22 = .ok (.return_, 1) := by decide +kernel
theorem dX1_spread_0 : decode cX1_spread 0 = .ok (.iconst (-1), 1) := by decide +kernel
theorem dX1_spread_1 : decode cX1_spread 1 = .ok (.istore 5, 2) := by decide +kernel
theorem dX1_spread_3 : decode cX1_spread 3 = .ok (.iload 5, 2) := by decide +kernel
theorem dX1_spread_5 : decode cX1_spread 5 = .ok (.iconst 1, 1) := by decide +kernel
theorem dX1_spread_6 : decode cX1_spread 6 = .ok (.if_icmp .gt 79, 3) := by decide +kernel
theorem dX1_spread_9 : decode cX1_spread 9 = .ok (.iconst (-1), 1) := by decide +kernel
theorem dX1_spread_10 : decode cX1_spread 10 = .ok (.istore 6, 2) := by decide +kernel
theorem dX1_spread_12 : decode cX1_spread 12 = .ok (.iload 6, 2) := by decide +kernel
theorem dX1_spread_14 : decode cX1_spread 14 = .ok (.iconst 1, 1) := by decide +kernel
theorem dX1_spread_15 : decode cX1_spread 15 = .ok (.if_icmp .gt 64, 3) := by decide +kernel
theorem dX1_spread_18 : decode cX1_spread 18 = .ok (.aload_n 0, 1) := by decide +kernel
theorem dX1_spread_19 : decode cX1_spread 19 = .ok (.getfield 22, 3) := by decide +kernel
theorem dX1_spread_22 : decode cX1_spread 22 = .ok (.iload_n 3, 1) := by decide +kernel
theorem dX1_spread_23 : decode cX1_spread 23 = .ok (.iload 6, 2) := by decide +kernel
theorem dX1_spread_25 : decode cX1_spread 25 = .ok (.iadd, 1) := by decide +kernel
theorem dX1_spread_26 : decode cX1_spread 26 = .ok (.iload 4, 2) := by decide +kernel
theorem dX1_spread_28 : decode cX1_spread 28 = .ok (.iload 5, 2) := by decide +kernel
theorem dX1_spread_30 : decode cX1_spread 30 = .ok (.iadd, 1) := by decide +kernel
theorem dX1_spread_31 : decode cX1_spread 31 = .ok (.invokevirtual 56, 3) := by decide +kernel
theorem dX1_spread_34 : decode cX1_spread 34 = .ok (.istore 7, 2) := by decide +kernel
theorem dX1_spread_36 : decode cX1_spread 36 = .ok (.iload 7, 2) := by decide +kernel
theorem dX1_spread_38 : decode cX1_spread 38 = .ok (.ifCond .lt 35, 3) := by decide +kernel
theorem dX1_spread_41 : decode cX1_spread 41 = .ok (.iload 7, 2) := by decide +kernel
theorem dX1_spread_43 : decode cX1_spread 43 = .ok (.sipush 144, 3) := by decide +kernel
theorem dX1_spread_46 : decode cX1_spread 46 = .ok (.if_icmp .ge 27, 3) := by decide +kernel
theorem dX1_spread_49 : decode cX1_spread 49 = .ok (.aload_n 0, 1) := by decide +kernel
theorem dX1_spread_50 : decode cX1_spread 50 = .ok (.getfield 15, 3) := by decide +kernel
theorem dX1_spread_53 : decode cX1_spread 53 = .ok (.iload 7, 2) := by decide +kernel
theorem dX1_spread_55 : decode cX1_spread 55 = .ok (.dup2, 1) := by decide +kernel
theorem dX1_spread_56 : decode cX1_spread 56 = .ok (.laload, 1) := by decide +kernel
theorem dX1_spread_57 : decode cX1_spread 57 = .ok (.lload_n 1, 1) := by decide +kernel
theorem dX1_spread_58 : decode cX1_spread 58 = .ok (.aload_n 0, 1) := by decide +kernel
theorem dX1_spread_59 : decode cX1_spread 59 = .ok (.getfield 26, 3) := by decide +kernel
theorem dX1_spread_62 : decode cX1_spread 62 = .ok (.iload 6, 2) := by decide +kernel
theorem dX1_spread_64 : decode cX1_spread 64 = .ok (.iload 5, 2) := by decide +kernel
theorem dX1_spread_66 : decode cX1_spread 66 = .ok (.invokevirtual 84, 3) := by decide +kernel
theorem dX1_spread_69 : decode cX1_spread 69 = .ok (.i2l, 1) := by decide +kernel
theorem dX1_spread_70 : decode cX1_spread 70 = .ok (.lmul, 1) := by decide +kernel
theorem dX1_spread_71 : decode cX1_spread 71 = .ok (.ladd, 1) := by decide +kernel
theorem dX1_spread_72 : decode cX1_spread 72 = .ok (.lastore, 1) := by decide +kernel
theorem dX1_spread_73 : decode cX1_spread 73 = .ok (.iinc 6 1, 3) := by decide +kernel
theorem dX1_spread_76 : decode cX1_spread 76 = .ok (.goto (-64), 3) := by decide +kernel
theorem dX1_spread_79 : decode cX1_spread 79 = .ok (.iinc 5 1, 3) := by decide +kernel
theorem dX1_spread_82 : decode cX1_spread 82 = .ok (.goto (-79), 3) := by decide +kernel
theorem dX1_spread_85 : decode cX1_spread 85 = .ok (.return_, 1) := by decide +kernel
theorem dX1_sight_0 : decode cX1_sight 0 = .ok (.aload_n 0, 1) := by decide +kernel
theorem dX1_sight_1 : decode cX1_sight 1 = .ok (.iload_n 1, 1) := by decide +kernel
theorem dX1_sight_2 : decode cX1_sight 2 = .ok (.invokevirtual 89, 3) := by decide +kernel
theorem dX1_sight_5 : decode cX1_sight 5 = .ok (.aload_n 0, 1) := by decide +kernel
theorem dX1_sight_6 : decode cX1_sight 6 = .ok (.invokevirtual 74, 3) := by decide +kernel
theorem dX1_sight_9 : decode cX1_sight 9 = .ok (.ifCond .le 13, 3) := by decide +kernel
theorem dX1_sight_12 : decode cX1_sight 12 = .ok (.aload_n 0, 1) := by decide +kernel
theorem dX1_sight_13 : decode cX1_sight 13 = .ok (.getfield 30, 3) := by decide +kernel
theorem dX1_sight_16 : decode cX1_sight 16 = .ok (.iload_n 1, 1) := by decide +kernel
theorem dX1_sight_17 : decode cX1_sight 17 = .ok (.invokevirtual 92, 3) := by decide +kernel
theorem dX1_sight_20 : decode cX1_sight 20 = .ok (.iconst 1, 1) := by decide +kernel
theorem dX1_sight_21 : decode cX1_sight 21 = .ok (.ireturn, 1) := by decide +kernel
theorem dX1_sight_22 : decode cX1_sight 22 = .ok (.aload_n 0, 1) := by decide +kernel
theorem dX1_sight_23 : decode cX1_sight 23 = .ok (.invokevirtual 77, 3) := by decide +kernel
theorem dX1_sight_26 : decode cX1_sight 26 = .ok (.aload_n 0, 1) := by decide +kernel
theorem dX1_sight_27 : decode cX1_sight 27 = .ok (.iload_n 1, 1) := by decide +kernel
theorem dX1_sight_28 : decode cX1_sight 28 = .ok (.invokevirtual 89, 3) := by decide +kernel
theorem dX1_sight_31 : decode cX1_sight 31 = .ok (.aload_n 0, 1) := by decide +kernel
theorem dX1_sight_32 : decode cX1_sight 32 = .ok (.invokevirtual 74, 3) := by decide +kernel
theorem dX1_sight_35 : decode cX1_sight 35 = .ok (.ifCond .ne 8, 3) := by decide +kernel
theorem dX1_sight_38 : decode cX1_sight 38 = .ok (.aload_n 0, 1) := by decide +kernel
theorem dX1_sight_39 : decode cX1_sight 39 = .ok (.iconst (-1), 1) := by decide +kernel
theorem dX1_sight_40 : decode cX1_sight 40 = .ok (.invokevirtual 95, 3) := by decide +kernel
theorem dX1_sight_43 : decode cX1_sight 43 = .ok (.aload_n 0, 1) := by decide +kernel
theorem dX1_sight_44 : decode cX1_sight 44 = .ok (.getfield 30, 3) := by decide +kernel
theorem dX1_sight_47 : decode cX1_sight 47 = .ok (.iload_n 1, 1) := by decide +kernel
theorem dX1_sight_48 : decode cX1_sight 48 = .ok (.invokevirtual 92, 3) := by decide +kernel
theorem dX1_sight_51 : decode cX1_sight 51 = .ok (.iconst 0, 1) := by decide +kernel
theorem dX1_sight_52 : decode cX1_sight 52 = .ok (.ireturn, 1) := by decide +kernel
theorem dX1_dropUnfit_0 : decode cX1_dropUnfit 0 = .ok (.iconst 0, 1) := by decide +kernel
theorem dX1_dropUnfit_1 : decode cX1_dropUnfit 1 = .ok (.istore_n 2, 1) := by decide +kernel
theorem dX1_dropUnfit_2 : decode cX1_dropUnfit 2 = .ok (.iload_n 2, 1) := by decide +kernel
theorem dX1_dropUnfit_3 : decode cX1_dropUnfit 3 = .ok (.sipush 144, 3) := by decide +kernel
theorem dX1_dropUnfit_6 : decode cX1_dropUnfit 6 = .ok (.if_icmp .ge 35, 3) := by decide +kernel
theorem dX1_dropUnfit_9 : decode cX1_dropUnfit 9 = .ok (.aload_n 0, 1) := by decide +kernel
theorem dX1_dropUnfit_10 : decode cX1_dropUnfit 10 = .ok (.getfield 26, 3) := by decide +kernel
theorem dX1_dropUnfit_13 : decode cX1_dropUnfit 13 = .ok (.iload_n 1, 1) := by decide +kernel
theorem dX1_dropUnfit_14 : decode cX1_dropUnfit 14 = .ok (.aload_n 0, 1) := by decide +kernel
theorem dX1_dropUnfit_15 : decode cX1_dropUnfit 15 = .ok (.getfield 22, 3) := by decide +kernel
theorem dX1_dropUnfit_18 : decode cX1_dropUnfit 18 = .ok (.iload_n 2, 1) := by decide +kernel
theorem dX1_dropUnfit_19 : decode cX1_dropUnfit 19 = .ok (.invokevirtual 98, 3) := by decide +kernel
theorem dX1_dropUnfit_22 : decode cX1_dropUnfit 22 = .ok (.invokevirtual 102, 3) := by decide +kernel
theorem dX1_dropUnfit_25 : decode cX1_dropUnfit 25 = .ok (.ifCond .ne 10, 3) := by decide +kernel
theorem dX1_dropUnfit_28 : decode cX1_dropUnfit 28 = .ok (.aload_n 0, 1) := by decide +kernel
theorem dX1_dropUnfit_29 : decode cX1_dropUnfit 29 = .ok (.getfield 9, 3) := by decide +kernel
theorem dX1_dropUnfit_32 : decode cX1_dropUnfit 32 = .ok (.iload_n 2, 1) := by decide +kernel
theorem dX1_dropUnfit_33 : decode cX1_dropUnfit 33 = .ok (.lconst 0, 1) := by decide +kernel
theorem dX1_dropUnfit_34 : decode cX1_dropUnfit 34 = .ok (.lastore, 1) := by decide +kernel
theorem dX1_dropUnfit_35 : decode cX1_dropUnfit 35 = .ok (.iinc 2 1, 3) := by decide +kernel
theorem dX1_dropUnfit_38 : decode cX1_dropUnfit 38 = .ok (.goto (-36), 3) := by decide +kernel
theorem dX1_dropUnfit_41 : decode cX1_dropUnfit 41 = .ok (.return_, 1) := by decide +kernel
theorem dX1_beginAgain_0 : decode cX1_beginAgain 0 = .ok (.aload_n 0, 1) := by decide +kernel
theorem dX1_beginAgain_1 : decode cX1_beginAgain 1 = .ok (.dup, 1) := by decide +kernel
theorem dX1_beginAgain_2 : decode cX1_beginAgain 2 = .ok (.getfield 18, 3) := by decide +kernel
theorem dX1_beginAgain_5 : decode cX1_beginAgain 5 = .ok (.iconst 1, 1) := by decide +kernel
theorem dX1_beginAgain_6 : decode cX1_beginAgain 6 = .ok (.iadd, 1) := by decide +kernel
theorem dX1_beginAgain_7 : decode cX1_beginAgain 7 = .ok (.putfield 18, 3) := by decide +kernel
theorem dX1_beginAgain_10 : decode cX1_beginAgain 10 = .ok (.aload_n 0, 1) := by decide +kernel
theorem dX1_beginAgain_11 : decode cX1_beginAgain 11 = .ok (.iconst (-1), 1) := by decide +kernel
theorem dX1_beginAgain_12 : decode cX1_beginAgain 12 = .ok (.invokevirtual 95, 3) := by decide +kernel
theorem dX1_beginAgain_15 : decode cX1_beginAgain 15 = .ok (.return_, 1) := by decide +kernel
theorem dX1_shareOf_0 : decode cX1_shareOf 0 = .ok (.iload_n 1, 1) := by decide +kernel
theorem dX1_shareOf_1 : decode cX1_shareOf 1 = .ok (.ifCond .lt 19, 3) := by decide +kernel
theorem dX1_shareOf_4 : decode cX1_shareOf 4 = .ok (.iload_n 1, 1) := by decide +kernel
theorem dX1_shareOf_5 : decode cX1_shareOf 5 = .ok (.sipush 144, 3) := by decide +kernel
theorem dX1_shareOf_8 : decode cX1_shareOf 8 = .ok (.if_icmp .ge 12, 3) := by decide +kernel
theorem dX1_shareOf_11 : decode cX1_shareOf 11 = .ok (.aload_n 0, 1) := by decide +kernel
theorem dX1_shareOf_12 : decode cX1_shareOf 12 = .ok (.getfield 9, 3) := by decide +kernel
theorem dX1_shareOf_15 : decode cX1_shareOf 15 = .ok (.iload_n 1, 1) := by decide +kernel
theorem dX1_shareOf_16 : decode cX1_shareOf 16 = .ok (.laload, 1) := by decide +kernel
theorem dX1_shareOf_17 : decode cX1_shareOf 17 = .ok (.goto 4, 3) := by decide +kernel
theorem dX1_shareOf_20 : decode cX1_shareOf 20 = .ok (.lconst 0, 1) := by decide +kernel
theorem dX1_shareOf_21 : decode cX1_shareOf 21 = .ok (.lreturn, 1) := by decide +kernel
theorem dX1_total_0 : decode cX1_total 0 = .ok (.lconst 0, 1) := by decide +kernel
theorem dX1_total_1 : decode cX1_total 1 = .ok (.lstore_n 1, 1) := by decide +kernel
theorem dX1_total_2 : decode cX1_total 2 = .ok (.iconst 0, 1) := by decide +kernel
theorem dX1_total_3 : decode cX1_total 3 = .ok (.istore_n 3, 1) := by decide +kernel
theorem dX1_total_4 : decode cX1_total 4 = .ok (.iload_n 3, 1) := by decide +kernel
theorem dX1_total_5 : decode cX1_total 5 = .ok (.sipush 144, 3) := by decide +kernel
theorem dX1_total_8 : decode cX1_total 8 = .ok (.if_icmp .ge 18, 3) := by decide +kernel
theorem dX1_total_11 : decode cX1_total 11 = .ok (.lload_n 1, 1) := by decide +kernel
theorem dX1_total_12 : decode cX1_total 12 = .ok (.aload_n 0, 1) := by decide +kernel
theorem dX1_total_13 : decode cX1_total 13 = .ok (.getfield 9, 3) := by decide +kernel
theorem dX1_total_16 : decode cX1_total 16 = .ok (.iload_n 3, 1) := by decide +kernel
theorem dX1_total_17 : decode cX1_total 17 = .ok (.laload, 1) := by decide +kernel
theorem dX1_total_18 : decode cX1_total 18 = .ok (.ladd, 1) := by decide +kernel
theorem dX1_total_19 : decode cX1_total 19 = .ok (.lstore_n 1, 1) := by decide +kernel
theorem dX1_total_20 : decode cX1_total 20 = .ok (.iinc 3 1, 3) := by decide +kernel
theorem dX1_total_23 : decode cX1_total 23 = .ok (.goto (-19), 3) := by decide +kernel
theorem dX1_total_26 : decode cX1_total 26 = .ok (.lload_n 1, 1) := by decide +kernel
theorem dX1_total_27 : decode cX1_total 27 = .ok (.lreturn, 1) := by decide +kernel
theorem dX1_holders_0 : decode cX1_holders 0 = .ok (.iconst 0, 1) := by decide +kernel
theorem dX1_holders_1 : decode cX1_holders 1 = .ok (.istore_n 1, 1) := by decide +kernel
theorem dX1_holders_2 : decode cX1_holders 2 = .ok (.iconst 0, 1) := by decide +kernel
theorem dX1_holders_3 : decode cX1_holders 3 = .ok (.istore_n 2, 1) := by decide +kernel
theorem dX1_holders_4 : decode cX1_holders 4 = .ok (.iload_n 2, 1) := by decide +kernel
theorem dX1_holders_5 : decode cX1_holders 5 = .ok (.sipush 144, 3) := by decide +kernel
theorem dX1_holders_8 : decode cX1_holders 8 = .ok (.if_icmp .ge 23, 3) := by decide +kernel
theorem dX1_holders_11 : decode cX1_holders 11 = .ok (.aload_n 0, 1) := by decide +kernel
theorem dX1_holders_12 : decode cX1_holders 12 = .ok (.getfield 9, 3) := by decide +kernel
theorem dX1_holders_15 : decode cX1_holders 15 = .ok (.iload_n 2, 1) := by decide +kernel
theorem dX1_holders_16 : decode cX1_holders 16 = .ok (.laload, 1) := by decide +kernel
theorem dX1_holders_17 : decode cX1_holders 17 = .ok (.lconst 0, 1) := by decide +kernel
theorem dX1_holders_18 : decode cX1_holders 18 = .ok (.lcmp, 1) := by decide +kernel
theorem dX1_holders_19 : decode cX1_holders 19 = .ok (.ifCond .le 6, 3) := by decide +kernel
theorem dX1_holders_22 : decode cX1_holders 22 = .ok (.iinc 1 1, 3) := by decide +kernel
theorem dX1_holders_25 : decode cX1_holders 25 = .ok (.iinc 2 1, 3) := by decide +kernel
theorem dX1_holders_28 : decode cX1_holders 28 = .ok (.goto (-24), 3) := by decide +kernel
theorem dX1_holders_31 : decode cX1_holders 31 = .ok (.iload_n 1, 1) := by decide +kernel
theorem dX1_holders_32 : decode cX1_holders 32 = .ok (.ireturn, 1) := by decide +kernel
theorem dX1_likeliest_0 : decode cX1_likeliest 0 = .ok (.iconst 0, 1) := by decide +kernel
theorem dX1_likeliest_1 : decode cX1_likeliest 1 = .ok (.istore_n 1, 1) := by decide +kernel
theorem dX1_likeliest_2 : decode cX1_likeliest 2 = .ok (.iconst 1, 1) := by decide +kernel
theorem dX1_likeliest_3 : decode cX1_likeliest 3 = .ok (.istore_n 2, 1) := by decide +kernel
theorem dX1_likeliest_4 : decode cX1_likeliest 4 = .ok (.iload_n 2, 1) := by decide +kernel
theorem dX1_likeliest_5 : decode cX1_likeliest 5 = .ok (.sipush 144, 3) := by decide +kernel
theorem dX1_likeliest_8 : decode cX1_likeliest 8 = .ok (.if_icmp .ge 27, 3) := by decide +kernel
theorem dX1_likeliest_11 : decode cX1_likeliest 11 = .ok (.aload_n 0, 1) := by decide +kernel
theorem dX1_likeliest_12 : decode cX1_likeliest 12 = .ok (.getfield 9, 3) := by decide +kernel
theorem dX1_likeliest_15 : decode cX1_likeliest 15 = .ok (.iload_n 2, 1) := by decide +kernel
theorem dX1_likeliest_16 : decode cX1_likeliest 16 = .ok (.laload, 1) := by decide +kernel
theorem dX1_likeliest_17 : decode cX1_likeliest 17 = .ok (.aload_n 0, 1) := by decide +kernel
theorem dX1_likeliest_18 : decode cX1_likeliest 18 = .ok (.getfield 9, 3) := by decide +kernel
theorem dX1_likeliest_21 : decode cX1_likeliest 21 = .ok (.iload_n 1, 1) := by decide +kernel
theorem dX1_likeliest_22 : decode cX1_likeliest 22 = .ok (.laload, 1) := by decide +kernel
theorem dX1_likeliest_23 : decode cX1_likeliest 23 = .ok (.lcmp, 1) := by decide +kernel
theorem dX1_likeliest_24 : decode cX1_likeliest 24 = .ok (.ifCond .le 5, 3) := by decide +kernel
theorem dX1_likeliest_27 : decode cX1_likeliest 27 = .ok (.iload_n 2, 1) := by decide +kernel
theorem dX1_likeliest_28 : decode cX1_likeliest 28 = .ok (.istore_n 1, 1) := by decide +kernel
theorem dX1_likeliest_29 : decode cX1_likeliest 29 = .ok (.iinc 2 1, 3) := by decide +kernel
theorem dX1_likeliest_32 : decode cX1_likeliest 32 = .ok (.goto (-28), 3) := by decide +kernel
theorem dX1_likeliest_35 : decode cX1_likeliest 35 = .ok (.iload_n 1, 1) := by decide +kernel
theorem dX1_likeliest_36 : decode cX1_likeliest 36 = .ok (.ireturn, 1) := by decide +kernel
theorem dX1_edge_0 : decode cX1_edge 0 = .ok (.iload_n 1, 1) := by decide +kernel
theorem dX1_edge_1 : decode cX1_edge 1 = .ok (.ifCond .lt 8, 3) := by decide +kernel
theorem dX1_edge_4 : decode cX1_edge 4 = .ok (.iload_n 1, 1) := by decide +kernel
theorem dX1_edge_5 : decode cX1_edge 5 = .ok (.iconst 3, 1) := by decide +kernel
theorem dX1_edge_6 : decode cX1_edge 6 = .ok (.if_icmp .le 5, 3) := by decide +kernel
theorem dX1_edge_9 : decode cX1_edge 9 = .ok (.iconst (-1), 1) := by decide +kernel
theorem dX1_edge_10 : decode cX1_edge 10 = .ok (.ireturn, 1) := by decide +kernel
theorem dX1_edge_11 : decode cX1_edge 11 = .ok (.iload_n 1, 1) := by decide +kernel
theorem dX1_edge_12 : decode cX1_edge 12 = .ok (.iconst 1, 1) := by decide +kernel
theorem dX1_edge_13 : decode cX1_edge 13 = .ok (.if_icmp .eq 8, 3) := by decide +kernel
theorem dX1_edge_16 : decode cX1_edge 16 = .ok (.iload_n 1, 1) := by decide +kernel
theorem dX1_edge_17 : decode cX1_edge 17 = .ok (.iconst 3, 1) := by decide +kernel
theorem dX1_edge_18 : decode cX1_edge 18 = .ok (.if_icmp .ne 7, 3) := by decide +kernel
theorem dX1_edge_21 : decode cX1_edge 21 = .ok (.iconst 1, 1) := by decide +kernel
theorem dX1_edge_22 : decode cX1_edge 22 = .ok (.goto 4, 3) := by decide +kernel
theorem dX1_edge_25 : decode cX1_edge 25 = .ok (.iconst 0, 1) := by decide +kernel
theorem dX1_edge_26 : decode cX1_edge 26 = .ok (.istore_n 2, 1) := by decide +kernel
theorem dX1_edge_27 : decode cX1_edge 27 = .ok (.iconst (-1), 1) := by decide +kernel
theorem dX1_edge_28 : decode cX1_edge 28 = .ok (.istore_n 3, 1) := by decide +kernel
theorem dX1_edge_29 : decode cX1_edge 29 = .ok (.iconst 0, 1) := by decide +kernel
theorem dX1_edge_30 : decode cX1_edge 30 = .ok (.istore 4, 2) := by decide +kernel
theorem dX1_edge_32 : decode cX1_edge 32 = .ok (.iload 4, 2) := by decide +kernel
theorem dX1_edge_34 : decode cX1_edge 34 = .ok (.aload_n 0, 1) := by decide +kernel
theorem dX1_edge_35 : decode cX1_edge 35 = .ok (.getfield 22, 3) := by decide +kernel
theorem dX1_edge_38 : decode cX1_edge 38 = .ok (.invokevirtual 49, 3) := by decide +kernel
theorem dX1_edge_41 : decode cX1_edge 41 = .ok (.if_icmp .ge 95, 3) := by decide +kernel
theorem dX1_edge_44 : decode cX1_edge 44 = .ok (.iconst 0, 1) := by decide +kernel
theorem dX1_edge_45 : decode cX1_edge 45 = .ok (.istore 5, 2) := by decide +kernel
theorem dX1_edge_47 : decode cX1_edge 47 = .ok (.iload 5, 2) := by decide +kernel
theorem dX1_edge_49 : decode cX1_edge 49 = .ok (.aload_n 0, 1) := by decide +kernel
theorem dX1_edge_50 : decode cX1_edge 50 = .ok (.getfield 22, 3) := by decide +kernel
theorem dX1_edge_53 : decode cX1_edge 53 = .ok (.invokevirtual 53, 3) := by decide +kernel
theorem dX1_edge_56 : decode cX1_edge 56 = .ok (.if_icmp .ge 74, 3) := by decide +kernel
theorem dX1_edge_59 : decode cX1_edge 59 = .ok (.aload_n 0, 1) := by decide +kernel
theorem dX1_edge_60 : decode cX1_edge 60 = .ok (.aload_n 0, 1) := by decide +kernel
theorem dX1_edge_61 : decode cX1_edge 61 = .ok (.getfield 22, 3) := by decide +kernel
theorem dX1_edge_64 : decode cX1_edge 64 = .ok (.iload 5, 2) := by decide +kernel
theorem dX1_edge_66 : decode cX1_edge 66 = .ok (.iload 4, 2) := by decide +kernel
theorem dX1_edge_68 : decode cX1_edge 68 = .ok (.invokevirtual 56, 3) := by decide +kernel
theorem dX1_edge_71 : decode cX1_edge 71 = .ok (.invokevirtual 60, 3) := by decide +kernel
theorem dX1_edge_74 : decode cX1_edge 74 = .ok (.lconst 0, 1) := by decide +kernel
theorem dX1_edge_75 : decode cX1_edge 75 = .ok (.lcmp, 1) := by decide +kernel
theorem dX1_edge_76 : decode cX1_edge 76 = .ok (.ifCond .le 48, 3) := by decide +kernel
theorem dX1_edge_79 : decode cX1_edge 79 = .ok (.iload_n 1, 1) := by decide +kernel
theorem dX1_edge_80 : decode cX1_edge 80 = .ok (.iconst 2, 1) := by decide +kernel
theorem dX1_edge_81 : decode cX1_edge 81 = .ok (.if_icmp .ge 8, 3) := by decide +kernel
theorem dX1_edge_84 : decode cX1_edge 84 = .ok (.iload 5, 2) := by decide +kernel
theorem dX1_edge_86 : decode cX1_edge 86 = .ok (.goto 5, 3) := by decide +kernel
theorem dX1_edge_89 : decode cX1_edge 89 = .ok (.iload 4, 2) := by decide +kernel
theorem dX1_edge_91 : decode cX1_edge 91 = .ok (.istore 6, 2) := by decide +kernel
theorem dX1_edge_93 : decode cX1_edge 93 = .ok (.iload_n 3, 1) := by decide +kernel
theorem dX1_edge_94 : decode cX1_edge 94 = .ok (.iconst (-1), 1) := by decide +kernel
theorem dX1_edge_95 : decode cX1_edge 95 = .ok (.if_icmp .eq 22, 3) := by decide +kernel
theorem dX1_edge_98 : decode cX1_edge 98 = .ok (.iload_n 2, 1) := by decide +kernel
theorem dX1_edge_99 : decode cX1_edge 99 = .ok (.ifCond .eq 12, 3) := by decide +kernel
theorem dX1_edge_102 : decode cX1_edge 102 = .ok (.iload 6, 2) := by decide +kernel
theorem dX1_edge_104 : decode cX1_edge 104 = .ok (.iload_n 3, 1) := by decide +kernel
theorem dX1_edge_105 : decode cX1_edge 105 = .ok (.if_icmp .le 17, 3) := by decide +kernel
theorem dX1_edge_108 : decode cX1_edge 108 = .ok (.goto 9, 3) := by decide +kernel
theorem dX1_edge_111 : decode cX1_edge 111 = .ok (.iload 6, 2) := by decide +kernel
theorem dX1_edge_113 : decode cX1_edge 113 = .ok (.iload_n 3, 1) := by decide +kernel
theorem dX1_edge_114 : decode cX1_edge 114 = .ok (.if_icmp .ge 8, 3) := by decide +kernel
theorem dX1_edge_117 : decode cX1_edge 117 = .ok (.iload 6, 2) := by decide +kernel
theorem dX1_edge_119 : decode cX1_edge 119 = .ok (.goto 4, 3) := by decide +kernel
theorem dX1_edge_122 : decode cX1_edge 122 = .ok (.iload_n 3, 1) := by decide +kernel
theorem dX1_edge_123 : decode cX1_edge 123 = .ok (.istore_n 3, 1) := by decide +kernel
theorem dX1_edge_124 : decode cX1_edge 124 = .ok (.iinc 5 1, 3) := by decide +kernel
theorem dX1_edge_127 : decode cX1_edge 127 = .ok (.goto (-80), 3) := by decide +kernel
theorem dX1_edge_130 : decode cX1_edge 130 = .ok (.iinc 4 1, 3) := by decide +kernel
theorem dX1_edge_133 : decode cX1_edge 133 = .ok (.goto (-101), 3) := by decide +kernel
theorem dX1_edge_136 : decode cX1_edge 136 = .ok (.iload_n 3, 1) := by decide +kernel
theorem dX1_edge_137 : decode cX1_edge 137 = .ok (.ireturn, 1) := by decide +kernel
theorem dX2_init_0 : decode cX2_init 0 = .ok (.aload_n 0, 1) := by decide +kernel
theorem dX2_init_1 : decode cX2_init 1 = .ok (.invokespecial 3, 3) := by decide +kernel
theorem dX2_init_4 : decode cX2_init 4 = .ok (.aload_n 0, 1) := by decide +kernel
theorem dX2_init_5 : decode cX2_init 5 = .ok (.iconst 0, 1) := by decide +kernel
theorem dX2_init_6 : decode cX2_init 6 = .ok (.putfield 9, 3) := by decide +kernel
theorem dX2_init_9 : decode cX2_init 9 = .ok (.aload_n 0, 1) := by decide +kernel
theorem dX2_init_10 : decode cX2_init 10 = .ok (.iconst 1, 1) := by decide +kernel
theorem dX2_init_11 : decode cX2_init 11 = .ok (.putfield 15, 3) := by decide +kernel
theorem dX2_init_14 : decode cX2_init 14 = .ok (.aload_n 0, 1) := by decide +kernel
theorem dX2_init_15 : decode cX2_init 15 = .ok (.iconst 0, 1) := by decide +kernel
theorem dX2_init_16 : decode cX2_init 16 = .ok (.putfield 18, 3) := by decide +kernel
theorem dX2_init_19 : decode cX2_init 19 = .ok (.return_, 1) := by decide +kernel
theorem dX2_err_0 : decode cX2_err 0 = .ok (.aload_n 0, 1) := by decide +kernel
theorem dX2_err_1 : decode cX2_err 1 = .ok (.getfield 9, 3) := by decide +kernel
theorem dX2_err_4 : decode cX2_err 4 = .ok (.ireturn, 1) := by decide +kernel
theorem dX2_set_0 : decode cX2_set 0 = .ok (.iload_n 1, 1) := by decide +kernel
theorem dX2_set_1 : decode cX2_set 1 = .ok (.ifCond .lt 28, 3) := by decide +kernel
theorem dX2_set_4 : decode cX2_set 4 = .ok (.iload_n 1, 1) := by decide +kernel
theorem dX2_set_5 : decode cX2_set 5 = .ok (.bipush 20, 2) := by decide +kernel
theorem dX2_set_7 : decode cX2_set 7 = .ok (.if_icmp .gt 22, 3) := by decide +kernel
theorem dX2_set_10 : decode cX2_set 10 = .ok (.iload_n 2, 1) := by decide +kernel
theorem dX2_set_11 : decode cX2_set 11 = .ok (.iconst 1, 1) := by decide +kernel
theorem dX2_set_12 : decode cX2_set 12 = .ok (.if_icmp .lt 17, 3) := by decide +kernel
theorem dX2_set_15 : decode cX2_set 15 = .ok (.iload_n 2, 1) := by decide +kernel
theorem dX2_set_16 : decode cX2_set 16 = .ok (.iconst 3, 1) := by decide +kernel
theorem dX2_set_17 : decode cX2_set 17 = .ok (.if_icmp .gt 12, 3) := by decide +kernel
theorem dX2_set_20 : decode cX2_set 20 = .ok (.iload_n 3, 1) := by decide +kernel
theorem dX2_set_21 : decode cX2_set 21 = .ok (.ifCond .lt 8, 3) := by decide +kernel
theorem dX2_set_24 : decode cX2_set 24 = .ok (.iload_n 3, 1) := by decide +kernel
theorem dX2_set_25 : decode cX2_set 25 = .ok (.iconst 1, 1) := by decide +kernel
theorem dX2_set_26 : decode cX2_set 26 = .ok (.if_icmp .le 5, 3) := by decide +kernel
theorem dX2_set_29 : decode cX2_set 29 = .ok (.iconst 0, 1) := by decide +kernel
theorem dX2_set_30 : decode cX2_set 30 = .ok (.ireturn, 1) := by decide +kernel
theorem dX2_set_31 : decode cX2_set 31 = .ok (.aload_n 0, 1) := by decide +kernel
theorem dX2_set_32 : decode cX2_set 32 = .ok (.iload_n 1, 1) := by decide +kernel
theorem dX2_set_33 : decode cX2_set 33 = .ok (.putfield 9, 3) := by decide +kernel
theorem dX2_set_36 : decode cX2_set 36 = .ok (.aload_n 0, 1) := by decide +kernel
theorem dX2_set_37 : decode cX2_set 37 = .ok (.iload_n 2, 1) := by decide +kernel
theorem dX2_set_38 : decode cX2_set 38 = .ok (.putfield 15, 3) := by decide +kernel
theorem dX2_set_41 : decode cX2_set 41 = .ok (.aload_n 0, 1) := by decide +kernel
theorem dX2_set_42 : decode cX2_set 42 = .ok (.iload_n 3, 1) := by decide +kernel
theorem dX2_set_43 : decode cX2_set 43 = .ok (.putfield 18, 3) := by decide +kernel
theorem dX2_set_46 : decode cX2_set 46 = .ok (.iconst 1, 1) := by decide +kernel
theorem dX2_set_47 : decode cX2_set 47 = .ok (.ireturn, 1) := by decide +kernel
theorem dX2_weight_0 : decode cX2_weight 0 = .ok (.iload_n 1, 1) := by decide +kernel
theorem dX2_weight_1 : decode cX2_weight 1 = .ok (.ifCond .ne 10, 3) := by decide +kernel
theorem dX2_weight_4 : decode cX2_weight 4 = .ok (.aload_n 0, 1) := by decide +kernel
theorem dX2_weight_5 : decode cX2_weight 5 = .ok (.getfield 15, 3) := by decide +kernel
theorem dX2_weight_8 : decode cX2_weight 8 = .ok (.goto 7, 3) := by decide +kernel
theorem dX2_weight_11 : decode cX2_weight 11 = .ok (.aload_n 0, 1) := by decide +kernel
theorem dX2_weight_12 : decode cX2_weight 12 = .ok (.getfield 18, 3) := by decide +kernel
theorem dX2_weight_15 : decode cX2_weight 15 = .ok (.iload_n 2, 1) := by decide +kernel
theorem dX2_weight_16 : decode cX2_weight 16 = .ok (.ifCond .ne 10, 3) := by decide +kernel
theorem dX2_weight_19 : decode cX2_weight 19 = .ok (.aload_n 0, 1) := by decide +kernel
theorem dX2_weight_20 : decode cX2_weight 20 = .ok (.getfield 15, 3) := by decide +kernel
theorem dX2_weight_23 : decode cX2_weight 23 = .ok (.goto 7, 3) := by decide +kernel
theorem dX2_weight_26 : decode cX2_weight 26 = .ok (.aload_n 0, 1) := by decide +kernel
theorem dX2_weight_27 : decode cX2_weight 27 = .ok (.getfield 18, 3) := by decide +kernel
theorem dX2_weight_30 : decode cX2_weight 30 = .ok (.imul, 1) := by decide +kernel
theorem dX2_weight_31 : decode cX2_weight 31 = .ok (.ireturn, 1) := by decide +kernel
theorem dX2_fits_0 : decode cX2_fits 0 = .ok (.iload_n 2, 1) := by decide +kernel
theorem dX2_fits_1 : decode cX2_fits 1 = .ok (.iconst (-1), 1) := by decide +kernel
theorem dX2_fits_2 : decode cX2_fits 2 = .ok (.if_icmp .eq 16, 3) := by decide +kernel
theorem dX2_fits_5 : decode cX2_fits 5 = .ok (.iload_n 2, 1) := by decide +kernel
theorem dX2_fits_6 : decode cX2_fits 6 = .ok (.iload_n 1, 1) := by decide +kernel
theorem dX2_fits_7 : decode cX2_fits 7 = .ok (.isub, 1) := by decide +kernel
theorem dX2_fits_8 : decode cX2_fits 8 = .ok (.invokestatic 21, 3) := by decide +kernel
theorem dX2_fits_11 : decode cX2_fits 11 = .ok (.aload_n 0, 1) := by decide +kernel
theorem dX2_fits_12 : decode cX2_fits 12 = .ok (.getfield 9, 3) := by decide +kernel
theorem dX2_fits_15 : decode cX2_fits 15 = .ok (.if_icmp .gt 7, 3) := by decide +kernel
theorem dX2_fits_18 : decode cX2_fits 18 = .ok (.iconst 1, 1) := by decide +kernel
theorem dX2_fits_19 : decode cX2_fits 19 = .ok (.goto 4, 3) := by decide +kernel
theorem dX2_fits_22 : decode cX2_fits 22 = .ok (.iconst 0, 1) := by decide +kernel
theorem dX2_fits_23 : decode cX2_fits 23 = .ok (.ireturn, 1) := by decide +kernel
theorem dX2_alike_0 : decode cX2_alike 0 = .ok (.iload_n 1, 1) := by decide +kernel
theorem dX2_alike_1 : decode cX2_alike 1 = .ok (.iconst (-1), 1) := by decide +kernel
theorem dX2_alike_2 : decode cX2_alike 2 = .ok (.if_icmp .eq 23, 3) := by decide +kernel
theorem dX2_alike_5 : decode cX2_alike 5 = .ok (.iload_n 2, 1) := by decide +kernel
theorem dX2_alike_6 : decode cX2_alike 6 = .ok (.iconst (-1), 1) := by decide +kernel
theorem dX2_alike_7 : decode cX2_alike 7 = .ok (.if_icmp .eq 18, 3) := by decide +kernel
theorem dX2_alike_10 : decode cX2_alike 10 = .ok (.iload_n 1, 1) := by decide +kernel
theorem dX2_alike_11 : decode cX2_alike 11 = .ok (.iload_n 2, 1) := by decide +kernel
theorem dX2_alike_12 : decode cX2_alike 12 = .ok (.isub, 1) := by decide +kernel
theorem dX2_alike_13 : decode cX2_alike 13 = .ok (.invokestatic 21, 3) := by decide +kernel
theorem dX2_alike_16 : decode cX2_alike 16 = .ok (.iconst 2, 1) := by decide +kernel
theorem dX2_alike_17 : decode cX2_alike 17 = .ok (.aload_n 0, 1) := by decide +kernel
theorem dX2_alike_18 : decode cX2_alike 18 = .ok (.getfield 9, 3) := by decide +kernel
theorem dX2_alike_21 : decode cX2_alike 21 = .ok (.imul, 1) := by decide +kernel
theorem dX2_alike_22 : decode cX2_alike 22 = .ok (.if_icmp .gt 7, 3) := by decide +kernel
theorem dX2_alike_25 : decode cX2_alike 25 = .ok (.iconst 1, 1) := by decide +kernel
theorem dX2_alike_26 : decode cX2_alike 26 = .ok (.goto 4, 3) := by decide +kernel
theorem dX2_alike_29 : decode cX2_alike 29 = .ok (.iconst 0, 1) := by decide +kernel
theorem dX2_alike_30 : decode cX2_alike 30 = .ok (.ireturn, 1) := by decide +kernel
theorem dX3_init_0 : decode cX3_init 0 = .ok (.aload_n 0, 1) := by decide +kernel
theorem dX3_init_1 : decode cX3_init 1 = .ok (.invokespecial 3, 3) := by decide +kernel
theorem dX3_init_4 : decode cX3_init 4 = .ok (.aload_n 0, 1) := by decide +kernel
theorem dX3_init_5 : decode cX3_init 5 = .ok (.sipush 144, 3) := by decide +kernel
theorem dX3_init_8 : decode cX3_init 8 = .ok (.newarray .int, 2) := by decide +kernel
theorem dX3_init_10 : decode cX3_init 10 = .ok (.putfield 9, 3) := by decide +kernel
theorem dX3_init_13 : decode cX3_init 13 = .ok (.aload_n 0, 1) := by decide +kernel
theorem dX3_init_14 : decode cX3_init 14 = .ok (.iconst 2, 1) := by decide +kernel
theorem dX3_init_15 : decode cX3_init 15 = .ok (.putfield 15, 3) := by decide +kernel
theorem dX3_init_18 : decode cX3_init 18 = .ok (.aload_n 0, 1) := by decide +kernel
theorem dX3_init_19 : decode cX3_init 19 = .ok (.iconst 2, 1) := by decide +kernel
theorem dX3_init_20 : decode cX3_init 20 = .ok (.putfield 19, 3) := by decide +kernel
theorem dX3_init_23 : decode cX3_init 23 = .ok (.iconst 0, 1) := by decide +kernel
theorem dX3_init_24 : decode cX3_init 24 = .ok (.istore_n 1, 1) := by decide +kernel
theorem dX3_init_25 : decode cX3_init 25 = .ok (.iload_n 1, 1) := by decide +kernel
theorem dX3_init_26 : decode cX3_init 26 = .ok (.sipush 144, 3) := by decide +kernel
theorem dX3_init_29 : decode cX3_init 29 = .ok (.if_icmp .ge 16, 3) := by decide +kernel
theorem dX3_init_32 : decode cX3_init 32 = .ok (.aload_n 0, 1) := by decide +kernel
theorem dX3_init_33 : decode cX3_init 33 = .ok (.getfield 9, 3) := by decide +kernel
theorem dX3_init_36 : decode cX3_init 36 = .ok (.iload_n 1, 1) := by decide +kernel
theorem dX3_init_37 : decode cX3_init 37 = .ok (.iconst (-1), 1) := by decide +kernel
theorem dX3_init_38 : decode cX3_init 38 = .ok (.iastore, 1) := by decide +kernel
theorem dX3_init_39 : decode cX3_init 39 = .ok (.iinc 1 1, 3) := by decide +kernel
theorem dX3_init_42 : decode cX3_init 42 = .ok (.goto (-17), 3) := by decide +kernel
theorem dX3_init_45 : decode cX3_init 45 = .ok (.return_, 1) := by decide +kernel
theorem dX3_width_0 : decode cX3_width 0 = .ok (.aload_n 0, 1) := by decide +kernel
theorem dX3_width_1 : decode cX3_width 1 = .ok (.getfield 15, 3) := by decide +kernel
theorem dX3_width_4 : decode cX3_width 4 = .ok (.ireturn, 1) := by decide +kernel
theorem dX3_depth_0 : decode cX3_depth 0 = .ok (.aload_n 0, 1) := by decide +kernel
theorem dX3_depth_1 : decode cX3_depth 1 = .ok (.getfield 19, 3) := by decide +kernel
theorem dX3_depth_4 : decode cX3_depth 4 = .ok (.ireturn, 1) := by decide +kernel
theorem dX3_cells_0 : decode cX3_cells 0 = .ok (.aload_n 0, 1) := by decide +kernel
theorem dX3_cells_1 : decode cX3_cells 1 = .ok (.getfield 15, 3) := by decide +kernel
theorem dX3_cells_4 : decode cX3_cells 4 = .ok (.aload_n 0, 1) := by decide +kernel
theorem dX3_cells_5 : decode cX3_cells 5 = .ok (.getfield 19, 3) := by decide +kernel
theorem dX3_cells_8 : decode cX3_cells 8 = .ok (.imul, 1) := by decide +kernel
theorem dX3_cells_9 : decode cX3_cells 9 = .ok (.ireturn, 1) := by decide +kernel
theorem dX3_has_0 : decode cX3_has 0 = .ok (.iload_n 1, 1) := by decide +kernel
theorem dX3_has_1 : decode cX3_has 1 = .ok (.ifCond .lt 15, 3) := by decide +kernel
theorem dX3_has_4 : decode cX3_has 4 = .ok (.iload_n 1, 1) := by decide +kernel
theorem dX3_has_5 : decode cX3_has 5 = .ok (.aload_n 0, 1) := by decide +kernel
theorem dX3_has_6 : decode cX3_has 6 = .ok (.invokevirtual 22, 3) := by decide +kernel
theorem dX3_has_9 : decode cX3_has 9 = .ok (.if_icmp .ge 7, 3) := by decide +kernel
theorem dX3_has_12 : decode cX3_has 12 = .ok (.iconst 1, 1) := by decide +kernel
theorem dX3_has_13 : decode cX3_has 13 = .ok (.goto 4, 3) := by decide +kernel
theorem dX3_has_16 : decode cX3_has 16 = .ok (.iconst 0, 1) := by decide +kernel
theorem dX3_has_17 : decode cX3_has 17 = .ok (.ireturn, 1) := by decide +kernel
theorem dX3_cellAt_0 : decode cX3_cellAt 0 = .ok (.iload_n 1, 1) := by decide +kernel
theorem dX3_cellAt_1 : decode cX3_cellAt 1 = .ok (.ifCond .lt 34, 3) := by decide +kernel
theorem dX3_cellAt_4 : decode cX3_cellAt 4 = .ok (.iload_n 1, 1) := by decide +kernel
theorem dX3_cellAt_5 : decode cX3_cellAt 5 = .ok (.aload_n 0, 1) := by decide +kernel
theorem dX3_cellAt_6 : decode cX3_cellAt 6 = .ok (.getfield 15, 3) := by decide +kernel
theorem dX3_cellAt_9 : decode cX3_cellAt 9 = .ok (.if_icmp .ge 26, 3) := by decide +kernel
theorem dX3_cellAt_12 : decode cX3_cellAt 12 = .ok (.iload_n 2, 1) := by decide +kernel
theorem dX3_cellAt_13 : decode cX3_cellAt 13 = .ok (.ifCond .lt 22, 3) := by decide +kernel
theorem dX3_cellAt_16 : decode cX3_cellAt 16 = .ok (.iload_n 2, 1) := by decide +kernel
theorem dX3_cellAt_17 : decode cX3_cellAt 17 = .ok (.aload_n 0, 1) := by decide +kernel
theorem dX3_cellAt_18 : decode cX3_cellAt 18 = .ok (.getfield 19, 3) := by decide +kernel
theorem dX3_cellAt_21 : decode cX3_cellAt 21 = .ok (.if_icmp .ge 14, 3) := by decide +kernel
theorem dX3_cellAt_24 : decode cX3_cellAt 24 = .ok (.aload_n 0, 1) := by decide +kernel
theorem dX3_cellAt_25 : decode cX3_cellAt 25 = .ok (.getfield 15, 3) := by decide +kernel
theorem dX3_cellAt_28 : decode cX3_cellAt 28 = .ok (.iload_n 2, 1) := by decide +kernel
theorem dX3_cellAt_29 : decode cX3_cellAt 29 = .ok (.imul, 1) := by decide +kernel
theorem dX3_cellAt_30 : decode cX3_cellAt 30 = .ok (.iload_n 1, 1) := by decide +kernel
theorem dX3_cellAt_31 : decode cX3_cellAt 31 = .ok (.iadd, 1) := by decide +kernel
theorem dX3_cellAt_32 : decode cX3_cellAt 32 = .ok (.goto 4, 3) := by decide +kernel
theorem dX3_cellAt_35 : decode cX3_cellAt 35 = .ok (.iconst (-1), 1) := by decide +kernel
theorem dX3_cellAt_36 : decode cX3_cellAt 36 = .ok (.ireturn, 1) := by decide +kernel
theorem dX3_heightOf_0 : decode cX3_heightOf 0 = .ok (.aload_n 0, 1) := by decide +kernel
theorem dX3_heightOf_1 : decode cX3_heightOf 1 = .ok (.iload_n 1, 1) := by decide +kernel
theorem dX3_heightOf_2 : decode cX3_heightOf 2 = .ok (.invokevirtual 26, 3) := by decide +kernel
theorem dX3_heightOf_5 : decode cX3_heightOf 5 = .ok (.ifCond .eq 12, 3) := by decide +kernel
theorem dX3_heightOf_8 : decode cX3_heightOf 8 = .ok (.aload_n 0, 1) := by decide +kernel
theorem dX3_heightOf_9 : decode cX3_heightOf 9 = .ok (.getfield 9, 3) := by decide +kernel
theorem dX3_heightOf_12 : decode cX3_heightOf 12 = .ok (.iload_n 1, 1) := by decide +kernel
theorem dX3_heightOf_13 : decode cX3_heightOf 13 = .ok (.iaload, 1) := by decide +kernel
theorem dX3_heightOf_14 : decode cX3_heightOf 14 = .ok (.goto 4, 3) := by decide +kernel
theorem dX3_heightOf_17 : decode cX3_heightOf 17 = .ok (.iconst (-1), 1) := by decide +kernel
theorem dX3_heightOf_18 : decode cX3_heightOf 18 = .ok (.ireturn, 1) := by decide +kernel
theorem dX3_setHeight_0 : decode cX3_setHeight 0 = .ok (.aload_n 0, 1) := by decide +kernel
theorem dX3_setHeight_1 : decode cX3_setHeight 1 = .ok (.iload_n 1, 1) := by decide +kernel
theorem dX3_setHeight_2 : decode cX3_setHeight 2 = .ok (.invokevirtual 26, 3) := by decide +kernel
theorem dX3_setHeight_5 : decode cX3_setHeight 5 = .ok (.ifCond .eq 10, 3) := by decide +kernel
theorem dX3_setHeight_8 : decode cX3_setHeight 8 = .ok (.aload_n 0, 1) := by decide +kernel
theorem dX3_setHeight_9 : decode cX3_setHeight 9 = .ok (.getfield 9, 3) := by decide +kernel
theorem dX3_setHeight_12 : decode cX3_setHeight 12 = .ok (.iload_n 1, 1) := by decide +kernel
theorem dX3_setHeight_13 : decode cX3_setHeight 13 = .ok (.iload_n 2, 1) := by decide +kernel
theorem dX3_setHeight_14 : decode cX3_setHeight 14 = .ok (.iastore, 1) := by decide +kernel
theorem dX3_setHeight_15 : decode cX3_setHeight 15 = .ok (.return_, 1) := by decide +kernel
theorem dX3_tell_0 : decode cX3_tell 0 = .ok (.iload_n 1, 1) := by decide +kernel
theorem dX3_tell_1 : decode cX3_tell 1 = .ok (.invokestatic 30, 3) := by decide +kernel
theorem dX3_tell_4 : decode cX3_tell 4 = .ok (.ifCond .eq 27, 3) := by decide +kernel
theorem dX3_tell_7 : decode cX3_tell 7 = .ok (.iload_n 2, 1) := by decide +kernel
theorem dX3_tell_8 : decode cX3_tell 8 = .ok (.invokestatic 30, 3) := by decide +kernel
theorem dX3_tell_11 : decode cX3_tell 11 = .ok (.ifCond .eq 20, 3) := by decide +kernel
theorem dX3_tell_14 : decode cX3_tell 14 = .ok (.aload_n 3, 1) := by decide +kernel
theorem dX3_tell_15 : decode cX3_tell 15 = .ok (.invokevirtual 33, 3) := by decide +kernel
theorem dX3_tell_18 : decode cX3_tell 18 = .ok (.iload_n 1, 1) := by decide +kernel
theorem dX3_tell_19 : decode cX3_tell 19 = .ok (.iload_n 2, 1) := by decide +kernel
theorem dX3_tell_20 : decode cX3_tell 20 = .ok (.imul, 1) := by decide +kernel
theorem dX3_tell_21 : decode cX3_tell 21 = .ok (.if_icmp .ne 10, 3) := by decide +kernel
theorem dX3_tell_24 : decode cX3_tell 24 = .ok (.aload_n 3, 1) := by decide +kernel
theorem dX3_tell_25 : decode cX3_tell 25 = .ok (.invokestatic 38, 3) := by decide +kernel
theorem dX3_tell_28 : decode cX3_tell 28 = .ok (.ifCond .ne 5, 3) := by decide +kernel
theorem dX3_tell_31 : decode cX3_tell 31 = .ok (.iconst 0, 1) := by decide +kernel
theorem dX3_tell_32 : decode cX3_tell 32 = .ok (.ireturn, 1) := by decide +kernel
theorem dX3_tell_33 : decode cX3_tell 33 = .ok (.aload_n 0, 1) := by decide +kernel
theorem dX3_tell_34 : decode cX3_tell 34 = .ok (.iload_n 1, 1) := by decide +kernel
theorem dX3_tell_35 : decode cX3_tell 35 = .ok (.putfield 15, 3) := by decide +kernel
theorem dX3_tell_38 : decode cX3_tell 38 = .ok (.aload_n 0, 1) := by decide +kernel
theorem dX3_tell_39 : decode cX3_tell 39 = .ok (.iload_n 2, 1) := by decide +kernel
theorem dX3_tell_40 : decode cX3_tell 40 = .ok (.putfield 19, 3) := by decide +kernel
theorem dX3_tell_43 : decode cX3_tell 43 = .ok (.iconst 0, 1) := by decide +kernel
theorem dX3_tell_44 : decode cX3_tell 44 = .ok (.istore 4, 2) := by decide +kernel
theorem dX3_tell_46 : decode cX3_tell 46 = .ok (.iload 4, 2) := by decide +kernel
theorem dX3_tell_48 : decode cX3_tell 48 = .ok (.iload_n 1, 1) := by decide +kernel
theorem dX3_tell_49 : decode cX3_tell 49 = .ok (.iload_n 2, 1) := by decide +kernel
theorem dX3_tell_50 : decode cX3_tell 50 = .ok (.imul, 1) := by decide +kernel
theorem dX3_tell_51 : decode cX3_tell 51 = .ok (.if_icmp .ge 38, 3) := by decide +kernel
theorem dX3_tell_54 : decode cX3_tell 54 = .ok (.aload_n 3, 1) := by decide +kernel
theorem dX3_tell_55 : decode cX3_tell 55 = .ok (.iload 4, 2) := by decide +kernel
theorem dX3_tell_57 : decode cX3_tell 57 = .ok (.invokevirtual 42, 3) := by decide +kernel
theorem dX3_tell_60 : decode cX3_tell 60 = .ok (.istore 5, 2) := by decide +kernel
theorem dX3_tell_62 : decode cX3_tell 62 = .ok (.aload_n 0, 1) := by decide +kernel
theorem dX3_tell_63 : decode cX3_tell 63 = .ok (.getfield 9, 3) := by decide +kernel
theorem dX3_tell_66 : decode cX3_tell 66 = .ok (.iload 4, 2) := by decide +kernel
theorem dX3_tell_68 : decode cX3_tell 68 = .ok (.iload 5, 2) := by decide +kernel
theorem dX3_tell_70 : decode cX3_tell 70 = .ok (.sipush 255, 3) := by decide +kernel
theorem dX3_tell_73 : decode cX3_tell 73 = .ok (.if_icmp .ne 7, 3) := by decide +kernel
theorem dX3_tell_76 : decode cX3_tell 76 = .ok (.iconst (-1), 1) := by decide +kernel
theorem dX3_tell_77 : decode cX3_tell 77 = .ok (.goto 5, 3) := by decide +kernel
theorem dX3_tell_80 : decode cX3_tell 80 = .ok (.iload 5, 2) := by decide +kernel
theorem dX3_tell_82 : decode cX3_tell 82 = .ok (.iastore, 1) := by decide +kernel
theorem dX3_tell_83 : decode cX3_tell 83 = .ok (.iinc 4 1, 3) := by decide +kernel
theorem dX3_tell_86 : decode cX3_tell 86 = .ok (.goto (-40), 3) := by decide +kernel
theorem dX3_tell_89 : decode cX3_tell 89 = .ok (.iconst 1, 1) := by decide +kernel
theorem dX3_tell_90 : decode cX3_tell 90 = .ok (.ireturn, 1) := by decide +kernel
theorem dX3_isSide_0 : decode cX3_isSide 0 = .ok (.iload_n 0, 1) := by decide +kernel
theorem dX3_isSide_1 : decode cX3_isSide 1 = .ok (.iconst 2, 1) := by decide +kernel
theorem dX3_isSide_2 : decode cX3_isSide 2 = .ok (.if_icmp .lt 13, 3) := by decide +kernel
theorem dX3_isSide_5 : decode cX3_isSide 5 = .ok (.iload_n 0, 1) := by decide +kernel
theorem dX3_isSide_6 : decode cX3_isSide 6 = .ok (.bipush 12, 2) := by decide +kernel
theorem dX3_isSide_8 : decode cX3_isSide 8 = .ok (.if_icmp .gt 7, 3) := by decide +kernel
theorem dX3_isSide_11 : decode cX3_isSide 11 = .ok (.iconst 1, 1) := by decide +kernel
theorem dX3_isSide_12 : decode cX3_isSide 12 = .ok (.goto 4, 3) := by decide +kernel
theorem dX3_isSide_15 : decode cX3_isSide 15 = .ok (.iconst 0, 1) := by decide +kernel
theorem dX3_isSide_16 : decode cX3_isSide 16 = .ok (.ireturn, 1) := by decide +kernel
theorem dX3_allHeights_0 : decode cX3_allHeights 0 = .ok (.iconst 0, 1) := by decide +kernel
theorem dX3_allHeights_1 : decode cX3_allHeights 1 = .ok (.istore_n 1, 1) := by decide +kernel
theorem dX3_allHeights_2 : decode cX3_allHeights 2 = .ok (.iload_n 1, 1) := by decide +kernel
theorem dX3_allHeights_3 : decode cX3_allHeights 3 = .ok (.aload_n 0, 1) := by decide +kernel
theorem dX3_allHeights_4 : decode cX3_allHeights 4 = .ok (.invokevirtual 33, 3) := by decide +kernel
theorem dX3_allHeights_7 : decode cX3_allHeights 7 = .ok (.if_icmp .ge 31, 3) := by decide +kernel
theorem dX3_allHeights_10 : decode cX3_allHeights 10 = .ok (.aload_n 0, 1) := by decide +kernel
theorem dX3_allHeights_11 : decode cX3_allHeights 11 = .ok (.iload_n 1, 1) := by decide +kernel
theorem dX3_allHeights_12 : decode cX3_allHeights 12 = .ok (.invokevirtual 42, 3) := by decide +kernel
theorem dX3_allHeights_15 : decode cX3_allHeights 15 = .ok (.istore_n 2, 1) := by decide +kernel
theorem dX3_allHeights_16 : decode cX3_allHeights 16 = .ok (.iload_n 2, 1) := by decide +kernel
theorem dX3_allHeights_17 : decode cX3_allHeights 17 = .ok (.invokestatic 46, 3) := by decide +kernel
theorem dX3_allHeights_20 : decode cX3_allHeights 20 = .ok (.ifCond .ne 12, 3) := by decide +kernel
theorem dX3_allHeights_23 : decode cX3_allHeights 23 = .ok (.iload_n 2, 1) := by decide +kernel
theorem dX3_allHeights_24 : decode cX3_allHeights 24 = .ok (.sipush 255, 3) := by decide +kernel
theorem dX3_allHeights_27 : decode cX3_allHeights 27 = .ok (.if_icmp .eq 5, 3) := by decide +kernel
theorem dX3_allHeights_30 : decode cX3_allHeights 30 = .ok (.iconst 0, 1) := by decide +kernel
theorem dX3_allHeights_31 : decode cX3_allHeights 31 = .ok (.ireturn, 1) := by decide +kernel
theorem dX3_allHeights_32 : decode cX3_allHeights 32 = .ok (.iinc 1 1, 3) := by decide +kernel
theorem dX3_allHeights_35 : decode cX3_allHeights 35 = .ok (.goto (-33), 3) := by decide +kernel
theorem dX3_allHeights_38 : decode cX3_allHeights 38 = .ok (.iconst 1, 1) := by decide +kernel
theorem dX3_allHeights_39 : decode cX3_allHeights 39 = .ok (.ireturn, 1) := by decide +kernel
theorem dX4_init_0 : decode cX4_init 0 = .ok (.aload_n 0, 1) := by decide +kernel
theorem dX4_init_1 : decode cX4_init 1 = .ok (.invokespecial 3, 3) := by decide +kernel
theorem dX4_init_4 : decode cX4_init 4 = .ok (.aload_n 0, 1) := by decide +kernel
theorem dX4_init_5 : decode cX4_init 5 = .ok (.sipush 144, 3) := by decide +kernel
theorem dX4_init_8 : decode cX4_init 8 = .ok (.newarray .int, 2) := by decide +kernel
theorem dX4_init_10 : decode cX4_init 10 = .ok (.putfield 9, 3) := by decide +kernel
theorem dX4_init_13 : decode cX4_init 13 = .ok (.aload_n 0, 1) := by decide +kernel
theorem dX4_init_14 : decode cX4_init 14 = .ok (.sipush 144, 3) := by decide +kernel
theorem dX4_init_17 : decode cX4_init 17 = .ok (.newarray .long, 2) := by decide +kernel
theorem dX4_init_19 : decode cX4_init 19 = .ok (.putfield 15, 3) := by decide +kernel
theorem dX4_init_22 : decode cX4_init 22 = .ok (.aload_n 0, 1) := by decide +kernel
theorem dX4_init_23 : decode cX4_init 23 = .ok (.sipush 144, 3) := by decide +kernel
theorem dX4_init_26 : decode cX4_init 26 = .ok (.newarray .int, 2) := by decide +kernel
theorem dX4_init_28 : decode cX4_init 28 = .ok (.putfield 19, 3) := by decide +kernel
theorem dX4_init_31 : decode cX4_init 31 = .ok (.aload_n 0, 1) := by decide +kernel
theorem dX4_init_32 : decode cX4_init 32 = .ok (.sipush 144, 3) := by decide +kernel
theorem dX4_init_35 : decode cX4_init 35 = .ok (.newarray .long, 2) := by decide +kernel
theorem dX4_init_37 : decode cX4_init 37 = .ok (.putfield 22, 3) := by decide +kernel
theorem dX4_init_40 : decode cX4_init 40 = .ok (.aload_n 0, 1) := by decide +kernel
theorem dX4_init_41 : decode cX4_init 41 = .ok (.sipush 1728, 3) := by decide +kernel
theorem dX4_init_44 : decode cX4_init 44 = .ok (.newarray .int, 2) := by decide +kernel
theorem dX4_init_46 : decode cX4_init 46 = .ok (.putfield 25, 3) := by decide +kernel
theorem dX4_init_49 : decode cX4_init 49 = .ok (.aload_n 0, 1) := by decide +kernel
theorem dX4_init_50 : decode cX4_init 50 = .ok (.bipush 13, 2) := by decide +kernel
theorem dX4_init_52 : decode cX4_init 52 = .ok (.newarray .int, 2) := by decide +kernel
theorem dX4_init_54 : decode cX4_init 54 = .ok (.putfield 28, 3) := by decide +kernel
theorem dX4_init_57 : decode cX4_init 57 = .ok (.aload_n 0, 1) := by decide +kernel
theorem dX4_init_58 : decode cX4_init 58 = .ok (.iconst 0, 1) := by decide +kernel
theorem dX4_init_59 : decode cX4_init 59 = .ok (.putfield 31, 3) := by decide +kernel
theorem dX4_init_62 : decode cX4_init 62 = .ok (.aload_n 0, 1) := by decide +kernel
theorem dX4_init_63 : decode cX4_init 63 = .ok (.aload_n 1, 1) := by decide +kernel
theorem dX4_init_64 : decode cX4_init 64 = .ok (.putfield 35, 3) := by decide +kernel
theorem dX4_init_67 : decode cX4_init 67 = .ok (.aload_n 0, 1) := by decide +kernel
theorem dX4_init_68 : decode cX4_init 68 = .ok (.aload_n 2, 1) := by decide +kernel
theorem dX4_init_69 : decode cX4_init 69 = .ok (.putfield 39, 3) := by decide +kernel
theorem dX4_init_72 : decode cX4_init 72 = .ok (.aload_n 0, 1) := by decide +kernel
theorem dX4_init_73 : decode cX4_init 73 = .ok (.aload_n 3, 1) := by decide +kernel
theorem dX4_init_74 : decode cX4_init 74 = .ok (.putfield 43, 3) := by decide +kernel
theorem dX4_init_77 : decode cX4_init 77 = .ok (.return_, 1) := by decide +kernel
theorem dX4_cellOfPath_0 : decode cX4_cellOfPath 0 = .ok (.iload_n 1, 1) := by decide +kernel
theorem dX4_cellOfPath_1 : decode cX4_cellOfPath 1 = .ok (.ifCond .lt 29, 3) := by decide +kernel
theorem dX4_cellOfPath_4 : decode cX4_cellOfPath 4 = .ok (.iload_n 1, 1) := by decide +kernel
theorem dX4_cellOfPath_5 : decode cX4_cellOfPath 5 = .ok (.aload_n 0, 1) := by decide +kernel
theorem dX4_cellOfPath_6 : decode cX4_cellOfPath 6 = .ok (.getfield 31, 3) := by decide +kernel
theorem dX4_cellOfPath_9 : decode cX4_cellOfPath 9 = .ok (.if_icmp .ge 21, 3) := by decide +kernel
theorem dX4_cellOfPath_12 : decode cX4_cellOfPath 12 = .ok (.iload_n 1, 1) := by decide +kernel
theorem dX4_cellOfPath_13 : decode cX4_cellOfPath 13 = .ok (.aload_n 0, 1) := by decide +kernel
theorem dX4_cellOfPath_14 : decode cX4_cellOfPath 14 = .ok (.getfield 28, 3) := by decide +kernel
theorem dX4_cellOfPath_17 : decode cX4_cellOfPath 17 = .ok (.arraylength, 1) := by decide +kernel
theorem dX4_cellOfPath_18 : decode cX4_cellOfPath 18 = .ok (.if_icmp .ge 12, 3) := by decide +kernel
theorem dX4_cellOfPath_21 : decode cX4_cellOfPath 21 = .ok (.aload_n 0, 1) := by decide +kernel
theorem dX4_cellOfPath_22 : decode cX4_cellOfPath 22 = .ok (.getfield 28, 3) := by decide +kernel
theorem dX4_cellOfPath_25 : decode cX4_cellOfPath 25 = .ok (.iload_n 1, 1) := by decide +kernel
theorem dX4_cellOfPath_26 : decode cX4_cellOfPath 26 = .ok (.iaload, 1) := by decide +kernel
theorem dX4_cellOfPath_27 : decode cX4_cellOfPath 27 = .ok (.goto 4, 3) := by decide +kernel
theorem dX4_cellOfPath_30 : decode cX4_cellOfPath 30 = .ok (.iconst (-1), 1) := by decide +kernel
theorem dX4_cellOfPath_31 : decode cX4_cellOfPath 31 = .ok (.ireturn, 1) := by decide +kernel
theorem dX4_findBest_0 : decode cX4_findBest 0 = .ok (.aload_n 0, 1) := by decide +kernel
theorem dX4_findBest_1 : decode cX4_findBest 1 = .ok (.invokevirtual 47, 3) := by decide +kernel
theorem dX4_findBest_4 : decode cX4_findBest 4 = .ok (.aload_n 0, 1) := by decide +kernel
theorem dX4_findBest_5 : decode cX4_findBest 5 = .ok (.getfield 43, 3) := by decide +kernel
theorem dX4_findBest_8 : decode cX4_findBest 8 = .ok (.invokevirtual 50, 3) := by decide +kernel
theorem dX4_findBest_11 : decode cX4_findBest 11 = .ok (.iconst 1, 1) := by decide +kernel
theorem dX4_findBest_12 : decode cX4_findBest 12 = .ok (.isub, 1) := by decide +kernel
theorem dX4_findBest_13 : decode cX4_findBest 13 = .ok (.istore_n 1, 1) := by decide +kernel
theorem dX4_findBest_14 : decode cX4_findBest 14 = .ok (.iload_n 1, 1) := by decide +kernel
theorem dX4_findBest_15 : decode cX4_findBest 15 = .ok (.ifCond .lt 46, 3) := by decide +kernel
theorem dX4_findBest_18 : decode cX4_findBest 18 = .ok (.aload_n 0, 1) := by decide +kernel
theorem dX4_findBest_19 : decode cX4_findBest 19 = .ok (.getfield 9, 3) := by decide +kernel
theorem dX4_findBest_22 : decode cX4_findBest 22 = .ok (.iconst 0, 1) := by decide +kernel
theorem dX4_findBest_23 : decode cX4_findBest 23 = .ok (.aload_n 0, 1) := by decide +kernel
theorem dX4_findBest_24 : decode cX4_findBest 24 = .ok (.getfield 19, 3) := by decide +kernel
theorem dX4_findBest_27 : decode cX4_findBest 27 = .ok (.iconst 0, 1) := by decide +kernel
theorem dX4_findBest_28 : decode cX4_findBest 28 = .ok (.sipush 144, 3) := by decide +kernel
theorem dX4_findBest_31 : decode cX4_findBest 31 = .ok (.invokestatic 56, 3) := by decide +kernel
theorem dX4_findBest_34 : decode cX4_findBest 34 = .ok (.aload_n 0, 1) := by decide +kernel
theorem dX4_findBest_35 : decode cX4_findBest 35 = .ok (.getfield 15, 3) := by decide +kernel
theorem dX4_findBest_38 : decode cX4_findBest 38 = .ok (.iconst 0, 1) := by decide +kernel
theorem dX4_findBest_39 : decode cX4_findBest 39 = .ok (.aload_n 0, 1) := by decide +kernel
theorem dX4_findBest_40 : decode cX4_findBest 40 = .ok (.getfield 22, 3) := by decide +kernel
theorem dX4_findBest_43 : decode cX4_findBest 43 = .ok (.iconst 0, 1) := by decide +kernel
theorem dX4_findBest_44 : decode cX4_findBest 44 = .ok (.sipush 144, 3) := by decide +kernel
theorem dX4_findBest_47 : decode cX4_findBest 47 = .ok (.invokestatic 56, 3) := by decide +kernel
theorem dX4_findBest_50 : decode cX4_findBest 50 = .ok (.aload_n 0, 1) := by decide +kernel
theorem dX4_findBest_51 : decode cX4_findBest 51 = .ok (.iload_n 1, 1) := by decide +kernel
theorem dX4_findBest_52 : decode cX4_findBest 52 = .ok (.invokevirtual 62, 3) := by decide +kernel
theorem dX4_findBest_55 : decode cX4_findBest 55 = .ok (.iinc 1 (-1), 3) := by decide +kernel
theorem dX4_findBest_58 : decode cX4_findBest 58 = .ok (.goto (-44), 3) := by decide +kernel
theorem dX4_findBest_61 : decode cX4_findBest 61 = .ok (.aload_n 0, 1) := by decide +kernel
theorem dX4_findBest_62 : decode cX4_findBest 62 = .ok (.invokevirtual 66, 3) := by decide +kernel
theorem dX4_findBest_65 : decode cX4_findBest 65 = .ok (.istore_n 1, 1) := by decide +kernel
theorem dX4_findBest_66 : decode cX4_findBest 66 = .ok (.iload_n 1, 1) := by decide +kernel
theorem dX4_findBest_67 : decode cX4_findBest 67 = .ok (.ifCond .lt 10, 3) := by decide +kernel
theorem dX4_findBest_70 : decode cX4_findBest 70 = .ok (.iload_n 1, 1) := by decide +kernel
theorem dX4_findBest_71 : decode cX4_findBest 71 = .ok (.sipush 144, 3) := by decide +kernel
theorem dX4_findBest_74 : decode cX4_findBest 74 = .ok (.if_icmp .lt 5, 3) := by decide +kernel
theorem dX4_findBest_77 : decode cX4_findBest 77 = .ok (.iconst (-1), 1) := by decide +kernel
theorem dX4_findBest_78 : decode cX4_findBest 78 = .ok (.ireturn, 1) := by decide +kernel
theorem dX4_findBest_79 : decode cX4_findBest 79 = .ok (.aload_n 0, 1) := by decide +kernel
theorem dX4_findBest_80 : decode cX4_findBest 80 = .ok (.iload_n 1, 1) := by decide +kernel
theorem dX4_findBest_81 : decode cX4_findBest 81 = .ok (.invokevirtual 69, 3) := by decide +kernel
theorem dX4_findBest_84 : decode cX4_findBest 84 = .ok (.aload_n 0, 1) := by decide +kernel
theorem dX4_findBest_85 : decode cX4_findBest 85 = .ok (.getfield 9, 3) := by decide +kernel
theorem dX4_findBest_88 : decode cX4_findBest 88 = .ok (.iload_n 1, 1) := by decide +kernel
theorem dX4_findBest_89 : decode cX4_findBest 89 = .ok (.iaload, 1) := by decide +kernel
theorem dX4_findBest_90 : decode cX4_findBest 90 = .ok (.ireturn, 1) := by decide +kernel
theorem dX4_rateEnds_0 : decode cX4_rateEnds 0 = .ok (.iconst 0, 1) := by decide +kernel
theorem dX4_rateEnds_1 : decode cX4_rateEnds 1 = .ok (.istore_n 1, 1) := by decide +kernel
theorem dX4_rateEnds_2 : decode cX4_rateEnds 2 = .ok (.iload_n 1, 1) := by decide +kernel
theorem dX4_rateEnds_3 : decode cX4_rateEnds 3 = .ok (.sipush 144, 3) := by decide +kernel
theorem dX4_rateEnds_6 : decode cX4_rateEnds 6 = .ok (.if_icmp .ge 59, 3) := by decide +kernel
theorem dX4_rateEnds_9 : decode cX4_rateEnds 9 = .ok (.aload_n 0, 1) := by decide +kernel
theorem dX4_rateEnds_10 : decode cX4_rateEnds 10 = .ok (.getfield 9, 3) := by decide +kernel
theorem dX4_rateEnds_13 : decode cX4_rateEnds 13 = .ok (.iload_n 1, 1) := by decide +kernel
theorem dX4_rateEnds_14 : decode cX4_rateEnds 14 = .ok (.aload_n 0, 1) := by decide +kernel
theorem dX4_rateEnds_15 : decode cX4_rateEnds 15 = .ok (.getfield 35, 3) := by decide +kernel
theorem dX4_rateEnds_18 : decode cX4_rateEnds 18 = .ok (.iload_n 1, 1) := by decide +kernel
theorem dX4_rateEnds_19 : decode cX4_rateEnds 19 = .ok (.invokevirtual 72, 3) := by decide +kernel
theorem dX4_rateEnds_22 : decode cX4_rateEnds 22 = .ok (.ifCond .eq 28, 3) := by decide +kernel
theorem dX4_rateEnds_25 : decode cX4_rateEnds 25 = .ok (.aload_n 0, 1) := by decide +kernel
theorem dX4_rateEnds_26 : decode cX4_rateEnds 26 = .ok (.getfield 43, 3) := by decide +kernel
theorem dX4_rateEnds_29 : decode cX4_rateEnds 29 = .ok (.aload_n 0, 1) := by decide +kernel
theorem dX4_rateEnds_30 : decode cX4_rateEnds 30 = .ok (.getfield 43, 3) := by decide +kernel
theorem dX4_rateEnds_33 : decode cX4_rateEnds 33 = .ok (.invokevirtual 50, 3) := by decide +kernel
theorem dX4_rateEnds_36 : decode cX4_rateEnds 36 = .ok (.aload_n 0, 1) := by decide +kernel
theorem dX4_rateEnds_37 : decode cX4_rateEnds 37 = .ok (.getfield 35, 3) := by decide +kernel
theorem dX4_rateEnds_40 : decode cX4_rateEnds 40 = .ok (.iload_n 1, 1) := by decide +kernel
theorem dX4_rateEnds_41 : decode cX4_rateEnds 41 = .ok (.invokevirtual 78, 3) := by decide +kernel
theorem dX4_rateEnds_44 : decode cX4_rateEnds 44 = .ok (.invokevirtual 82, 3) := by decide +kernel
theorem dX4_rateEnds_47 : decode cX4_rateEnds 47 = .ok (.goto 4, 3) := by decide +kernel
theorem dX4_rateEnds_50 : decode cX4_rateEnds 50 = .ok (.iconst (-1), 1) := by decide +kernel
theorem dX4_rateEnds_51 : decode cX4_rateEnds 51 = .ok (.iastore, 1) := by decide +kernel
theorem dX4_rateEnds_52 : decode cX4_rateEnds 52 = .ok (.aload_n 0, 1) := by decide +kernel
theorem dX4_rateEnds_53 : decode cX4_rateEnds 53 = .ok (.getfield 15, 3) := by decide +kernel
theorem dX4_rateEnds_56 : decode cX4_rateEnds 56 = .ok (.iload_n 1, 1) := by decide +kernel
theorem dX4_rateEnds_57 : decode cX4_rateEnds 57 = .ok (.lconst 1, 1) := by decide +kernel
theorem dX4_rateEnds_58 : decode cX4_rateEnds 58 = .ok (.lastore, 1) := by decide +kernel
theorem dX4_rateEnds_59 : decode cX4_rateEnds 59 = .ok (.iinc 1 1, 3) := by decide +kernel
theorem dX4_rateEnds_62 : decode cX4_rateEnds 62 = .ok (.goto (-60), 3) := by decide +kernel
theorem dX4_rateEnds_65 : decode cX4_rateEnds 65 = .ok (.return_, 1) := by decide +kernel
theorem dX4_stepBack_0 : decode cX4_stepBack 0 = .ok (.iconst 0, 1) := by decide +kernel
theorem dX4_stepBack_1 : decode cX4_stepBack 1 = .ok (.istore_n 2, 1) := by decide +kernel
theorem dX4_stepBack_2 : decode cX4_stepBack 2 = .ok (.iload_n 2, 1) := by decide +kernel
theorem dX4_stepBack_3 : decode cX4_stepBack 3 = .ok (.aload_n 0, 1) := by decide +kernel
theorem dX4_stepBack_4 : decode cX4_stepBack 4 = .ok (.getfield 35, 3) := by decide +kernel
theorem dX4_stepBack_7 : decode cX4_stepBack 7 = .ok (.invokevirtual 86, 3) := by decide +kernel
theorem dX4_stepBack_10 : decode cX4_stepBack 10 = .ok (.if_icmp .ge 62, 3) := by decide +kernel
theorem dX4_stepBack_13 : decode cX4_stepBack 13 = .ok (.iconst 0, 1) := by decide +kernel
theorem dX4_stepBack_14 : decode cX4_stepBack 14 = .ok (.istore_n 3, 1) := by decide +kernel
theorem dX4_stepBack_15 : decode cX4_stepBack 15 = .ok (.iload_n 3, 1) := by decide +kernel
theorem dX4_stepBack_16 : decode cX4_stepBack 16 = .ok (.aload_n 0, 1) := by decide +kernel
theorem dX4_stepBack_17 : decode cX4_stepBack 17 = .ok (.getfield 35, 3) := by decide +kernel
theorem dX4_stepBack_20 : decode cX4_stepBack 20 = .ok (.invokevirtual 89, 3) := by decide +kernel
theorem dX4_stepBack_23 : decode cX4_stepBack 23 = .ok (.if_icmp .ge 43, 3) := by decide +kernel
theorem dX4_stepBack_26 : decode cX4_stepBack 26 = .ok (.aload_n 0, 1) := by decide +kernel
theorem dX4_stepBack_27 : decode cX4_stepBack 27 = .ok (.iload_n 1, 1) := by decide +kernel
theorem dX4_stepBack_28 : decode cX4_stepBack 28 = .ok (.aload_n 0, 1) := by decide +kernel
theorem dX4_stepBack_29 : decode cX4_stepBack 29 = .ok (.getfield 35, 3) := by decide +kernel
theorem dX4_stepBack_32 : decode cX4_stepBack 32 = .ok (.iload_n 3, 1) := by decide +kernel
theorem dX4_stepBack_33 : decode cX4_stepBack 33 = .ok (.iload_n 2, 1) := by decide +kernel
theorem dX4_stepBack_34 : decode cX4_stepBack 34 = .ok (.invokevirtual 92, 3) := by decide +kernel
theorem dX4_stepBack_37 : decode cX4_stepBack 37 = .ok (.iload_n 3, 1) := by decide +kernel
theorem dX4_stepBack_38 : decode cX4_stepBack 38 = .ok (.aload_n 0, 1) := by decide +kernel
theorem dX4_stepBack_39 : decode cX4_stepBack 39 = .ok (.getfield 43, 3) := by decide +kernel
theorem dX4_stepBack_42 : decode cX4_stepBack 42 = .ok (.iload_n 1, 1) := by decide +kernel
theorem dX4_stepBack_43 : decode cX4_stepBack 43 = .ok (.invokevirtual 95, 3) := by decide +kernel
theorem dX4_stepBack_46 : decode cX4_stepBack 46 = .ok (.iadd, 1) := by decide +kernel
theorem dX4_stepBack_47 : decode cX4_stepBack 47 = .ok (.iload_n 2, 1) := by decide +kernel
theorem dX4_stepBack_48 : decode cX4_stepBack 48 = .ok (.aload_n 0, 1) := by decide +kernel
theorem dX4_stepBack_49 : decode cX4_stepBack 49 = .ok (.getfield 43, 3) := by decide +kernel
theorem dX4_stepBack_52 : decode cX4_stepBack 52 = .ok (.iload_n 1, 1) := by decide +kernel
theorem dX4_stepBack_53 : decode cX4_stepBack 53 = .ok (.invokevirtual 98, 3) := by decide +kernel
theorem dX4_stepBack_56 : decode cX4_stepBack 56 = .ok (.iadd, 1) := by decide +kernel
theorem dX4_stepBack_57 : decode cX4_stepBack 57 = .ok (.invokevirtual 101, 3) := by decide +kernel
theorem dX4_stepBack_60 : decode cX4_stepBack 60 = .ok (.iinc 3 1, 3) := by decide +kernel
theorem dX4_stepBack_63 : decode cX4_stepBack 63 = .ok (.goto (-48), 3) := by decide +kernel
theorem dX4_stepBack_66 : decode cX4_stepBack 66 = .ok (.iinc 2 1, 3) := by decide +kernel
theorem dX4_stepBack_69 : decode cX4_stepBack 69 = .ok (.goto (-67), 3) := by decide +kernel
theorem dX4_stepBack_72 : decode cX4_stepBack 72 = .ok (.return_, 1) := by decide +kernel
theorem dX4_rate_0 : decode cX4_rate 0 = .ok (.iload_n 1, 1) := by decide +kernel
theorem dX4_rate_1 : decode cX4_rate 1 = .ok (.sipush 144, 3) := by decide +kernel
theorem dX4_rate_4 : decode cX4_rate 4 = .ok (.imul, 1) := by decide +kernel
theorem dX4_rate_5 : decode cX4_rate 5 = .ok (.iload_n 2, 1) := by decide +kernel
theorem dX4_rate_6 : decode cX4_rate 6 = .ok (.iadd, 1) := by decide +kernel
theorem dX4_rate_7 : decode cX4_rate 7 = .ok (.istore 5, 2) := by decide +kernel
theorem dX4_rate_9 : decode cX4_rate 9 = .ok (.iload_n 2, 1) := by decide +kernel
theorem dX4_rate_10 : decode cX4_rate 10 = .ok (.ifCond .lt 25, 3) := by decide +kernel
theorem dX4_rate_13 : decode cX4_rate 13 = .ok (.iload_n 2, 1) := by decide +kernel
theorem dX4_rate_14 : decode cX4_rate 14 = .ok (.sipush 144, 3) := by decide +kernel
theorem dX4_rate_17 : decode cX4_rate 17 = .ok (.if_icmp .ge 18, 3) := by decide +kernel
theorem dX4_rate_20 : decode cX4_rate 20 = .ok (.iload 5, 2) := by decide +kernel
theorem dX4_rate_22 : decode cX4_rate 22 = .ok (.ifCond .lt 13, 3) := by decide +kernel
theorem dX4_rate_25 : decode cX4_rate 25 = .ok (.iload 5, 2) := by decide +kernel
theorem dX4_rate_27 : decode cX4_rate 27 = .ok (.aload_n 0, 1) := by decide +kernel
theorem dX4_rate_28 : decode cX4_rate 28 = .ok (.getfield 25, 3) := by decide +kernel
theorem dX4_rate_31 : decode cX4_rate 31 = .ok (.arraylength, 1) := by decide +kernel
theorem dX4_rate_32 : decode cX4_rate 32 = .ok (.if_icmp .lt 4, 3) := by decide +kernel
theorem dX4_rate_35 : decode cX4_rate 35 = .ok (.return_, 1) := by decide +kernel
theorem dX4_rate_36 : decode cX4_rate 36 = .ok (.aload_n 0, 1) := by decide +kernel
theorem dX4_rate_37 : decode cX4_rate 37 = .ok (.getfield 9, 3) := by decide +kernel
theorem dX4_rate_40 : decode cX4_rate 40 = .ok (.iload_n 2, 1) := by decide +kernel
theorem dX4_rate_41 : decode cX4_rate 41 = .ok (.iconst (-1), 1) := by decide +kernel
theorem dX4_rate_42 : decode cX4_rate 42 = .ok (.iastore, 1) := by decide +kernel
theorem dX4_rate_43 : decode cX4_rate 43 = .ok (.aload_n 0, 1) := by decide +kernel
theorem dX4_rate_44 : decode cX4_rate 44 = .ok (.getfield 15, 3) := by decide +kernel
theorem dX4_rate_47 : decode cX4_rate 47 = .ok (.iload_n 2, 1) := by decide +kernel
theorem dX4_rate_48 : decode cX4_rate 48 = .ok (.lconst 0, 1) := by decide +kernel
theorem dX4_rate_49 : decode cX4_rate 49 = .ok (.lastore, 1) := by decide +kernel
theorem dX4_rate_50 : decode cX4_rate 50 = .ok (.aload_n 0, 1) := by decide +kernel
theorem dX4_rate_51 : decode cX4_rate 51 = .ok (.getfield 25, 3) := by decide +kernel
theorem dX4_rate_54 : decode cX4_rate 54 = .ok (.iload 5, 2) := by decide +kernel
theorem dX4_rate_56 : decode cX4_rate 56 = .ok (.iconst (-1), 1) := by decide +kernel
theorem dX4_rate_57 : decode cX4_rate 57 = .ok (.iastore, 1) := by decide +kernel
theorem dX4_rate_58 : decode cX4_rate 58 = .ok (.iconst (-1), 1) := by decide +kernel
theorem dX4_rate_59 : decode cX4_rate 59 = .ok (.istore 6, 2) := by decide +kernel
theorem dX4_rate_61 : decode cX4_rate 61 = .ok (.iload 6, 2) := by decide +kernel
theorem dX4_rate_63 : decode cX4_rate 63 = .ok (.iconst 1, 1) := by decide +kernel
theorem dX4_rate_64 : decode cX4_rate 64 = .ok (.if_icmp .gt 111, 3) := by decide +kernel
theorem dX4_rate_67 : decode cX4_rate 67 = .ok (.iconst (-1), 1) := by decide +kernel
theorem dX4_rate_68 : decode cX4_rate 68 = .ok (.istore 7, 2) := by decide +kernel
theorem dX4_rate_70 : decode cX4_rate 70 = .ok (.iload 7, 2) := by decide +kernel
theorem dX4_rate_72 : decode cX4_rate 72 = .ok (.iconst 1, 1) := by decide +kernel
theorem dX4_rate_73 : decode cX4_rate 73 = .ok (.if_icmp .gt 96, 3) := by decide +kernel
theorem dX4_rate_76 : decode cX4_rate 76 = .ok (.aload_n 0, 1) := by decide +kernel
theorem dX4_rate_77 : decode cX4_rate 77 = .ok (.getfield 35, 3) := by decide +kernel
theorem dX4_rate_80 : decode cX4_rate 80 = .ok (.iload_n 3, 1) := by decide +kernel
theorem dX4_rate_81 : decode cX4_rate 81 = .ok (.iload 7, 2) := by decide +kernel
theorem dX4_rate_83 : decode cX4_rate 83 = .ok (.iadd, 1) := by decide +kernel
theorem dX4_rate_84 : decode cX4_rate 84 = .ok (.iload 4, 2) := by decide +kernel
theorem dX4_rate_86 : decode cX4_rate 86 = .ok (.iload 6, 2) := by decide +kernel
theorem dX4_rate_88 : decode cX4_rate 88 = .ok (.iadd, 1) := by decide +kernel
theorem dX4_rate_89 : decode cX4_rate 89 = .ok (.invokevirtual 92, 3) := by decide +kernel
theorem dX4_rate_92 : decode cX4_rate 92 = .ok (.istore 8, 2) := by decide +kernel
theorem dX4_rate_94 : decode cX4_rate 94 = .ok (.aload_n 0, 1) := by decide +kernel
theorem dX4_rate_95 : decode cX4_rate 95 = .ok (.iload 8, 2) := by decide +kernel
theorem dX4_rate_97 : decode cX4_rate 97 = .ok (.aload_n 0, 1) := by decide +kernel
theorem dX4_rate_98 : decode cX4_rate 98 = .ok (.getfield 39, 3) := by decide +kernel
theorem dX4_rate_101 : decode cX4_rate 101 = .ok (.iload 7, 2) := by decide +kernel
theorem dX4_rate_103 : decode cX4_rate 103 = .ok (.iload 6, 2) := by decide +kernel
theorem dX4_rate_105 : decode cX4_rate 105 = .ok (.invokevirtual 105, 3) := by decide +kernel
theorem dX4_rate_108 : decode cX4_rate 108 = .ok (.iload_n 2, 1) := by decide +kernel
theorem dX4_rate_109 : decode cX4_rate 109 = .ok (.invokevirtual 110, 3) := by decide +kernel
theorem dX4_rate_112 : decode cX4_rate 112 = .ok (.ifCond .eq 51, 3) := by decide +kernel
theorem dX4_rate_115 : decode cX4_rate 115 = .ok (.aload_n 0, 1) := by decide +kernel
theorem dX4_rate_116 : decode cX4_rate 116 = .ok (.getfield 9, 3) := by decide +kernel
theorem dX4_rate_119 : decode cX4_rate 119 = .ok (.iload_n 2, 1) := by decide +kernel
theorem dX4_rate_120 : decode cX4_rate 120 = .ok (.aload_n 0, 1) := by decide +kernel
theorem dX4_rate_121 : decode cX4_rate 121 = .ok (.getfield 19, 3) := by decide +kernel
theorem dX4_rate_124 : decode cX4_rate 124 = .ok (.iload 8, 2) := by decide +kernel
theorem dX4_rate_126 : decode cX4_rate 126 = .ok (.iaload, 1) := by decide +kernel
theorem dX4_rate_127 : decode cX4_rate 127 = .ok (.iastore, 1) := by decide +kernel
theorem dX4_rate_128 : decode cX4_rate 128 = .ok (.aload_n 0, 1) := by decide +kernel
theorem dX4_rate_129 : decode cX4_rate 129 = .ok (.getfield 15, 3) := by decide +kernel
theorem dX4_rate_132 : decode cX4_rate 132 = .ok (.iload_n 2, 1) := by decide +kernel
theorem dX4_rate_133 : decode cX4_rate 133 = .ok (.aload_n 0, 1) := by decide +kernel
theorem dX4_rate_134 : decode cX4_rate 134 = .ok (.getfield 22, 3) := by decide +kernel
theorem dX4_rate_137 : decode cX4_rate 137 = .ok (.iload 8, 2) := by decide +kernel
theorem dX4_rate_139 : decode cX4_rate 139 = .ok (.laload, 1) := by decide +kernel
theorem dX4_rate_140 : decode cX4_rate 140 = .ok (.aload_n 0, 1) := by decide +kernel
theorem dX4_rate_141 : decode cX4_rate 141 = .ok (.getfield 39, 3) := by decide +kernel
theorem dX4_rate_144 : decode cX4_rate 144 = .ok (.iload 7, 2) := by decide +kernel
theorem dX4_rate_146 : decode cX4_rate 146 = .ok (.iload 6, 2) := by decide +kernel
theorem dX4_rate_148 : decode cX4_rate 148 = .ok (.invokevirtual 105, 3) := by decide +kernel
theorem dX4_rate_151 : decode cX4_rate 151 = .ok (.i2l, 1) := by decide +kernel
theorem dX4_rate_152 : decode cX4_rate 152 = .ok (.lmul, 1) := by decide +kernel
theorem dX4_rate_153 : decode cX4_rate 153 = .ok (.lastore, 1) := by decide +kernel
theorem dX4_rate_154 : decode cX4_rate 154 = .ok (.aload_n 0, 1) := by decide +kernel
theorem dX4_rate_155 : decode cX4_rate 155 = .ok (.getfield 25, 3) := by decide +kernel
theorem dX4_rate_158 : decode cX4_rate 158 = .ok (.iload 5, 2) := by decide +kernel
theorem dX4_rate_160 : decode cX4_rate 160 = .ok (.iload 8, 2) := by decide +kernel
theorem dX4_rate_162 : decode cX4_rate 162 = .ok (.iastore, 1) := by decide +kernel
theorem dX4_rate_163 : decode cX4_rate 163 = .ok (.iinc 7 1, 3) := by decide +kernel
theorem dX4_rate_166 : decode cX4_rate 166 = .ok (.goto (-96), 3) := by decide +kernel
theorem dX4_rate_169 : decode cX4_rate 169 = .ok (.iinc 6 1, 3) := by decide +kernel
theorem dX4_rate_172 : decode cX4_rate 172 = .ok (.goto (-111), 3) := by decide +kernel
theorem dX4_rate_175 : decode cX4_rate 175 = .ok (.aload_n 0, 1) := by decide +kernel
theorem dX4_rate_176 : decode cX4_rate 176 = .ok (.getfield 9, 3) := by decide +kernel
theorem dX4_rate_179 : decode cX4_rate 179 = .ok (.iload_n 2, 1) := by decide +kernel
theorem dX4_rate_180 : decode cX4_rate 180 = .ok (.iaload, 1) := by decide +kernel
theorem dX4_rate_181 : decode cX4_rate 181 = .ok (.iconst (-1), 1) := by decide +kernel
theorem dX4_rate_182 : decode cX4_rate 182 = .ok (.if_icmp .eq 28, 3) := by decide +kernel
theorem dX4_rate_185 : decode cX4_rate 185 = .ok (.aload_n 0, 1) := by decide +kernel
theorem dX4_rate_186 : decode cX4_rate 186 = .ok (.getfield 9, 3) := by decide +kernel
theorem dX4_rate_189 : decode cX4_rate 189 = .ok (.iload_n 2, 1) := by decide +kernel
theorem dX4_rate_190 : decode cX4_rate 190 = .ok (.dup2, 1) := by decide +kernel
theorem dX4_rate_191 : decode cX4_rate 191 = .ok (.iaload, 1) := by decide +kernel
theorem dX4_rate_192 : decode cX4_rate 192 = .ok (.aload_n 0, 1) := by decide +kernel
theorem dX4_rate_193 : decode cX4_rate 193 = .ok (.getfield 43, 3) := by decide +kernel
theorem dX4_rate_196 : decode cX4_rate 196 = .ok (.iload_n 1, 1) := by decide +kernel
theorem dX4_rate_197 : decode cX4_rate 197 = .ok (.aload_n 0, 1) := by decide +kernel
theorem dX4_rate_198 : decode cX4_rate 198 = .ok (.getfield 35, 3) := by decide +kernel
theorem dX4_rate_201 : decode cX4_rate 201 = .ok (.iload_n 2, 1) := by decide +kernel
theorem dX4_rate_202 : decode cX4_rate 202 = .ok (.invokevirtual 78, 3) := by decide +kernel
theorem dX4_rate_205 : decode cX4_rate 205 = .ok (.invokevirtual 82, 3) := by decide +kernel
theorem dX4_rate_208 : decode cX4_rate 208 = .ok (.iadd, 1) := by decide +kernel
theorem dX4_rate_209 : decode cX4_rate 209 = .ok (.iastore, 1) := by decide +kernel
theorem dX4_rate_210 : decode cX4_rate 210 = .ok (.return_, 1) := by decide +kernel
theorem dX4_leads_0 : decode cX4_leads 0 = .ok (.iload_n 1, 1) := by decide +kernel
theorem dX4_leads_1 : decode cX4_leads 1 = .ok (.ifCond .lt 21, 3) := by decide +kernel
theorem dX4_leads_4 : decode cX4_leads 4 = .ok (.iload_n 1, 1) := by decide +kernel
theorem dX4_leads_5 : decode cX4_leads 5 = .ok (.sipush 144, 3) := by decide +kernel
theorem dX4_leads_8 : decode cX4_leads 8 = .ok (.if_icmp .ge 14, 3) := by decide +kernel
theorem dX4_leads_11 : decode cX4_leads 11 = .ok (.iload_n 3, 1) := by decide +kernel
theorem dX4_leads_12 : decode cX4_leads 12 = .ok (.ifCond .lt 10, 3) := by decide +kernel
theorem dX4_leads_15 : decode cX4_leads 15 = .ok (.iload_n 3, 1) := by decide +kernel
theorem dX4_leads_16 : decode cX4_leads 16 = .ok (.sipush 144, 3) := by decide +kernel
theorem dX4_leads_19 : decode cX4_leads 19 = .ok (.if_icmp .lt 5, 3) := by decide +kernel
theorem dX4_leads_22 : decode cX4_leads 22 = .ok (.iconst 0, 1) := by decide +kernel
theorem dX4_leads_23 : decode cX4_leads 23 = .ok (.ireturn, 1) := by decide +kernel
theorem dX4_leads_24 : decode cX4_leads 24 = .ok (.iload_n 2, 1) := by decide +kernel
theorem dX4_leads_25 : decode cX4_leads 25 = .ok (.ifCond .eq 13, 3) := by decide +kernel
theorem dX4_leads_28 : decode cX4_leads 28 = .ok (.aload_n 0, 1) := by decide +kernel
theorem dX4_leads_29 : decode cX4_leads 29 = .ok (.getfield 19, 3) := by decide +kernel
theorem dX4_leads_32 : decode cX4_leads 32 = .ok (.iload_n 1, 1) := by decide +kernel
theorem dX4_leads_33 : decode cX4_leads 33 = .ok (.iaload, 1) := by decide +kernel
theorem dX4_leads_34 : decode cX4_leads 34 = .ok (.iconst (-1), 1) := by decide +kernel
theorem dX4_leads_35 : decode cX4_leads 35 = .ok (.if_icmp .ne 5, 3) := by decide +kernel
theorem dX4_leads_38 : decode cX4_leads 38 = .ok (.iconst 0, 1) := by decide +kernel
theorem dX4_leads_39 : decode cX4_leads 39 = .ok (.ireturn, 1) := by decide +kernel
theorem dX4_leads_40 : decode cX4_leads 40 = .ok (.aload_n 0, 1) := by decide +kernel
theorem dX4_leads_41 : decode cX4_leads 41 = .ok (.getfield 9, 3) := by decide +kernel
theorem dX4_leads_44 : decode cX4_leads 44 = .ok (.iload_n 3, 1) := by decide +kernel
theorem dX4_leads_45 : decode cX4_leads 45 = .ok (.iaload, 1) := by decide +kernel
theorem dX4_leads_46 : decode cX4_leads 46 = .ok (.iconst (-1), 1) := by decide +kernel
theorem dX4_leads_47 : decode cX4_leads 47 = .ok (.if_icmp .eq 36, 3) := by decide +kernel
theorem dX4_leads_50 : decode cX4_leads 50 = .ok (.aload_n 0, 1) := by decide +kernel
theorem dX4_leads_51 : decode cX4_leads 51 = .ok (.getfield 19, 3) := by decide +kernel
theorem dX4_leads_54 : decode cX4_leads 54 = .ok (.iload_n 1, 1) := by decide +kernel
theorem dX4_leads_55 : decode cX4_leads 55 = .ok (.iaload, 1) := by decide +kernel
theorem dX4_leads_56 : decode cX4_leads 56 = .ok (.aload_n 0, 1) := by decide +kernel
theorem dX4_leads_57 : decode cX4_leads 57 = .ok (.getfield 22, 3) := by decide +kernel
theorem dX4_leads_60 : decode cX4_leads 60 = .ok (.iload_n 1, 1) := by decide +kernel
theorem dX4_leads_61 : decode cX4_leads 61 = .ok (.laload, 1) := by decide +kernel
theorem dX4_leads_62 : decode cX4_leads 62 = .ok (.iload_n 2, 1) := by decide +kernel
theorem dX4_leads_63 : decode cX4_leads 63 = .ok (.i2l, 1) := by decide +kernel
theorem dX4_leads_64 : decode cX4_leads 64 = .ok (.lmul, 1) := by decide +kernel
theorem dX4_leads_65 : decode cX4_leads 65 = .ok (.aload_n 0, 1) := by decide +kernel
theorem dX4_leads_66 : decode cX4_leads 66 = .ok (.getfield 9, 3) := by decide +kernel
theorem dX4_leads_69 : decode cX4_leads 69 = .ok (.iload_n 3, 1) := by decide +kernel
theorem dX4_leads_70 : decode cX4_leads 70 = .ok (.iaload, 1) := by decide +kernel
theorem dX4_leads_71 : decode cX4_leads 71 = .ok (.aload_n 0, 1) := by decide +kernel
theorem dX4_leads_72 : decode cX4_leads 72 = .ok (.getfield 15, 3) := by decide +kernel
theorem dX4_leads_75 : decode cX4_leads 75 = .ok (.iload_n 3, 1) := by decide +kernel
theorem dX4_leads_76 : decode cX4_leads 76 = .ok (.laload, 1) := by decide +kernel
theorem dX4_leads_77 : decode cX4_leads 77 = .ok (.invokestatic 114, 3) := by decide +kernel
theorem dX4_leads_80 : decode cX4_leads 80 = .ok (.ifCond .eq 7, 3) := by decide +kernel
theorem dX4_leads_83 : decode cX4_leads 83 = .ok (.iconst 1, 1) := by decide +kernel
theorem dX4_leads_84 : decode cX4_leads 84 = .ok (.goto 4, 3) := by decide +kernel
theorem dX4_leads_87 : decode cX4_leads 87 = .ok (.iconst 0, 1) := by decide +kernel
theorem dX4_leads_88 : decode cX4_leads 88 = .ok (.ireturn, 1) := by decide +kernel
theorem dX4_isBetter_0 : decode cX4_isBetter 0 = .ok (.iload_n 0, 1) := by decide +kernel
theorem dX4_isBetter_1 : decode cX4_isBetter 1 = .ok (.iload_n 3, 1) := by decide +kernel
theorem dX4_isBetter_2 : decode cX4_isBetter 2 = .ok (.if_icmp .lt 15, 3) := by decide +kernel
theorem dX4_isBetter_5 : decode cX4_isBetter 5 = .ok (.iload_n 0, 1) := by decide +kernel
theorem dX4_isBetter_6 : decode cX4_isBetter 6 = .ok (.iload_n 3, 1) := by decide +kernel
theorem dX4_isBetter_7 : decode cX4_isBetter 7 = .ok (.if_icmp .ne 14, 3) := by decide +kernel
theorem dX4_isBetter_10 : decode cX4_isBetter 10 = .ok (.lload_n 1, 1) := by decide +kernel
theorem dX4_isBetter_11 : decode cX4_isBetter 11 = .ok (.lload 4, 2) := by decide +kernel
theorem dX4_isBetter_13 : decode cX4_isBetter 13 = .ok (.lcmp, 1) := by decide +kernel
theorem dX4_isBetter_14 : decode cX4_isBetter 14 = .ok (.ifCond .le 7, 3) := by decide +kernel
theorem dX4_isBetter_17 : decode cX4_isBetter 17 = .ok (.iconst 1, 1) := by decide +kernel
theorem dX4_isBetter_18 : decode cX4_isBetter 18 = .ok (.goto 4, 3) := by decide +kernel
theorem dX4_isBetter_21 : decode cX4_isBetter 21 = .ok (.iconst 0, 1) := by decide +kernel
theorem dX4_isBetter_22 : decode cX4_isBetter 22 = .ok (.ireturn, 1) := by decide +kernel
theorem dX4_bestFirst_0 : decode cX4_bestFirst 0 = .ok (.iconst (-1), 1) := by decide +kernel
theorem dX4_bestFirst_1 : decode cX4_bestFirst 1 = .ok (.istore_n 1, 1) := by decide +kernel
theorem dX4_bestFirst_2 : decode cX4_bestFirst 2 = .ok (.iconst 0, 1) := by decide +kernel
theorem dX4_bestFirst_3 : decode cX4_bestFirst 3 = .ok (.istore_n 2, 1) := by decide +kernel
theorem dX4_bestFirst_4 : decode cX4_bestFirst 4 = .ok (.iload_n 2, 1) := by decide +kernel
theorem dX4_bestFirst_5 : decode cX4_bestFirst 5 = .ok (.sipush 144, 3) := by decide +kernel
theorem dX4_bestFirst_8 : decode cX4_bestFirst 8 = .ok (.if_icmp .ge 88, 3) := by decide +kernel
theorem dX4_bestFirst_11 : decode cX4_bestFirst 11 = .ok (.aload_n 0, 1) := by decide +kernel
theorem dX4_bestFirst_12 : decode cX4_bestFirst 12 = .ok (.getfield 9, 3) := by decide +kernel
theorem dX4_bestFirst_15 : decode cX4_bestFirst 15 = .ok (.iload_n 2, 1) := by decide +kernel
theorem dX4_bestFirst_16 : decode cX4_bestFirst 16 = .ok (.iaload, 1) := by decide +kernel
theorem dX4_bestFirst_17 : decode cX4_bestFirst 17 = .ok (.iconst (-1), 1) := by decide +kernel
theorem dX4_bestFirst_18 : decode cX4_bestFirst 18 = .ok (.if_icmp .eq 29, 3) := by decide +kernel
theorem dX4_bestFirst_21 : decode cX4_bestFirst 21 = .ok (.aload_n 0, 1) := by decide +kernel
theorem dX4_bestFirst_22 : decode cX4_bestFirst 22 = .ok (.getfield 43, 3) := by decide +kernel
theorem dX4_bestFirst_25 : decode cX4_bestFirst 25 = .ok (.invokevirtual 118, 3) := by decide +kernel
theorem dX4_bestFirst_28 : decode cX4_bestFirst 28 = .ok (.iconst (-1), 1) := by decide +kernel
theorem dX4_bestFirst_29 : decode cX4_bestFirst 29 = .ok (.if_icmp .eq 14, 3) := by decide +kernel
theorem dX4_bestFirst_32 : decode cX4_bestFirst 32 = .ok (.aload_n 0, 1) := by decide +kernel
theorem dX4_bestFirst_33 : decode cX4_bestFirst 33 = .ok (.getfield 43, 3) := by decide +kernel
theorem dX4_bestFirst_36 : decode cX4_bestFirst 36 = .ok (.invokevirtual 118, 3) := by decide +kernel
theorem dX4_bestFirst_39 : decode cX4_bestFirst 39 = .ok (.iload_n 2, 1) := by decide +kernel
theorem dX4_bestFirst_40 : decode cX4_bestFirst 40 = .ok (.if_icmp .ne 7, 3) := by decide +kernel
theorem dX4_bestFirst_43 : decode cX4_bestFirst 43 = .ok (.iconst 1, 1) := by decide +kernel
theorem dX4_bestFirst_44 : decode cX4_bestFirst 44 = .ok (.goto 4, 3) := by decide +kernel
theorem dX4_bestFirst_47 : decode cX4_bestFirst 47 = .ok (.iconst 0, 1) := by decide +kernel
theorem dX4_bestFirst_48 : decode cX4_bestFirst 48 = .ok (.istore_n 3, 1) := by decide +kernel
theorem dX4_bestFirst_49 : decode cX4_bestFirst 49 = .ok (.iload_n 3, 1) := by decide +kernel
theorem dX4_bestFirst_50 : decode cX4_bestFirst 50 = .ok (.ifCond .eq 40, 3) := by decide +kernel
theorem dX4_bestFirst_53 : decode cX4_bestFirst 53 = .ok (.iload_n 1, 1) := by decide +kernel
theorem dX4_bestFirst_54 : decode cX4_bestFirst 54 = .ok (.iconst (-1), 1) := by decide +kernel
theorem dX4_bestFirst_55 : decode cX4_bestFirst 55 = .ok (.if_icmp .eq 33, 3) := by decide +kernel
theorem dX4_bestFirst_58 : decode cX4_bestFirst 58 = .ok (.aload_n 0, 1) := by decide +kernel
theorem dX4_bestFirst_59 : decode cX4_bestFirst 59 = .ok (.getfield 9, 3) := by decide +kernel
theorem dX4_bestFirst_62 : decode cX4_bestFirst 62 = .ok (.iload_n 2, 1) := by decide +kernel
theorem dX4_bestFirst_63 : decode cX4_bestFirst 63 = .ok (.iaload, 1) := by decide +kernel
theorem dX4_bestFirst_64 : decode cX4_bestFirst 64 = .ok (.aload_n 0, 1) := by decide +kernel
theorem dX4_bestFirst_65 : decode cX4_bestFirst 65 = .ok (.getfield 15, 3) := by decide +kernel
theorem dX4_bestFirst_68 : decode cX4_bestFirst 68 = .ok (.iload_n 2, 1) := by decide +kernel
theorem dX4_bestFirst_69 : decode cX4_bestFirst 69 = .ok (.laload, 1) := by decide +kernel
theorem dX4_bestFirst_70 : decode cX4_bestFirst 70 = .ok (.aload_n 0, 1) := by decide +kernel
theorem dX4_bestFirst_71 : decode cX4_bestFirst 71 = .ok (.getfield 9, 3) := by decide +kernel
theorem dX4_bestFirst_74 : decode cX4_bestFirst 74 = .ok (.iload_n 1, 1) := by decide +kernel
theorem dX4_bestFirst_75 : decode cX4_bestFirst 75 = .ok (.iaload, 1) := by decide +kernel
theorem dX4_bestFirst_76 : decode cX4_bestFirst 76 = .ok (.aload_n 0, 1) := by decide +kernel
theorem dX4_bestFirst_77 : decode cX4_bestFirst 77 = .ok (.getfield 15, 3) := by decide +kernel
theorem dX4_bestFirst_80 : decode cX4_bestFirst 80 = .ok (.iload_n 1, 1) := by decide +kernel
theorem dX4_bestFirst_81 : decode cX4_bestFirst 81 = .ok (.laload, 1) := by decide +kernel
theorem dX4_bestFirst_82 : decode cX4_bestFirst 82 = .ok (.invokestatic 114, 3) := by decide +kernel
theorem dX4_bestFirst_85 : decode cX4_bestFirst 85 = .ok (.ifCond .eq 5, 3) := by decide +kernel
theorem dX4_bestFirst_88 : decode cX4_bestFirst 88 = .ok (.iload_n 2, 1) := by decide +kernel
theorem dX4_bestFirst_89 : decode cX4_bestFirst 89 = .ok (.istore_n 1, 1) := by decide +kernel
theorem dX4_bestFirst_90 : decode cX4_bestFirst 90 = .ok (.iinc 2 1, 3) := by decide +kernel
theorem dX4_bestFirst_93 : decode cX4_bestFirst 93 = .ok (.goto (-89), 3) := by decide +kernel
theorem dX4_bestFirst_96 : decode cX4_bestFirst 96 = .ok (.iload_n 1, 1) := by decide +kernel
theorem dX4_bestFirst_97 : decode cX4_bestFirst 97 = .ok (.ireturn, 1) := by decide +kernel
theorem dX4_keepPath_0 : decode cX4_keepPath 0 = .ok (.iload_n 1, 1) := by decide +kernel
theorem dX4_keepPath_1 : decode cX4_keepPath 1 = .ok (.istore_n 2, 1) := by decide +kernel
theorem dX4_keepPath_2 : decode cX4_keepPath 2 = .ok (.aload_n 0, 1) := by decide +kernel
theorem dX4_keepPath_3 : decode cX4_keepPath 3 = .ok (.getfield 28, 3) := by decide +kernel
theorem dX4_keepPath_6 : decode cX4_keepPath 6 = .ok (.iconst 0, 1) := by decide +kernel
theorem dX4_keepPath_7 : decode cX4_keepPath 7 = .ok (.iload_n 2, 1) := by decide +kernel
theorem dX4_keepPath_8 : decode cX4_keepPath 8 = .ok (.iastore, 1) := by decide +kernel
theorem dX4_keepPath_9 : decode cX4_keepPath 9 = .ok (.aload_n 0, 1) := by decide +kernel
theorem dX4_keepPath_10 : decode cX4_keepPath 10 = .ok (.aload_n 0, 1) := by decide +kernel
theorem dX4_keepPath_11 : decode cX4_keepPath 11 = .ok (.getfield 43, 3) := by decide +kernel
theorem dX4_keepPath_14 : decode cX4_keepPath 14 = .ok (.invokevirtual 50, 3) := by decide +kernel
theorem dX4_keepPath_17 : decode cX4_keepPath 17 = .ok (.iconst 1, 1) := by decide +kernel
theorem dX4_keepPath_18 : decode cX4_keepPath 18 = .ok (.iadd, 1) := by decide +kernel
theorem dX4_keepPath_19 : decode cX4_keepPath 19 = .ok (.putfield 31, 3) := by decide +kernel
theorem dX4_keepPath_22 : decode cX4_keepPath 22 = .ok (.iconst 0, 1) := by decide +kernel
theorem dX4_keepPath_23 : decode cX4_keepPath 23 = .ok (.istore_n 3, 1) := by decide +kernel
theorem dX4_keepPath_24 : decode cX4_keepPath 24 = .ok (.iload_n 3, 1) := by decide +kernel
theorem dX4_keepPath_25 : decode cX4_keepPath 25 = .ok (.iconst 1, 1) := by decide +kernel
theorem dX4_keepPath_26 : decode cX4_keepPath 26 = .ok (.iadd, 1) := by decide +kernel
theorem dX4_keepPath_27 : decode cX4_keepPath 27 = .ok (.aload_n 0, 1) := by decide +kernel
theorem dX4_keepPath_28 : decode cX4_keepPath 28 = .ok (.getfield 31, 3) := by decide +kernel
theorem dX4_keepPath_31 : decode cX4_keepPath 31 = .ok (.if_icmp .ge 60, 3) := by decide +kernel
theorem dX4_keepPath_34 : decode cX4_keepPath 34 = .ok (.iload_n 3, 1) := by decide +kernel
theorem dX4_keepPath_35 : decode cX4_keepPath 35 = .ok (.bipush 12, 2) := by decide +kernel
theorem dX4_keepPath_37 : decode cX4_keepPath 37 = .ok (.if_icmp .ge 54, 3) := by decide +kernel
theorem dX4_keepPath_40 : decode cX4_keepPath 40 = .ok (.iload_n 3, 1) := by decide +kernel
theorem dX4_keepPath_41 : decode cX4_keepPath 41 = .ok (.sipush 144, 3) := by decide +kernel
theorem dX4_keepPath_44 : decode cX4_keepPath 44 = .ok (.imul, 1) := by decide +kernel
theorem dX4_keepPath_45 : decode cX4_keepPath 45 = .ok (.iload_n 2, 1) := by decide +kernel
theorem dX4_keepPath_46 : decode cX4_keepPath 46 = .ok (.iadd, 1) := by decide +kernel
theorem dX4_keepPath_47 : decode cX4_keepPath 47 = .ok (.istore 4, 2) := by decide +kernel
theorem dX4_keepPath_49 : decode cX4_keepPath 49 = .ok (.iload 4, 2) := by decide +kernel
theorem dX4_keepPath_51 : decode cX4_keepPath 51 = .ok (.ifCond .lt 23, 3) := by decide +kernel
theorem dX4_keepPath_54 : decode cX4_keepPath 54 = .ok (.iload 4, 2) := by decide +kernel
theorem dX4_keepPath_56 : decode cX4_keepPath 56 = .ok (.aload_n 0, 1) := by decide +kernel
theorem dX4_keepPath_57 : decode cX4_keepPath 57 = .ok (.getfield 25, 3) := by decide +kernel
theorem dX4_keepPath_60 : decode cX4_keepPath 60 = .ok (.arraylength, 1) := by decide +kernel
theorem dX4_keepPath_61 : decode cX4_keepPath 61 = .ok (.if_icmp .ge 13, 3) := by decide +kernel
theorem dX4_keepPath_64 : decode cX4_keepPath 64 = .ok (.aload_n 0, 1) := by decide +kernel
theorem dX4_keepPath_65 : decode cX4_keepPath 65 = .ok (.getfield 25, 3) := by decide +kernel
theorem dX4_keepPath_68 : decode cX4_keepPath 68 = .ok (.iload 4, 2) := by decide +kernel
theorem dX4_keepPath_70 : decode cX4_keepPath 70 = .ok (.iaload, 1) := by decide +kernel
theorem dX4_keepPath_71 : decode cX4_keepPath 71 = .ok (.goto 4, 3) := by decide +kernel
theorem dX4_keepPath_74 : decode cX4_keepPath 74 = .ok (.iconst (-1), 1) := by decide +kernel
theorem dX4_keepPath_75 : decode cX4_keepPath 75 = .ok (.istore_n 2, 1) := by decide +kernel
theorem dX4_keepPath_76 : decode cX4_keepPath 76 = .ok (.aload_n 0, 1) := by decide +kernel
theorem dX4_keepPath_77 : decode cX4_keepPath 77 = .ok (.getfield 28, 3) := by decide +kernel
theorem dX4_keepPath_80 : decode cX4_keepPath 80 = .ok (.iload_n 3, 1) := by decide +kernel
theorem dX4_keepPath_81 : decode cX4_keepPath 81 = .ok (.iconst 1, 1) := by decide +kernel
theorem dX4_keepPath_82 : decode cX4_keepPath 82 = .ok (.iadd, 1) := by decide +kernel
theorem dX4_keepPath_83 : decode cX4_keepPath 83 = .ok (.iload_n 2, 1) := by decide +kernel
theorem dX4_keepPath_84 : decode cX4_keepPath 84 = .ok (.iastore, 1) := by decide +kernel
theorem dX4_keepPath_85 : decode cX4_keepPath 85 = .ok (.iinc 3 1, 3) := by decide +kernel
theorem dX4_keepPath_88 : decode cX4_keepPath 88 = .ok (.goto (-64), 3) := by decide +kernel
theorem dX4_keepPath_91 : decode cX4_keepPath 91 = .ok (.return_, 1) := by decide +kernel
theorem dX5_init_0 : decode cX5_init 0 = .ok (.aload_n 0, 1) := by decide +kernel
theorem dX5_init_1 : decode cX5_init 1 = .ok (.invokespecial 3, 3) := by decide +kernel
theorem dX5_init_4 : decode cX5_init 4 = .ok (.aload_n 0, 1) := by decide +kernel
theorem dX5_init_5 : decode cX5_init 5 = .ok (.bipush 12, 2) := by decide +kernel
theorem dX5_init_7 : decode cX5_init 7 = .ok (.newarray .int, 2) := by decide +kernel
theorem dX5_init_9 : decode cX5_init 9 = .ok (.putfield 9, 3) := by decide +kernel
theorem dX5_init_12 : decode cX5_init 12 = .ok (.aload_n 0, 1) := by decide +kernel
theorem dX5_init_13 : decode cX5_init 13 = .ok (.bipush 12, 2) := by decide +kernel
theorem dX5_init_15 : decode cX5_init 15 = .ok (.newarray .int, 2) := by decide +kernel
theorem dX5_init_17 : decode cX5_init 17 = .ok (.putfield 15, 3) := by decide +kernel
theorem dX5_init_20 : decode cX5_init 20 = .ok (.aload_n 0, 1) := by decide +kernel
theorem dX5_init_21 : decode cX5_init 21 = .ok (.bipush 40, 2) := by decide +kernel
theorem dX5_init_23 : decode cX5_init 23 = .ok (.newarray .int, 2) := by decide +kernel
theorem dX5_init_25 : decode cX5_init 25 = .ok (.putfield 18, 3) := by decide +kernel
theorem dX5_init_28 : decode cX5_init 28 = .ok (.aload_n 0, 1) := by decide +kernel
theorem dX5_init_29 : decode cX5_init 29 = .ok (.bipush 40, 2) := by decide +kernel
theorem dX5_init_31 : decode cX5_init 31 = .ok (.newarray .int, 2) := by decide +kernel
theorem dX5_init_33 : decode cX5_init 33 = .ok (.putfield 21, 3) := by decide +kernel
theorem dX5_init_36 : decode cX5_init 36 = .ok (.aload_n 0, 1) := by decide +kernel
theorem dX5_init_37 : decode cX5_init 37 = .ok (.iconst 0, 1) := by decide +kernel
theorem dX5_init_38 : decode cX5_init 38 = .ok (.putfield 24, 3) := by decide +kernel
theorem dX5_init_41 : decode cX5_init 41 = .ok (.aload_n 0, 1) := by decide +kernel
theorem dX5_init_42 : decode cX5_init 42 = .ok (.iconst 0, 1) := by decide +kernel
theorem dX5_init_43 : decode cX5_init 43 = .ok (.putfield 28, 3) := by decide +kernel
theorem dX5_init_46 : decode cX5_init 46 = .ok (.aload_n 0, 1) := by decide +kernel
theorem dX5_init_47 : decode cX5_init 47 = .ok (.iconst (-1), 1) := by decide +kernel
theorem dX5_init_48 : decode cX5_init 48 = .ok (.putfield 31, 3) := by decide +kernel
theorem dX5_init_51 : decode cX5_init 51 = .ok (.return_, 1) := by decide +kernel
theorem dX5_moves_0 : decode cX5_moves 0 = .ok (.aload_n 0, 1) := by decide +kernel
theorem dX5_moves_1 : decode cX5_moves 1 = .ok (.getfield 24, 3) := by decide +kernel
theorem dX5_moves_4 : decode cX5_moves 4 = .ok (.ireturn, 1) := by decide +kernel
theorem dX5_readings_0 : decode cX5_readings 0 = .ok (.aload_n 0, 1) := by decide +kernel
theorem dX5_readings_1 : decode cX5_readings 1 = .ok (.getfield 28, 3) := by decide +kernel
theorem dX5_readings_4 : decode cX5_readings 4 = .ok (.ireturn, 1) := by decide +kernel
theorem dX5_start_0 : decode cX5_start 0 = .ok (.aload_n 0, 1) := by decide +kernel
theorem dX5_start_1 : decode cX5_start 1 = .ok (.getfield 31, 3) := by decide +kernel
theorem dX5_start_4 : decode cX5_start 4 = .ok (.ireturn, 1) := by decide +kernel
theorem dX5_restart_0 : decode cX5_restart 0 = .ok (.aload_n 0, 1) := by decide +kernel
theorem dX5_restart_1 : decode cX5_restart 1 = .ok (.iconst 0, 1) := by decide +kernel
theorem dX5_restart_2 : decode cX5_restart 2 = .ok (.putfield 24, 3) := by decide +kernel
theorem dX5_restart_5 : decode cX5_restart 5 = .ok (.aload_n 0, 1) := by decide +kernel
theorem dX5_restart_6 : decode cX5_restart 6 = .ok (.iconst 0, 1) := by decide +kernel
theorem dX5_restart_7 : decode cX5_restart 7 = .ok (.putfield 28, 3) := by decide +kernel
theorem dX5_restart_10 : decode cX5_restart 10 = .ok (.aload_n 0, 1) := by decide +kernel
theorem dX5_restart_11 : decode cX5_restart 11 = .ok (.iload_n 1, 1) := by decide +kernel
theorem dX5_restart_12 : decode cX5_restart 12 = .ok (.putfield 31, 3) := by decide +kernel
theorem dX5_restart_15 : decode cX5_restart 15 = .ok (.return_, 1) := by decide +kernel
theorem dX5_addMove_0 : decode cX5_addMove 0 = .ok (.aload_n 0, 1) := by decide +kernel
theorem dX5_addMove_1 : decode cX5_addMove 1 = .ok (.getfield 24, 3) := by decide +kernel
theorem dX5_addMove_4 : decode cX5_addMove 4 = .ok (.bipush 12, 2) := by decide +kernel
theorem dX5_addMove_6 : decode cX5_addMove 6 = .ok (.if_icmp .ge 33, 3) := by decide +kernel
theorem dX5_addMove_9 : decode cX5_addMove 9 = .ok (.aload_n 0, 1) := by decide +kernel
theorem dX5_addMove_10 : decode cX5_addMove 10 = .ok (.getfield 9, 3) := by decide +kernel
theorem dX5_addMove_13 : decode cX5_addMove 13 = .ok (.aload_n 0, 1) := by decide +kernel
theorem dX5_addMove_14 : decode cX5_addMove 14 = .ok (.getfield 24, 3) := by decide +kernel
theorem dX5_addMove_17 : decode cX5_addMove 17 = .ok (.iload_n 1, 1) := by decide +kernel
theorem dX5_addMove_18 : decode cX5_addMove 18 = .ok (.iastore, 1) := by decide +kernel
theorem dX5_addMove_19 : decode cX5_addMove 19 = .ok (.aload_n 0, 1) := by decide +kernel
theorem dX5_addMove_20 : decode cX5_addMove 20 = .ok (.getfield 15, 3) := by decide +kernel
theorem dX5_addMove_23 : decode cX5_addMove 23 = .ok (.aload_n 0, 1) := by decide +kernel
theorem dX5_addMove_24 : decode cX5_addMove 24 = .ok (.getfield 24, 3) := by decide +kernel
theorem dX5_addMove_27 : decode cX5_addMove 27 = .ok (.iload_n 2, 1) := by decide +kernel
theorem dX5_addMove_28 : decode cX5_addMove 28 = .ok (.iastore, 1) := by decide +kernel
theorem dX5_addMove_29 : decode cX5_addMove 29 = .ok (.aload_n 0, 1) := by decide +kernel
theorem dX5_addMove_30 : decode cX5_addMove 30 = .ok (.dup, 1) := by decide +kernel
theorem dX5_addMove_31 : decode cX5_addMove 31 = .ok (.getfield 24, 3) := by decide +kernel
theorem dX5_addMove_34 : decode cX5_addMove 34 = .ok (.iconst 1, 1) := by decide +kernel
theorem dX5_addMove_35 : decode cX5_addMove 35 = .ok (.iadd, 1) := by decide +kernel
theorem dX5_addMove_36 : decode cX5_addMove 36 = .ok (.putfield 24, 3) := by decide +kernel
theorem dX5_addMove_39 : decode cX5_addMove 39 = .ok (.return_, 1) := by decide +kernel
theorem dX5_addReading_0 : decode cX5_addReading 0 = .ok (.aload_n 0, 1) := by decide +kernel
theorem dX5_addReading_1 : decode cX5_addReading 1 = .ok (.getfield 28, 3) := by decide +kernel
theorem dX5_addReading_4 : decode cX5_addReading 4 = .ok (.bipush 40, 2) := by decide +kernel
theorem dX5_addReading_6 : decode cX5_addReading 6 = .ok (.if_icmp .ge 36, 3) := by decide +kernel
theorem dX5_addReading_9 : decode cX5_addReading 9 = .ok (.aload_n 0, 1) := by decide +kernel
theorem dX5_addReading_10 : decode cX5_addReading 10 = .ok (.getfield 18, 3) := by decide +kernel
theorem dX5_addReading_13 : decode cX5_addReading 13 = .ok (.aload_n 0, 1) := by decide +kernel
theorem dX5_addReading_14 : decode cX5_addReading 14 = .ok (.getfield 28, 3) := by decide +kernel
theorem dX5_addReading_17 : decode cX5_addReading 17 = .ok (.iload_n 1, 1) := by decide +kernel
theorem dX5_addReading_18 : decode cX5_addReading 18 = .ok (.iastore, 1) := by decide +kernel
theorem dX5_addReading_19 : decode cX5_addReading 19 = .ok (.aload_n 0, 1) := by decide +kernel
theorem dX5_addReading_20 : decode cX5_addReading 20 = .ok (.getfield 21, 3) := by decide +kernel
theorem dX5_addReading_23 : decode cX5_addReading 23 = .ok (.aload_n 0, 1) := by decide +kernel
theorem dX5_addReading_24 : decode cX5_addReading 24 = .ok (.getfield 28, 3) := by decide +kernel
theorem dX5_addReading_27 : decode cX5_addReading 27 = .ok (.aload_n 0, 1) := by decide +kernel
theorem dX5_addReading_28 : decode cX5_addReading 28 = .ok (.getfield 24, 3) := by decide +kernel
theorem dX5_addReading_31 : decode cX5_addReading 31 = .ok (.iastore, 1) := by decide +kernel
theorem dX5_addReading_32 : decode cX5_addReading 32 = .ok (.aload_n 0, 1) := by decide +kernel
theorem dX5_addReading_33 : decode cX5_addReading 33 = .ok (.dup, 1) := by decide +kernel
theorem dX5_addReading_34 : decode cX5_addReading 34 = .ok (.getfield 28, 3) := by decide +kernel
theorem dX5_addReading_37 : decode cX5_addReading 37 = .ok (.iconst 1, 1) := by decide +kernel
theorem dX5_addReading_38 : decode cX5_addReading 38 = .ok (.iadd, 1) := by decide +kernel
theorem dX5_addReading_39 : decode cX5_addReading 39 = .ok (.putfield 28, 3) := by decide +kernel
theorem dX5_addReading_42 : decode cX5_addReading 42 = .ok (.return_, 1) := by decide +kernel
theorem dX5_dx_0 : decode cX5_dx 0 = .ok (.iload_n 1, 1) := by decide +kernel
theorem dX5_dx_1 : decode cX5_dx 1 = .ok (.ifCond .lt 20, 3) := by decide +kernel
theorem dX5_dx_4 : decode cX5_dx 4 = .ok (.iload_n 1, 1) := by decide +kernel
theorem dX5_dx_5 : decode cX5_dx 5 = .ok (.aload_n 0, 1) := by decide +kernel
theorem dX5_dx_6 : decode cX5_dx 6 = .ok (.getfield 24, 3) := by decide +kernel
theorem dX5_dx_9 : decode cX5_dx 9 = .ok (.if_icmp .ge 12, 3) := by decide +kernel
theorem dX5_dx_12 : decode cX5_dx 12 = .ok (.aload_n 0, 1) := by decide +kernel
theorem dX5_dx_13 : decode cX5_dx 13 = .ok (.getfield 9, 3) := by decide +kernel
theorem dX5_dx_16 : decode cX5_dx 16 = .ok (.iload_n 1, 1) := by decide +kernel
theorem dX5_dx_17 : decode cX5_dx 17 = .ok (.iaload, 1) := by decide +kernel
theorem dX5_dx_18 : decode cX5_dx 18 = .ok (.goto 4, 3) := by decide +kernel
theorem dX5_dx_21 : decode cX5_dx 21 = .ok (.iconst 0, 1) := by decide +kernel
theorem dX5_dx_22 : decode cX5_dx 22 = .ok (.ireturn, 1) := by decide +kernel
theorem dX5_dy_0 : decode cX5_dy 0 = .ok (.iload_n 1, 1) := by decide +kernel
theorem dX5_dy_1 : decode cX5_dy 1 = .ok (.ifCond .lt 20, 3) := by decide +kernel
theorem dX5_dy_4 : decode cX5_dy 4 = .ok (.iload_n 1, 1) := by decide +kernel
theorem dX5_dy_5 : decode cX5_dy 5 = .ok (.aload_n 0, 1) := by decide +kernel
theorem dX5_dy_6 : decode cX5_dy 6 = .ok (.getfield 24, 3) := by decide +kernel
theorem dX5_dy_9 : decode cX5_dy 9 = .ok (.if_icmp .ge 12, 3) := by decide +kernel
theorem dX5_dy_12 : decode cX5_dy 12 = .ok (.aload_n 0, 1) := by decide +kernel
theorem dX5_dy_13 : decode cX5_dy 13 = .ok (.getfield 15, 3) := by decide +kernel
theorem dX5_dy_16 : decode cX5_dy 16 = .ok (.iload_n 1, 1) := by decide +kernel
theorem dX5_dy_17 : decode cX5_dy 17 = .ok (.iaload, 1) := by decide +kernel
theorem dX5_dy_18 : decode cX5_dy 18 = .ok (.goto 4, 3) := by decide +kernel
theorem dX5_dy_21 : decode cX5_dy 21 = .ok (.iconst 0, 1) := by decide +kernel
theorem dX5_dy_22 : decode cX5_dy 22 = .ok (.ireturn, 1) := by decide +kernel
theorem dX5_faultAt_0 : decode cX5_faultAt 0 = .ok (.iload_n 2, 1) := by decide +kernel
theorem dX5_faultAt_1 : decode cX5_faultAt 1 = .ok (.iconst (-1), 1) := by decide +kernel
theorem dX5_faultAt_2 : decode cX5_faultAt 2 = .ok (.if_icmp .ne 5, 3) := by decide +kernel
theorem dX5_faultAt_5 : decode cX5_faultAt 5 = .ok (.iconst 0, 1) := by decide +kernel
theorem dX5_faultAt_6 : decode cX5_faultAt 6 = .ok (.ireturn, 1) := by decide +kernel
theorem dX5_faultAt_7 : decode cX5_faultAt 7 = .ok (.iconst 0, 1) := by decide +kernel
theorem dX5_faultAt_8 : decode cX5_faultAt 8 = .ok (.istore_n 3, 1) := by decide +kernel
theorem dX5_faultAt_9 : decode cX5_faultAt 9 = .ok (.iconst 0, 1) := by decide +kernel
theorem dX5_faultAt_10 : decode cX5_faultAt 10 = .ok (.istore 4, 2) := by decide +kernel
theorem dX5_faultAt_12 : decode cX5_faultAt 12 = .ok (.iload 4, 2) := by decide +kernel
theorem dX5_faultAt_14 : decode cX5_faultAt 14 = .ok (.aload_n 0, 1) := by decide +kernel
theorem dX5_faultAt_15 : decode cX5_faultAt 15 = .ok (.getfield 28, 3) := by decide +kernel
theorem dX5_faultAt_18 : decode cX5_faultAt 18 = .ok (.if_icmp .ge 35, 3) := by decide +kernel
theorem dX5_faultAt_21 : decode cX5_faultAt 21 = .ok (.aload_n 0, 1) := by decide +kernel
theorem dX5_faultAt_22 : decode cX5_faultAt 22 = .ok (.getfield 21, 3) := by decide +kernel
theorem dX5_faultAt_25 : decode cX5_faultAt 25 = .ok (.iload 4, 2) := by decide +kernel
theorem dX5_faultAt_27 : decode cX5_faultAt 27 = .ok (.iaload, 1) := by decide +kernel
theorem dX5_faultAt_28 : decode cX5_faultAt 28 = .ok (.iload_n 1, 1) := by decide +kernel
theorem dX5_faultAt_29 : decode cX5_faultAt 29 = .ok (.if_icmp .ne 18, 3) := by decide +kernel
theorem dX5_faultAt_32 : decode cX5_faultAt 32 = .ok (.iload_n 3, 1) := by decide +kernel
theorem dX5_faultAt_33 : decode cX5_faultAt 33 = .ok (.aload_n 0, 1) := by decide +kernel
theorem dX5_faultAt_34 : decode cX5_faultAt 34 = .ok (.getfield 18, 3) := by decide +kernel
theorem dX5_faultAt_37 : decode cX5_faultAt 37 = .ok (.iload 4, 2) := by decide +kernel
theorem dX5_faultAt_39 : decode cX5_faultAt 39 = .ok (.iaload, 1) := by decide +kernel
theorem dX5_faultAt_40 : decode cX5_faultAt 40 = .ok (.iload_n 2, 1) := by decide +kernel
theorem dX5_faultAt_41 : decode cX5_faultAt 41 = .ok (.isub, 1) := by decide +kernel
theorem dX5_faultAt_42 : decode cX5_faultAt 42 = .ok (.invokestatic 34, 3) := by decide +kernel
theorem dX5_faultAt_45 : decode cX5_faultAt 45 = .ok (.iadd, 1) := by decide +kernel
theorem dX5_faultAt_46 : decode cX5_faultAt 46 = .ok (.istore_n 3, 1) := by decide +kernel
theorem dX5_faultAt_47 : decode cX5_faultAt 47 = .ok (.iinc 4 1, 3) := by decide +kernel
theorem dX5_faultAt_50 : decode cX5_faultAt 50 = .ok (.goto (-38), 3) := by decide +kernel
theorem dX5_faultAt_53 : decode cX5_faultAt 53 = .ok (.iload_n 3, 1) := by decide +kernel
theorem dX5_faultAt_54 : decode cX5_faultAt 54 = .ok (.ireturn, 1) := by decide +kernel
theorem dX6_init_0 : decode cX6_init 0 = .ok (.aload_n 0, 1) := by decide +kernel
theorem dX6_init_1 : decode cX6_init 1 = .ok (.invokespecial 3, 3) := by decide +kernel
theorem dX6_init_4 : decode cX6_init 4 = .ok (.aload_n 0, 1) := by decide +kernel
theorem dX6_init_5 : decode cX6_init 5 = .ok (.sipush 160, 3) := by decide +kernel
theorem dX6_init_8 : decode cX6_init 8 = .ok (.newarray .byte, 2) := by decide +kernel
theorem dX6_init_10 : decode cX6_init 10 = .ok (.putfield 9, 3) := by decide +kernel
theorem dX6_init_13 : decode cX6_init 13 = .ok (.aload_n 0, 1) := by decide +kernel
theorem dX6_init_14 : decode cX6_init 14 = .ok (.iconst 0, 1) := by decide +kernel
theorem dX6_init_15 : decode cX6_init 15 = .ok (.putfield 15, 3) := by decide +kernel
theorem dX6_init_18 : decode cX6_init 18 = .ok (.return_, 1) := by decide +kernel
theorem dX6_size_0 : decode cX6_size 0 = .ok (.aload_n 0, 1) := by decide +kernel
theorem dX6_size_1 : decode cX6_size 1 = .ok (.getfield 15, 3) := by decide +kernel
theorem dX6_size_4 : decode cX6_size 4 = .ok (.ireturn, 1) := by decide +kernel
theorem dX6_append_0 : decode cX6_append 0 = .ok (.bipush 24, 2) := by decide +kernel
theorem dX6_append_2 : decode cX6_append 2 = .ok (.istore_n 2, 1) := by decide +kernel
theorem dX6_append_3 : decode cX6_append 3 = .ok (.iload_n 2, 1) := by decide +kernel
theorem dX6_append_4 : decode cX6_append 4 = .ok (.ifCond .lt 42, 3) := by decide +kernel
theorem dX6_append_7 : decode cX6_append 7 = .ok (.aload_n 0, 1) := by decide +kernel
theorem dX6_append_8 : decode cX6_append 8 = .ok (.getfield 15, 3) := by decide +kernel
theorem dX6_append_11 : decode cX6_append 11 = .ok (.sipush 160, 3) := by decide +kernel
theorem dX6_append_14 : decode cX6_append 14 = .ok (.if_icmp .ge 32, 3) := by decide +kernel
theorem dX6_append_17 : decode cX6_append 17 = .ok (.aload_n 0, 1) := by decide +kernel
theorem dX6_append_18 : decode cX6_append 18 = .ok (.getfield 9, 3) := by decide +kernel
theorem dX6_append_21 : decode cX6_append 21 = .ok (.aload_n 0, 1) := by decide +kernel
theorem dX6_append_22 : decode cX6_append 22 = .ok (.getfield 15, 3) := by decide +kernel
theorem dX6_append_25 : decode cX6_append 25 = .ok (.iload_n 1, 1) := by decide +kernel
theorem dX6_append_26 : decode cX6_append 26 = .ok (.iload_n 2, 1) := by decide +kernel
theorem dX6_append_27 : decode cX6_append 27 = .ok (.ishr, 1) := by decide +kernel
theorem dX6_append_28 : decode cX6_append 28 = .ok (.i2b, 1) := by decide +kernel
theorem dX6_append_29 : decode cX6_append 29 = .ok (.bastore, 1) := by decide +kernel
theorem dX6_append_30 : decode cX6_append 30 = .ok (.aload_n 0, 1) := by decide +kernel
theorem dX6_append_31 : decode cX6_append 31 = .ok (.dup, 1) := by decide +kernel
theorem dX6_append_32 : decode cX6_append 32 = .ok (.getfield 15, 3) := by decide +kernel
theorem dX6_append_35 : decode cX6_append 35 = .ok (.iconst 1, 1) := by decide +kernel
theorem dX6_append_36 : decode cX6_append 36 = .ok (.iadd, 1) := by decide +kernel
theorem dX6_append_37 : decode cX6_append 37 = .ok (.putfield 15, 3) := by decide +kernel
theorem dX6_append_40 : decode cX6_append 40 = .ok (.iinc 2 (-8), 3) := by decide +kernel
theorem dX6_append_43 : decode cX6_append 43 = .ok (.goto (-40), 3) := by decide +kernel
theorem dX6_append_46 : decode cX6_append 46 = .ok (.return_, 1) := by decide +kernel
theorem dX6_cut_0 : decode cX6_cut 0 = .ok (.iload_n 1, 1) := by decide +kernel
theorem dX6_cut_1 : decode cX6_cut 1 = .ok (.ifCond .lt 11, 3) := by decide +kernel
theorem dX6_cut_4 : decode cX6_cut 4 = .ok (.iload_n 1, 1) := by decide +kernel
theorem dX6_cut_5 : decode cX6_cut 5 = .ok (.aload_n 0, 1) := by decide +kernel
theorem dX6_cut_6 : decode cX6_cut 6 = .ok (.getfield 15, 3) := by decide +kernel
theorem dX6_cut_9 : decode cX6_cut 9 = .ok (.if_icmp .le 5, 3) := by decide +kernel
theorem dX6_cut_12 : decode cX6_cut 12 = .ok (.iconst 0, 1) := by decide +kernel
theorem dX6_cut_13 : decode cX6_cut 13 = .ok (.ireturn, 1) := by decide +kernel
theorem dX6_cut_14 : decode cX6_cut 14 = .ok (.aload_n 0, 1) := by decide +kernel
theorem dX6_cut_15 : decode cX6_cut 15 = .ok (.iload_n 1, 1) := by decide +kernel
theorem dX6_cut_16 : decode cX6_cut 16 = .ok (.putfield 15, 3) := by decide +kernel
theorem dX6_cut_19 : decode cX6_cut 19 = .ok (.iconst 1, 1) := by decide +kernel
theorem dX6_cut_20 : decode cX6_cut 20 = .ok (.ireturn, 1) := by decide +kernel
theorem dX6_signedAt_0 : decode cX6_signedAt 0 = .ok (.iload_n 1, 1) := by decide +kernel
theorem dX6_signedAt_1 : decode cX6_signedAt 1 = .ok (.ifCond .lt 20, 3) := by decide +kernel
theorem dX6_signedAt_4 : decode cX6_signedAt 4 = .ok (.iload_n 1, 1) := by decide +kernel
theorem dX6_signedAt_5 : decode cX6_signedAt 5 = .ok (.aload_n 0, 1) := by decide +kernel
theorem dX6_signedAt_6 : decode cX6_signedAt 6 = .ok (.getfield 15, 3) := by decide +kernel
theorem dX6_signedAt_9 : decode cX6_signedAt 9 = .ok (.if_icmp .ge 12, 3) := by decide +kernel
theorem dX6_signedAt_12 : decode cX6_signedAt 12 = .ok (.aload_n 0, 1) := by decide +kernel
theorem dX6_signedAt_13 : decode cX6_signedAt 13 = .ok (.getfield 9, 3) := by decide +kernel
theorem dX6_signedAt_16 : decode cX6_signedAt 16 = .ok (.iload_n 1, 1) := by decide +kernel
theorem dX6_signedAt_17 : decode cX6_signedAt 17 = .ok (.baload, 1) := by decide +kernel
theorem dX6_signedAt_18 : decode cX6_signedAt 18 = .ok (.goto 4, 3) := by decide +kernel
theorem dX6_signedAt_21 : decode cX6_signedAt 21 = .ok (.iconst 0, 1) := by decide +kernel
theorem dX6_signedAt_22 : decode cX6_signedAt 22 = .ok (.ireturn, 1) := by decide +kernel
theorem dX6_unsignedAt_0 : decode cX6_unsignedAt 0 = .ok (.aload_n 0, 1) := by decide +kernel
theorem dX6_unsignedAt_1 : decode cX6_unsignedAt 1 = .ok (.iload_n 1, 1) := by decide +kernel
theorem dX6_unsignedAt_2 : decode cX6_unsignedAt 2 = .ok (.invokevirtual 19, 3) := by decide +kernel
theorem dX6_unsignedAt_5 : decode cX6_unsignedAt 5 = .ok (.sipush 255, 3) := by decide +kernel
theorem dX6_unsignedAt_8 : decode cX6_unsignedAt 8 = .ok (.iand, 1) := by decide +kernel
theorem dX6_unsignedAt_9 : decode cX6_unsignedAt 9 = .ok (.ireturn, 1) := by decide +kernel
theorem dX7_init_0 : decode cX7_init 0 = .ok (.aload_n 0, 1) := by decide +kernel
theorem dX7_init_1 : decode cX7_init 1 = .ok (.invokespecial 3, 3) := by decide +kernel
theorem dX7_init_4 : decode cX7_init 4 = .ok (.aload_n 0, 1) := by decide +kernel
theorem dX7_init_5 : decode cX7_init 5 = .ok (.bipush 9, 2) := by decide +kernel
theorem dX7_init_7 : decode cX7_init 7 = .ok (.newarray .int, 2) := by decide +kernel
theorem dX7_init_9 : decode cX7_init 9 = .ok (.putfield 9, 3) := by decide +kernel
theorem dX7_init_12 : decode cX7_init 12 = .ok (.aload_n 0, 1) := by decide +kernel
theorem dX7_init_13 : decode cX7_init 13 = .ok (.bipush 9, 2) := by decide +kernel
theorem dX7_init_15 : decode cX7_init 15 = .ok (.newarray .int, 2) := by decide +kernel
theorem dX7_init_17 : decode cX7_init 17 = .ok (.putfield 15, 3) := by decide +kernel
theorem dX7_init_20 : decode cX7_init 20 = .ok (.aload_n 0, 1) := by decide +kernel
theorem dX7_init_21 : decode cX7_init 21 = .ok (.iconst 0, 1) := by decide +kernel
theorem dX7_init_22 : decode cX7_init 22 = .ok (.putfield 18, 3) := by decide +kernel
theorem dX7_init_25 : decode cX7_init 25 = .ok (.aload_n 0, 1) := by decide +kernel
theorem dX7_init_26 : decode cX7_init 26 = .ok (.sipush 144, 3) := by decide +kernel
theorem dX7_init_29 : decode cX7_init 29 = .ok (.newarray .int, 2) := by decide +kernel
theorem dX7_init_31 : decode cX7_init 31 = .ok (.putfield 22, 3) := by decide +kernel
theorem dX7_init_34 : decode cX7_init 34 = .ok (.aload_n 0, 1) := by decide +kernel
theorem dX7_init_35 : decode cX7_init 35 = .ok (.iconst 0, 1) := by decide +kernel
theorem dX7_init_36 : decode cX7_init 36 = .ok (.putfield 25, 3) := by decide +kernel
theorem dX7_init_39 : decode cX7_init 39 = .ok (.aload_n 0, 1) := by decide +kernel
theorem dX7_init_40 : decode cX7_init 40 = .ok (.sipush 1296, 3) := by decide +kernel
theorem dX7_init_43 : decode cX7_init 43 = .ok (.newarray .int, 2) := by decide +kernel
theorem dX7_init_45 : decode cX7_init 45 = .ok (.putfield 28, 3) := by decide +kernel
theorem dX7_init_48 : decode cX7_init 48 = .ok (.aload_n 0, 1) := by decide +kernel
theorem dX7_init_49 : decode cX7_init 49 = .ok (.iconst (-1), 1) := by decide +kernel
theorem dX7_init_50 : decode cX7_init 50 = .ok (.putfield 31, 3) := by decide +kernel
theorem dX7_init_53 : decode cX7_init 53 = .ok (.aload_n 0, 1) := by decide +kernel
theorem dX7_init_54 : decode cX7_init 54 = .ok (.iconst (-1), 1) := by decide +kernel
theorem dX7_init_55 : decode cX7_init 55 = .ok (.putfield 34, 3) := by decide +kernel
theorem dX7_init_58 : decode cX7_init 58 = .ok (.aload_n 0, 1) := by decide +kernel
theorem dX7_init_59 : decode cX7_init 59 = .ok (.aload_n 1, 1) := by decide +kernel
theorem dX7_init_60 : decode cX7_init 60 = .ok (.putfield 37, 3) := by decide +kernel
theorem dX7_init_63 : decode cX7_init 63 = .ok (.aload_n 0, 1) := by decide +kernel
theorem dX7_init_64 : decode cX7_init 64 = .ok (.aload_n 2, 1) := by decide +kernel
theorem dX7_init_65 : decode cX7_init 65 = .ok (.putfield 41, 3) := by decide +kernel
theorem dX7_init_68 : decode cX7_init 68 = .ok (.aload_n 0, 1) := by decide +kernel
theorem dX7_init_69 : decode cX7_init 69 = .ok (.aload_n 3, 1) := by decide +kernel
theorem dX7_init_70 : decode cX7_init 70 = .ok (.putfield 45, 3) := by decide +kernel
theorem dX7_init_73 : decode cX7_init 73 = .ok (.return_, 1) := by decide +kernel
theorem dX7_firstPair_0 : decode cX7_firstPair 0 = .ok (.aload_n 0, 1) := by decide +kernel
theorem dX7_firstPair_1 : decode cX7_firstPair 1 = .ok (.getfield 34, 3) := by decide +kernel
theorem dX7_firstPair_4 : decode cX7_firstPair 4 = .ok (.ireturn, 1) := by decide +kernel
theorem dX7_twinsOfTape_0 : decode cX7_twinsOfTape 0 = .ok (.aload_n 0, 1) := by decide +kernel
theorem dX7_twinsOfTape_1 : decode cX7_twinsOfTape 1 = .ok (.iconst 0, 1) := by decide +kernel
theorem dX7_twinsOfTape_2 : decode cX7_twinsOfTape 2 = .ok (.aload_n 0, 1) := by decide +kernel
theorem dX7_twinsOfTape_3 : decode cX7_twinsOfTape 3 = .ok (.getfield 45, 3) := by decide +kernel
theorem dX7_twinsOfTape_6 : decode cX7_twinsOfTape 6 = .ok (.invokevirtual 49, 3) := by decide +kernel
theorem dX7_twinsOfTape_9 : decode cX7_twinsOfTape 9 = .ok (.invokevirtual 55, 3) := by decide +kernel
theorem dX7_twinsOfTape_12 : decode cX7_twinsOfTape 12 = .ok (.istore_n 1, 1) := by decide +kernel
theorem dX7_twinsOfTape_13 : decode cX7_twinsOfTape 13 = .ok (.iload_n 1, 1) := by decide +kernel
theorem dX7_twinsOfTape_14 : decode cX7_twinsOfTape 14 = .ok (.iconst (-1), 1) := by decide +kernel
theorem dX7_twinsOfTape_15 : decode cX7_twinsOfTape 15 = .ok (.if_icmp .eq 11, 3) := by decide +kernel
theorem dX7_twinsOfTape_18 : decode cX7_twinsOfTape 18 = .ok (.aload_n 0, 1) := by decide +kernel
theorem dX7_twinsOfTape_19 : decode cX7_twinsOfTape 19 = .ok (.aload_n 0, 1) := by decide +kernel
theorem dX7_twinsOfTape_20 : decode cX7_twinsOfTape 20 = .ok (.getfield 31, 3) := by decide +kernel
theorem dX7_twinsOfTape_23 : decode cX7_twinsOfTape 23 = .ok (.putfield 34, 3) := by decide +kernel
theorem dX7_twinsOfTape_26 : decode cX7_twinsOfTape 26 = .ok (.iload_n 1, 1) := by decide +kernel
theorem dX7_twinsOfTape_27 : decode cX7_twinsOfTape 27 = .ok (.ireturn, 1) := by decide +kernel
theorem dX7_tellingRoute_0 : decode cX7_tellingRoute 0 = .ok (.iload_n 1, 1) := by decide +kernel
theorem dX7_tellingRoute_1 : decode cX7_tellingRoute 1 = .ok (.iconst 1, 1) := by decide +kernel
theorem dX7_tellingRoute_2 : decode cX7_tellingRoute 2 = .ok (.if_icmp .lt 21, 3) := by decide +kernel
theorem dX7_tellingRoute_5 : decode cX7_tellingRoute 5 = .ok (.iload_n 1, 1) := by decide +kernel
theorem dX7_tellingRoute_6 : decode cX7_tellingRoute 6 = .ok (.bipush 8, 2) := by decide +kernel
theorem dX7_tellingRoute_8 : decode cX7_tellingRoute 8 = .ok (.if_icmp .gt 15, 3) := by decide +kernel
theorem dX7_tellingRoute_11 : decode cX7_tellingRoute 11 = .ok (.aload_n 0, 1) := by decide +kernel
theorem dX7_tellingRoute_12 : decode cX7_tellingRoute 12 = .ok (.getfield 45, 3) := by decide +kernel
theorem dX7_tellingRoute_15 : decode cX7_tellingRoute 15 = .ok (.invokevirtual 49, 3) := by decide +kernel
theorem dX7_tellingRoute_18 : decode cX7_tellingRoute 18 = .ok (.iload_n 1, 1) := by decide +kernel
theorem dX7_tellingRoute_19 : decode cX7_tellingRoute 19 = .ok (.irem, 1) := by decide +kernel
theorem dX7_tellingRoute_20 : decode cX7_tellingRoute 20 = .ok (.ifCond .eq 5, 3) := by decide +kernel
theorem dX7_tellingRoute_23 : decode cX7_tellingRoute 23 = .ok (.iconst (-1), 1) := by decide +kernel
theorem dX7_tellingRoute_24 : decode cX7_tellingRoute 24 = .ok (.ireturn, 1) := by decide +kernel
theorem dX7_tellingRoute_25 : decode cX7_tellingRoute 25 = .ok (.aload_n 0, 1) := by decide +kernel
theorem dX7_tellingRoute_26 : decode cX7_tellingRoute 26 = .ok (.getfield 45, 3) := by decide +kernel
theorem dX7_tellingRoute_29 : decode cX7_tellingRoute 29 = .ok (.invokevirtual 49, 3) := by decide +kernel
theorem dX7_tellingRoute_32 : decode cX7_tellingRoute 32 = .ok (.iload_n 1, 1) := by decide +kernel
theorem dX7_tellingRoute_33 : decode cX7_tellingRoute 33 = .ok (.idiv, 1) := by decide +kernel
theorem dX7_tellingRoute_34 : decode cX7_tellingRoute 34 = .ok (.istore_n 2, 1) := by decide +kernel
theorem dX7_tellingRoute_35 : decode cX7_tellingRoute 35 = .ok (.iconst (-1), 1) := by decide +kernel
theorem dX7_tellingRoute_36 : decode cX7_tellingRoute 36 = .ok (.istore_n 3, 1) := by decide +kernel
theorem dX7_tellingRoute_37 : decode cX7_tellingRoute 37 = .ok (.iconst 0, 1) := by decide +kernel
theorem dX7_tellingRoute_38 : decode cX7_tellingRoute 38 = .ok (.istore 4, 2) := by decide +kernel
theorem dX7_tellingRoute_40 : decode cX7_tellingRoute 40 = .ok (.iconst 0, 1) := by decide +kernel
theorem dX7_tellingRoute_41 : decode cX7_tellingRoute 41 = .ok (.istore 5, 2) := by decide +kernel
theorem dX7_tellingRoute_43 : decode cX7_tellingRoute 43 = .ok (.iload 5, 2) := by decide +kernel
theorem dX7_tellingRoute_45 : decode cX7_tellingRoute 45 = .ok (.iload_n 1, 1) := by decide +kernel
theorem dX7_tellingRoute_46 : decode cX7_tellingRoute 46 = .ok (.if_icmp .ge 47, 3) := by decide +kernel
theorem dX7_tellingRoute_49 : decode cX7_tellingRoute 49 = .ok (.aload_n 0, 1) := by decide +kernel
theorem dX7_tellingRoute_50 : decode cX7_tellingRoute 50 = .ok (.iload 5, 2) := by decide +kernel
theorem dX7_tellingRoute_52 : decode cX7_tellingRoute 52 = .ok (.iload_n 2, 1) := by decide +kernel
theorem dX7_tellingRoute_53 : decode cX7_tellingRoute 53 = .ok (.imul, 1) := by decide +kernel
theorem dX7_tellingRoute_54 : decode cX7_tellingRoute 54 = .ok (.iload_n 2, 1) := by decide +kernel
theorem dX7_tellingRoute_55 : decode cX7_tellingRoute 55 = .ok (.invokevirtual 55, 3) := by decide +kernel
theorem dX7_tellingRoute_58 : decode cX7_tellingRoute 58 = .ok (.istore 6, 2) := by decide +kernel
theorem dX7_tellingRoute_60 : decode cX7_tellingRoute 60 = .ok (.iload 6, 2) := by decide +kernel
theorem dX7_tellingRoute_62 : decode cX7_tellingRoute 62 = .ok (.iconst (-1), 1) := by decide +kernel
theorem dX7_tellingRoute_63 : decode cX7_tellingRoute 63 = .ok (.if_icmp .ne 5, 3) := by decide +kernel
theorem dX7_tellingRoute_66 : decode cX7_tellingRoute 66 = .ok (.iconst (-1), 1) := by decide +kernel
theorem dX7_tellingRoute_67 : decode cX7_tellingRoute 67 = .ok (.ireturn, 1) := by decide +kernel
theorem dX7_tellingRoute_68 : decode cX7_tellingRoute 68 = .ok (.iload_n 3, 1) := by decide +kernel
theorem dX7_tellingRoute_69 : decode cX7_tellingRoute 69 = .ok (.iconst (-1), 1) := by decide +kernel
theorem dX7_tellingRoute_70 : decode cX7_tellingRoute 70 = .ok (.if_icmp .eq 10, 3) := by decide +kernel
theorem dX7_tellingRoute_73 : decode cX7_tellingRoute 73 = .ok (.iload 6, 2) := by decide +kernel
theorem dX7_tellingRoute_75 : decode cX7_tellingRoute 75 = .ok (.iload 4, 2) := by decide +kernel
theorem dX7_tellingRoute_77 : decode cX7_tellingRoute 77 = .ok (.if_icmp .ge 10, 3) := by decide +kernel
theorem dX7_tellingRoute_80 : decode cX7_tellingRoute 80 = .ok (.iload 5, 2) := by decide +kernel
theorem dX7_tellingRoute_82 : decode cX7_tellingRoute 82 = .ok (.istore_n 3, 1) := by decide +kernel
theorem dX7_tellingRoute_83 : decode cX7_tellingRoute 83 = .ok (.iload 6, 2) := by decide +kernel
theorem dX7_tellingRoute_85 : decode cX7_tellingRoute 85 = .ok (.istore 4, 2) := by decide +kernel
theorem dX7_tellingRoute_87 : decode cX7_tellingRoute 87 = .ok (.iinc 5 1, 3) := by decide +kernel
theorem dX7_tellingRoute_90 : decode cX7_tellingRoute 90 = .ok (.goto (-47), 3) := by decide +kernel
theorem dX7_tellingRoute_93 : decode cX7_tellingRoute 93 = .ok (.iload_n 3, 1) := by decide +kernel
theorem dX7_tellingRoute_94 : decode cX7_tellingRoute 94 = .ok (.ireturn, 1) := by decide +kernel
theorem dX7_countTwins_0 : decode cX7_countTwins 0 = .ok (.aload_n 0, 1) := by decide +kernel
theorem dX7_countTwins_1 : decode cX7_countTwins 1 = .ok (.iload_n 1, 1) := by decide +kernel
theorem dX7_countTwins_2 : decode cX7_countTwins 2 = .ok (.iload_n 2, 1) := by decide +kernel
theorem dX7_countTwins_3 : decode cX7_countTwins 3 = .ok (.invokevirtual 59, 3) := by decide +kernel
theorem dX7_countTwins_6 : decode cX7_countTwins 6 = .ok (.ifCond .ne 5, 3) := by decide +kernel
theorem dX7_countTwins_9 : decode cX7_countTwins 9 = .ok (.iconst (-1), 1) := by decide +kernel
theorem dX7_countTwins_10 : decode cX7_countTwins 10 = .ok (.ireturn, 1) := by decide +kernel
theorem dX7_countTwins_11 : decode cX7_countTwins 11 = .ok (.aload_n 0, 1) := by decide +kernel
theorem dX7_countTwins_12 : decode cX7_countTwins 12 = .ok (.invokevirtual 63, 3) := by decide +kernel
theorem dX7_countTwins_15 : decode cX7_countTwins 15 = .ok (.aload_n 0, 1) := by decide +kernel
theorem dX7_countTwins_16 : decode cX7_countTwins 16 = .ok (.iconst (-1), 1) := by decide +kernel
theorem dX7_countTwins_17 : decode cX7_countTwins 17 = .ok (.putfield 31, 3) := by decide +kernel
theorem dX7_countTwins_20 : decode cX7_countTwins 20 = .ok (.iconst 0, 1) := by decide +kernel
theorem dX7_countTwins_21 : decode cX7_countTwins 21 = .ok (.istore_n 3, 1) := by decide +kernel
theorem dX7_countTwins_22 : decode cX7_countTwins 22 = .ok (.iconst 0, 1) := by decide +kernel
theorem dX7_countTwins_23 : decode cX7_countTwins 23 = .ok (.istore 4, 2) := by decide +kernel
theorem dX7_countTwins_25 : decode cX7_countTwins 25 = .ok (.iload 4, 2) := by decide +kernel
theorem dX7_countTwins_27 : decode cX7_countTwins 27 = .ok (.aload_n 0, 1) := by decide +kernel
theorem dX7_countTwins_28 : decode cX7_countTwins 28 = .ok (.getfield 25, 3) := by decide +kernel
theorem dX7_countTwins_31 : decode cX7_countTwins 31 = .ok (.if_icmp .ge 82, 3) := by decide +kernel
theorem dX7_countTwins_34 : decode cX7_countTwins 34 = .ok (.iload 4, 2) := by decide +kernel
theorem dX7_countTwins_36 : decode cX7_countTwins 36 = .ok (.iconst 1, 1) := by decide +kernel
theorem dX7_countTwins_37 : decode cX7_countTwins 37 = .ok (.iadd, 1) := by decide +kernel
theorem dX7_countTwins_38 : decode cX7_countTwins 38 = .ok (.istore 5, 2) := by decide +kernel
theorem dX7_countTwins_40 : decode cX7_countTwins 40 = .ok (.iload 5, 2) := by decide +kernel
theorem dX7_countTwins_42 : decode cX7_countTwins 42 = .ok (.aload_n 0, 1) := by decide +kernel
theorem dX7_countTwins_43 : decode cX7_countTwins 43 = .ok (.getfield 25, 3) := by decide +kernel
theorem dX7_countTwins_46 : decode cX7_countTwins 46 = .ok (.if_icmp .ge 61, 3) := by decide +kernel
theorem dX7_countTwins_49 : decode cX7_countTwins 49 = .ok (.aload_n 0, 1) := by decide +kernel
theorem dX7_countTwins_50 : decode cX7_countTwins 50 = .ok (.iload 4, 2) := by decide +kernel
theorem dX7_countTwins_52 : decode cX7_countTwins 52 = .ok (.iload 5, 2) := by decide +kernel
theorem dX7_countTwins_54 : decode cX7_countTwins 54 = .ok (.invokevirtual 66, 3) := by decide +kernel
theorem dX7_countTwins_57 : decode cX7_countTwins 57 = .ok (.ifCond .eq 44, 3) := by decide +kernel
theorem dX7_countTwins_60 : decode cX7_countTwins 60 = .ok (.iinc 3 1, 3) := by decide +kernel
theorem dX7_countTwins_63 : decode cX7_countTwins 63 = .ok (.aload_n 0, 1) := by decide +kernel
theorem dX7_countTwins_64 : decode cX7_countTwins 64 = .ok (.aload_n 0, 1) := by decide +kernel
theorem dX7_countTwins_65 : decode cX7_countTwins 65 = .ok (.getfield 31, 3) := by decide +kernel
theorem dX7_countTwins_68 : decode cX7_countTwins 68 = .ok (.iconst (-1), 1) := by decide +kernel
theorem dX7_countTwins_69 : decode cX7_countTwins 69 = .ok (.if_icmp .ne 25, 3) := by decide +kernel
theorem dX7_countTwins_72 : decode cX7_countTwins 72 = .ok (.sipush 200, 3) := by decide +kernel
theorem dX7_countTwins_75 : decode cX7_countTwins 75 = .ok (.aload_n 0, 1) := by decide +kernel
theorem dX7_countTwins_76 : decode cX7_countTwins 76 = .ok (.getfield 22, 3) := by decide +kernel
theorem dX7_countTwins_79 : decode cX7_countTwins 79 = .ok (.iload 4, 2) := by decide +kernel
theorem dX7_countTwins_81 : decode cX7_countTwins 81 = .ok (.iaload, 1) := by decide +kernel
theorem dX7_countTwins_82 : decode cX7_countTwins 82 = .ok (.imul, 1) := by decide +kernel
theorem dX7_countTwins_83 : decode cX7_countTwins 83 = .ok (.aload_n 0, 1) := by decide +kernel
theorem dX7_countTwins_84 : decode cX7_countTwins 84 = .ok (.getfield 22, 3) := by decide +kernel
theorem dX7_countTwins_87 : decode cX7_countTwins 87 = .ok (.iload 5, 2) := by decide +kernel
theorem dX7_countTwins_89 : decode cX7_countTwins 89 = .ok (.iaload, 1) := by decide +kernel
theorem dX7_countTwins_90 : decode cX7_countTwins 90 = .ok (.iadd, 1) := by decide +kernel
theorem dX7_countTwins_91 : decode cX7_countTwins 91 = .ok (.goto 7, 3) := by decide +kernel
theorem dX7_countTwins_94 : decode cX7_countTwins 94 = .ok (.aload_n 0, 1) := by decide +kernel
theorem dX7_countTwins_95 : decode cX7_countTwins 95 = .ok (.getfield 31, 3) := by decide +kernel
theorem dX7_countTwins_98 : decode cX7_countTwins 98 = .ok (.putfield 31, 3) := by decide +kernel
theorem dX7_countTwins_101 : decode cX7_countTwins 101 = .ok (.iinc 5 1, 3) := by decide +kernel
theorem dX7_countTwins_104 : decode cX7_countTwins 104 = .ok (.goto (-64), 3) := by decide +kernel
theorem dX7_countTwins_107 : decode cX7_countTwins 107 = .ok (.iinc 4 1, 3) := by decide +kernel
theorem dX7_countTwins_110 : decode cX7_countTwins 110 = .ok (.goto (-85), 3) := by decide +kernel
theorem dX7_countTwins_113 : decode cX7_countTwins 113 = .ok (.iload_n 3, 1) := by decide +kernel
theorem dX7_countTwins_114 : decode cX7_countTwins 114 = .ok (.ireturn, 1) := by decide +kernel
theorem dX7_layRoute_0 : decode cX7_layRoute 0 = .ok (.iload_n 2, 1) := by decide +kernel
theorem dX7_layRoute_1 : decode cX7_layRoute 1 = .ok (.iconst 2, 1) := by decide +kernel
theorem dX7_layRoute_2 : decode cX7_layRoute 2 = .ok (.irem, 1) := by decide +kernel
theorem dX7_layRoute_3 : decode cX7_layRoute 3 = .ok (.ifCond .ne 9, 3) := by decide +kernel
theorem dX7_layRoute_6 : decode cX7_layRoute 6 = .ok (.iload_n 2, 1) := by decide +kernel
theorem dX7_layRoute_7 : decode cX7_layRoute 7 = .ok (.bipush 16, 2) := by decide +kernel
theorem dX7_layRoute_9 : decode cX7_layRoute 9 = .ok (.if_icmp .le 5, 3) := by decide +kernel
theorem dX7_layRoute_12 : decode cX7_layRoute 12 = .ok (.iconst 0, 1) := by decide +kernel
theorem dX7_layRoute_13 : decode cX7_layRoute 13 = .ok (.ireturn, 1) := by decide +kernel
theorem dX7_layRoute_14 : decode cX7_layRoute 14 = .ok (.aload_n 0, 1) := by decide +kernel
theorem dX7_layRoute_15 : decode cX7_layRoute 15 = .ok (.iload_n 2, 1) := by decide +kernel
theorem dX7_layRoute_16 : decode cX7_layRoute 16 = .ok (.iconst 2, 1) := by decide +kernel
theorem dX7_layRoute_17 : decode cX7_layRoute 17 = .ok (.idiv, 1) := by decide +kernel
theorem dX7_layRoute_18 : decode cX7_layRoute 18 = .ok (.putfield 18, 3) := by decide +kernel
theorem dX7_layRoute_21 : decode cX7_layRoute 21 = .ok (.iconst 0, 1) := by decide +kernel
theorem dX7_layRoute_22 : decode cX7_layRoute 22 = .ok (.istore_n 3, 1) := by decide +kernel
theorem dX7_layRoute_23 : decode cX7_layRoute 23 = .ok (.iload_n 3, 1) := by decide +kernel
theorem dX7_layRoute_24 : decode cX7_layRoute 24 = .ok (.aload_n 0, 1) := by decide +kernel
theorem dX7_layRoute_25 : decode cX7_layRoute 25 = .ok (.getfield 18, 3) := by decide +kernel
theorem dX7_layRoute_28 : decode cX7_layRoute 28 = .ok (.if_icmp .ge 85, 3) := by decide +kernel
theorem dX7_layRoute_31 : decode cX7_layRoute 31 = .ok (.aload_n 0, 1) := by decide +kernel
theorem dX7_layRoute_32 : decode cX7_layRoute 32 = .ok (.getfield 45, 3) := by decide +kernel
theorem dX7_layRoute_35 : decode cX7_layRoute 35 = .ok (.iload_n 1, 1) := by decide +kernel
theorem dX7_layRoute_36 : decode cX7_layRoute 36 = .ok (.iconst 2, 1) := by decide +kernel
theorem dX7_layRoute_37 : decode cX7_layRoute 37 = .ok (.iload_n 3, 1) := by decide +kernel
theorem dX7_layRoute_38 : decode cX7_layRoute 38 = .ok (.imul, 1) := by decide +kernel
theorem dX7_layRoute_39 : decode cX7_layRoute 39 = .ok (.iadd, 1) := by decide +kernel
theorem dX7_layRoute_40 : decode cX7_layRoute 40 = .ok (.invokevirtual 69, 3) := by decide +kernel
theorem dX7_layRoute_43 : decode cX7_layRoute 43 = .ok (.istore 4, 2) := by decide +kernel
theorem dX7_layRoute_45 : decode cX7_layRoute 45 = .ok (.aload_n 0, 1) := by decide +kernel
theorem dX7_layRoute_46 : decode cX7_layRoute 46 = .ok (.getfield 45, 3) := by decide +kernel
theorem dX7_layRoute_49 : decode cX7_layRoute 49 = .ok (.iload_n 1, 1) := by decide +kernel
theorem dX7_layRoute_50 : decode cX7_layRoute 50 = .ok (.iconst 2, 1) := by decide +kernel
theorem dX7_layRoute_51 : decode cX7_layRoute 51 = .ok (.iload_n 3, 1) := by decide +kernel
theorem dX7_layRoute_52 : decode cX7_layRoute 52 = .ok (.imul, 1) := by decide +kernel
theorem dX7_layRoute_53 : decode cX7_layRoute 53 = .ok (.iadd, 1) := by decide +kernel
theorem dX7_layRoute_54 : decode cX7_layRoute 54 = .ok (.iconst 1, 1) := by decide +kernel
theorem dX7_layRoute_55 : decode cX7_layRoute 55 = .ok (.iadd, 1) := by decide +kernel
theorem dX7_layRoute_56 : decode cX7_layRoute 56 = .ok (.invokevirtual 69, 3) := by decide +kernel
theorem dX7_layRoute_59 : decode cX7_layRoute 59 = .ok (.istore 5, 2) := by decide +kernel
theorem dX7_layRoute_61 : decode cX7_layRoute 61 = .ok (.iload 4, 2) := by decide +kernel
theorem dX7_layRoute_63 : decode cX7_layRoute 63 = .ok (.iload 5, 2) := by decide +kernel
theorem dX7_layRoute_65 : decode cX7_layRoute 65 = .ok (.invokestatic 73, 3) := by decide +kernel
theorem dX7_layRoute_68 : decode cX7_layRoute 68 = .ok (.ifCond .ne 5, 3) := by decide +kernel
theorem dX7_layRoute_71 : decode cX7_layRoute 71 = .ok (.iconst 0, 1) := by decide +kernel
theorem dX7_layRoute_72 : decode cX7_layRoute 72 = .ok (.ireturn, 1) := by decide +kernel
theorem dX7_layRoute_73 : decode cX7_layRoute 73 = .ok (.aload_n 0, 1) := by decide +kernel
theorem dX7_layRoute_74 : decode cX7_layRoute 74 = .ok (.getfield 9, 3) := by decide +kernel
theorem dX7_layRoute_77 : decode cX7_layRoute 77 = .ok (.iload_n 3, 1) := by decide +kernel
theorem dX7_layRoute_78 : decode cX7_layRoute 78 = .ok (.iconst 1, 1) := by decide +kernel
theorem dX7_layRoute_79 : decode cX7_layRoute 79 = .ok (.iadd, 1) := by decide +kernel
theorem dX7_layRoute_80 : decode cX7_layRoute 80 = .ok (.aload_n 0, 1) := by decide +kernel
theorem dX7_layRoute_81 : decode cX7_layRoute 81 = .ok (.getfield 9, 3) := by decide +kernel
theorem dX7_layRoute_84 : decode cX7_layRoute 84 = .ok (.iload_n 3, 1) := by decide +kernel
theorem dX7_layRoute_85 : decode cX7_layRoute 85 = .ok (.iaload, 1) := by decide +kernel
theorem dX7_layRoute_86 : decode cX7_layRoute 86 = .ok (.iload 4, 2) := by decide +kernel
theorem dX7_layRoute_88 : decode cX7_layRoute 88 = .ok (.iadd, 1) := by decide +kernel
theorem dX7_layRoute_89 : decode cX7_layRoute 89 = .ok (.iastore, 1) := by decide +kernel
theorem dX7_layRoute_90 : decode cX7_layRoute 90 = .ok (.aload_n 0, 1) := by decide +kernel
theorem dX7_layRoute_91 : decode cX7_layRoute 91 = .ok (.getfield 15, 3) := by decide +kernel
theorem dX7_layRoute_94 : decode cX7_layRoute 94 = .ok (.iload_n 3, 1) := by decide +kernel
theorem dX7_layRoute_95 : decode cX7_layRoute 95 = .ok (.iconst 1, 1) := by decide +kernel
theorem dX7_layRoute_96 : decode cX7_layRoute 96 = .ok (.iadd, 1) := by decide +kernel
theorem dX7_layRoute_97 : decode cX7_layRoute 97 = .ok (.aload_n 0, 1) := by decide +kernel
theorem dX7_layRoute_98 : decode cX7_layRoute 98 = .ok (.getfield 15, 3) := by decide +kernel
theorem dX7_layRoute_101 : decode cX7_layRoute 101 = .ok (.iload_n 3, 1) := by decide +kernel
theorem dX7_layRoute_102 : decode cX7_layRoute 102 = .ok (.iaload, 1) := by decide +kernel
theorem dX7_layRoute_103 : decode cX7_layRoute 103 = .ok (.iload 5, 2) := by decide +kernel
theorem dX7_layRoute_105 : decode cX7_layRoute 105 = .ok (.iadd, 1) := by decide +kernel
theorem dX7_layRoute_106 : decode cX7_layRoute 106 = .ok (.iastore, 1) := by decide +kernel
theorem dX7_layRoute_107 : decode cX7_layRoute 107 = .ok (.iinc 3 1, 3) := by decide +kernel
theorem dX7_layRoute_110 : decode cX7_layRoute 110 = .ok (.goto (-87), 3) := by decide +kernel
theorem dX7_layRoute_113 : decode cX7_layRoute 113 = .ok (.iconst 1, 1) := by decide +kernel
theorem dX7_layRoute_114 : decode cX7_layRoute 114 = .ok (.ireturn, 1) := by decide +kernel
theorem dX7_flyFromAll_0 : decode cX7_flyFromAll 0 = .ok (.aload_n 0, 1) := by decide +kernel
theorem dX7_flyFromAll_1 : decode cX7_flyFromAll 1 = .ok (.iconst 0, 1) := by decide +kernel
theorem dX7_flyFromAll_2 : decode cX7_flyFromAll 2 = .ok (.putfield 25, 3) := by decide +kernel
theorem dX7_flyFromAll_5 : decode cX7_flyFromAll 5 = .ok (.iconst 0, 1) := by decide +kernel
theorem dX7_flyFromAll_6 : decode cX7_flyFromAll 6 = .ok (.istore_n 1, 1) := by decide +kernel
theorem dX7_flyFromAll_7 : decode cX7_flyFromAll 7 = .ok (.iload_n 1, 1) := by decide +kernel
theorem dX7_flyFromAll_8 : decode cX7_flyFromAll 8 = .ok (.aload_n 0, 1) := by decide +kernel
theorem dX7_flyFromAll_9 : decode cX7_flyFromAll 9 = .ok (.getfield 37, 3) := by decide +kernel
theorem dX7_flyFromAll_12 : decode cX7_flyFromAll 12 = .ok (.invokevirtual 76, 3) := by decide +kernel
theorem dX7_flyFromAll_15 : decode cX7_flyFromAll 15 = .ok (.if_icmp .ge 75, 3) := by decide +kernel
theorem dX7_flyFromAll_18 : decode cX7_flyFromAll 18 = .ok (.iconst 0, 1) := by decide +kernel
theorem dX7_flyFromAll_19 : decode cX7_flyFromAll 19 = .ok (.istore_n 2, 1) := by decide +kernel
theorem dX7_flyFromAll_20 : decode cX7_flyFromAll 20 = .ok (.iload_n 2, 1) := by decide +kernel
theorem dX7_flyFromAll_21 : decode cX7_flyFromAll 21 = .ok (.aload_n 0, 1) := by decide +kernel
theorem dX7_flyFromAll_22 : decode cX7_flyFromAll 22 = .ok (.getfield 37, 3) := by decide +kernel
theorem dX7_flyFromAll_25 : decode cX7_flyFromAll 25 = .ok (.invokevirtual 81, 3) := by decide +kernel
theorem dX7_flyFromAll_28 : decode cX7_flyFromAll 28 = .ok (.if_icmp .ge 56, 3) := by decide +kernel
theorem dX7_flyFromAll_31 : decode cX7_flyFromAll 31 = .ok (.aload_n 0, 1) := by decide +kernel
theorem dX7_flyFromAll_32 : decode cX7_flyFromAll 32 = .ok (.getfield 25, 3) := by decide +kernel
theorem dX7_flyFromAll_35 : decode cX7_flyFromAll 35 = .ok (.sipush 144, 3) := by decide +kernel
theorem dX7_flyFromAll_38 : decode cX7_flyFromAll 38 = .ok (.if_icmp .ge 40, 3) := by decide +kernel
theorem dX7_flyFromAll_41 : decode cX7_flyFromAll 41 = .ok (.aload_n 0, 1) := by decide +kernel
theorem dX7_flyFromAll_42 : decode cX7_flyFromAll 42 = .ok (.iload_n 2, 1) := by decide +kernel
theorem dX7_flyFromAll_43 : decode cX7_flyFromAll 43 = .ok (.iload_n 1, 1) := by decide +kernel
theorem dX7_flyFromAll_44 : decode cX7_flyFromAll 44 = .ok (.invokevirtual 84, 3) := by decide +kernel
theorem dX7_flyFromAll_47 : decode cX7_flyFromAll 47 = .ok (.ifCond .eq 31, 3) := by decide +kernel
theorem dX7_flyFromAll_50 : decode cX7_flyFromAll 50 = .ok (.aload_n 0, 1) := by decide +kernel
theorem dX7_flyFromAll_51 : decode cX7_flyFromAll 51 = .ok (.getfield 22, 3) := by decide +kernel
theorem dX7_flyFromAll_54 : decode cX7_flyFromAll 54 = .ok (.aload_n 0, 1) := by decide +kernel
theorem dX7_flyFromAll_55 : decode cX7_flyFromAll 55 = .ok (.getfield 25, 3) := by decide +kernel
theorem dX7_flyFromAll_58 : decode cX7_flyFromAll 58 = .ok (.aload_n 0, 1) := by decide +kernel
theorem dX7_flyFromAll_59 : decode cX7_flyFromAll 59 = .ok (.getfield 37, 3) := by decide +kernel
theorem dX7_flyFromAll_62 : decode cX7_flyFromAll 62 = .ok (.iload_n 2, 1) := by decide +kernel
theorem dX7_flyFromAll_63 : decode cX7_flyFromAll 63 = .ok (.iload_n 1, 1) := by decide +kernel
theorem dX7_flyFromAll_64 : decode cX7_flyFromAll 64 = .ok (.invokevirtual 87, 3) := by decide +kernel
theorem dX7_flyFromAll_67 : decode cX7_flyFromAll 67 = .ok (.iastore, 1) := by decide +kernel
theorem dX7_flyFromAll_68 : decode cX7_flyFromAll 68 = .ok (.aload_n 0, 1) := by decide +kernel
theorem dX7_flyFromAll_69 : decode cX7_flyFromAll 69 = .ok (.dup, 1) := by decide +kernel
theorem dX7_flyFromAll_70 : decode cX7_flyFromAll 70 = .ok (.getfield 25, 3) := by decide +kernel
theorem dX7_flyFromAll_73 : decode cX7_flyFromAll 73 = .ok (.iconst 1, 1) := by decide +kernel
theorem dX7_flyFromAll_74 : decode cX7_flyFromAll 74 = .ok (.iadd, 1) := by decide +kernel
theorem dX7_flyFromAll_75 : decode cX7_flyFromAll 75 = .ok (.putfield 25, 3) := by decide +kernel
theorem dX7_flyFromAll_78 : decode cX7_flyFromAll 78 = .ok (.iinc 2 1, 3) := by decide +kernel
theorem dX7_flyFromAll_81 : decode cX7_flyFromAll 81 = .ok (.goto (-61), 3) := by decide +kernel
theorem dX7_flyFromAll_84 : decode cX7_flyFromAll 84 = .ok (.iinc 1 1, 3) := by decide +kernel
theorem dX7_flyFromAll_87 : decode cX7_flyFromAll 87 = .ok (.goto (-80), 3) := by decide +kernel
theorem dX7_flyFromAll_90 : decode cX7_flyFromAll 90 = .ok (.return_, 1) := by decide +kernel
theorem dX7_isFlown_0 : decode cX7_isFlown 0 = .ok (.iconst 0, 1) := by decide +kernel
theorem dX7_isFlown_1 : decode cX7_isFlown 1 = .ok (.istore_n 3, 1) := by decide +kernel
theorem dX7_isFlown_2 : decode cX7_isFlown 2 = .ok (.iload_n 3, 1) := by decide +kernel
theorem dX7_isFlown_3 : decode cX7_isFlown 3 = .ok (.aload_n 0, 1) := by decide +kernel
theorem dX7_isFlown_4 : decode cX7_isFlown 4 = .ok (.getfield 18, 3) := by decide +kernel
theorem dX7_isFlown_7 : decode cX7_isFlown 7 = .ok (.if_icmp .gt 84, 3) := by decide +kernel
theorem dX7_isFlown_10 : decode cX7_isFlown 10 = .ok (.aload_n 0, 1) := by decide +kernel
theorem dX7_isFlown_11 : decode cX7_isFlown 11 = .ok (.getfield 37, 3) := by decide +kernel
theorem dX7_isFlown_14 : decode cX7_isFlown 14 = .ok (.iload_n 1, 1) := by decide +kernel
theorem dX7_isFlown_15 : decode cX7_isFlown 15 = .ok (.aload_n 0, 1) := by decide +kernel
theorem dX7_isFlown_16 : decode cX7_isFlown 16 = .ok (.getfield 9, 3) := by decide +kernel
theorem dX7_isFlown_19 : decode cX7_isFlown 19 = .ok (.iload_n 3, 1) := by decide +kernel
theorem dX7_isFlown_20 : decode cX7_isFlown 20 = .ok (.iaload, 1) := by decide +kernel
theorem dX7_isFlown_21 : decode cX7_isFlown 21 = .ok (.iadd, 1) := by decide +kernel
theorem dX7_isFlown_22 : decode cX7_isFlown 22 = .ok (.iload_n 2, 1) := by decide +kernel
theorem dX7_isFlown_23 : decode cX7_isFlown 23 = .ok (.aload_n 0, 1) := by decide +kernel
theorem dX7_isFlown_24 : decode cX7_isFlown 24 = .ok (.getfield 15, 3) := by decide +kernel
theorem dX7_isFlown_27 : decode cX7_isFlown 27 = .ok (.iload_n 3, 1) := by decide +kernel
theorem dX7_isFlown_28 : decode cX7_isFlown 28 = .ok (.iaload, 1) := by decide +kernel
theorem dX7_isFlown_29 : decode cX7_isFlown 29 = .ok (.iadd, 1) := by decide +kernel
theorem dX7_isFlown_30 : decode cX7_isFlown 30 = .ok (.invokevirtual 87, 3) := by decide +kernel
theorem dX7_isFlown_33 : decode cX7_isFlown 33 = .ok (.istore 4, 2) := by decide +kernel
theorem dX7_isFlown_35 : decode cX7_isFlown 35 = .ok (.aload_n 0, 1) := by decide +kernel
theorem dX7_isFlown_36 : decode cX7_isFlown 36 = .ok (.getfield 25, 3) := by decide +kernel
theorem dX7_isFlown_39 : decode cX7_isFlown 39 = .ok (.bipush 9, 2) := by decide +kernel
theorem dX7_isFlown_41 : decode cX7_isFlown 41 = .ok (.imul, 1) := by decide +kernel
theorem dX7_isFlown_42 : decode cX7_isFlown 42 = .ok (.iload_n 3, 1) := by decide +kernel
theorem dX7_isFlown_43 : decode cX7_isFlown 43 = .ok (.iadd, 1) := by decide +kernel
theorem dX7_isFlown_44 : decode cX7_isFlown 44 = .ok (.istore 5, 2) := by decide +kernel
theorem dX7_isFlown_46 : decode cX7_isFlown 46 = .ok (.iload 4, 2) := by decide +kernel
theorem dX7_isFlown_48 : decode cX7_isFlown 48 = .ok (.iconst (-1), 1) := by decide +kernel
theorem dX7_isFlown_49 : decode cX7_isFlown 49 = .ok (.if_icmp .eq 18, 3) := by decide +kernel
theorem dX7_isFlown_52 : decode cX7_isFlown 52 = .ok (.iload 5, 2) := by decide +kernel
theorem dX7_isFlown_54 : decode cX7_isFlown 54 = .ok (.ifCond .lt 13, 3) := by decide +kernel
theorem dX7_isFlown_57 : decode cX7_isFlown 57 = .ok (.iload 5, 2) := by decide +kernel
theorem dX7_isFlown_59 : decode cX7_isFlown 59 = .ok (.aload_n 0, 1) := by decide +kernel
theorem dX7_isFlown_60 : decode cX7_isFlown 60 = .ok (.getfield 28, 3) := by decide +kernel
theorem dX7_isFlown_63 : decode cX7_isFlown 63 = .ok (.arraylength, 1) := by decide +kernel
theorem dX7_isFlown_64 : decode cX7_isFlown 64 = .ok (.if_icmp .lt 5, 3) := by decide +kernel
theorem dX7_isFlown_67 : decode cX7_isFlown 67 = .ok (.iconst 0, 1) := by decide +kernel
theorem dX7_isFlown_68 : decode cX7_isFlown 68 = .ok (.ireturn, 1) := by decide +kernel
theorem dX7_isFlown_69 : decode cX7_isFlown 69 = .ok (.aload_n 0, 1) := by decide +kernel
theorem dX7_isFlown_70 : decode cX7_isFlown 70 = .ok (.getfield 28, 3) := by decide +kernel
theorem dX7_isFlown_73 : decode cX7_isFlown 73 = .ok (.iload 5, 2) := by decide +kernel
theorem dX7_isFlown_75 : decode cX7_isFlown 75 = .ok (.aload_n 0, 1) := by decide +kernel
theorem dX7_isFlown_76 : decode cX7_isFlown 76 = .ok (.getfield 37, 3) := by decide +kernel
theorem dX7_isFlown_79 : decode cX7_isFlown 79 = .ok (.iload 4, 2) := by decide +kernel
theorem dX7_isFlown_81 : decode cX7_isFlown 81 = .ok (.invokevirtual 90, 3) := by decide +kernel
theorem dX7_isFlown_84 : decode cX7_isFlown 84 = .ok (.iastore, 1) := by decide +kernel
theorem dX7_isFlown_85 : decode cX7_isFlown 85 = .ok (.iinc 3 1, 3) := by decide +kernel
theorem dX7_isFlown_88 : decode cX7_isFlown 88 = .ok (.goto (-86), 3) := by decide +kernel
theorem dX7_isFlown_91 : decode cX7_isFlown 91 = .ok (.iconst 1, 1) := by decide +kernel
theorem dX7_isFlown_92 : decode cX7_isFlown 92 = .ok (.ireturn, 1) := by decide +kernel
theorem dX7_areTwins_0 : decode cX7_areTwins 0 = .ok (.iconst 0, 1) := by decide +kernel
theorem dX7_areTwins_1 : decode cX7_areTwins 1 = .ok (.istore_n 3, 1) := by decide +kernel
theorem dX7_areTwins_2 : decode cX7_areTwins 2 = .ok (.iload_n 3, 1) := by decide +kernel
theorem dX7_areTwins_3 : decode cX7_areTwins 3 = .ok (.aload_n 0, 1) := by decide +kernel
theorem dX7_areTwins_4 : decode cX7_areTwins 4 = .ok (.getfield 18, 3) := by decide +kernel
theorem dX7_areTwins_7 : decode cX7_areTwins 7 = .ok (.if_icmp .gt 83, 3) := by decide +kernel
theorem dX7_areTwins_10 : decode cX7_areTwins 10 = .ok (.iload_n 1, 1) := by decide +kernel
theorem dX7_areTwins_11 : decode cX7_areTwins 11 = .ok (.bipush 9, 2) := by decide +kernel
theorem dX7_areTwins_13 : decode cX7_areTwins 13 = .ok (.imul, 1) := by decide +kernel
theorem dX7_areTwins_14 : decode cX7_areTwins 14 = .ok (.iload_n 3, 1) := by decide +kernel
theorem dX7_areTwins_15 : decode cX7_areTwins 15 = .ok (.iadd, 1) := by decide +kernel
theorem dX7_areTwins_16 : decode cX7_areTwins 16 = .ok (.istore 4, 2) := by decide +kernel
theorem dX7_areTwins_18 : decode cX7_areTwins 18 = .ok (.iload_n 2, 1) := by decide +kernel
theorem dX7_areTwins_19 : decode cX7_areTwins 19 = .ok (.bipush 9, 2) := by decide +kernel
theorem dX7_areTwins_21 : decode cX7_areTwins 21 = .ok (.imul, 1) := by decide +kernel
theorem dX7_areTwins_22 : decode cX7_areTwins 22 = .ok (.iload_n 3, 1) := by decide +kernel
theorem dX7_areTwins_23 : decode cX7_areTwins 23 = .ok (.iadd, 1) := by decide +kernel
theorem dX7_areTwins_24 : decode cX7_areTwins 24 = .ok (.istore 5, 2) := by decide +kernel
theorem dX7_areTwins_26 : decode cX7_areTwins 26 = .ok (.iload 4, 2) := by decide +kernel
theorem dX7_areTwins_28 : decode cX7_areTwins 28 = .ok (.ifCond .lt 28, 3) := by decide +kernel
theorem dX7_areTwins_31 : decode cX7_areTwins 31 = .ok (.iload 4, 2) := by decide +kernel
theorem dX7_areTwins_33 : decode cX7_areTwins 33 = .ok (.aload_n 0, 1) := by decide +kernel
theorem dX7_areTwins_34 : decode cX7_areTwins 34 = .ok (.getfield 28, 3) := by decide +kernel
theorem dX7_areTwins_37 : decode cX7_areTwins 37 = .ok (.arraylength, 1) := by decide +kernel
theorem dX7_areTwins_38 : decode cX7_areTwins 38 = .ok (.if_icmp .ge 18, 3) := by decide +kernel
theorem dX7_areTwins_41 : decode cX7_areTwins 41 = .ok (.iload 5, 2) := by decide +kernel
theorem dX7_areTwins_43 : decode cX7_areTwins 43 = .ok (.ifCond .lt 13, 3) := by decide +kernel
theorem dX7_areTwins_46 : decode cX7_areTwins 46 = .ok (.iload 5, 2) := by decide +kernel
theorem dX7_areTwins_48 : decode cX7_areTwins 48 = .ok (.aload_n 0, 1) := by decide +kernel
theorem dX7_areTwins_49 : decode cX7_areTwins 49 = .ok (.getfield 28, 3) := by decide +kernel
theorem dX7_areTwins_52 : decode cX7_areTwins 52 = .ok (.arraylength, 1) := by decide +kernel
theorem dX7_areTwins_53 : decode cX7_areTwins 53 = .ok (.if_icmp .lt 5, 3) := by decide +kernel
theorem dX7_areTwins_56 : decode cX7_areTwins 56 = .ok (.iconst 0, 1) := by decide +kernel
theorem dX7_areTwins_57 : decode cX7_areTwins 57 = .ok (.ireturn, 1) := by decide +kernel
theorem dX7_areTwins_58 : decode cX7_areTwins 58 = .ok (.aload_n 0, 1) := by decide +kernel
theorem dX7_areTwins_59 : decode cX7_areTwins 59 = .ok (.getfield 41, 3) := by decide +kernel
theorem dX7_areTwins_62 : decode cX7_areTwins 62 = .ok (.aload_n 0, 1) := by decide +kernel
theorem dX7_areTwins_63 : decode cX7_areTwins 63 = .ok (.getfield 28, 3) := by decide +kernel
theorem dX7_areTwins_66 : decode cX7_areTwins 66 = .ok (.iload 4, 2) := by decide +kernel
theorem dX7_areTwins_68 : decode cX7_areTwins 68 = .ok (.iaload, 1) := by decide +kernel
theorem dX7_areTwins_69 : decode cX7_areTwins 69 = .ok (.aload_n 0, 1) := by decide +kernel
theorem dX7_areTwins_70 : decode cX7_areTwins 70 = .ok (.getfield 28, 3) := by decide +kernel
theorem dX7_areTwins_73 : decode cX7_areTwins 73 = .ok (.iload 5, 2) := by decide +kernel
theorem dX7_areTwins_75 : decode cX7_areTwins 75 = .ok (.iaload, 1) := by decide +kernel
theorem dX7_areTwins_76 : decode cX7_areTwins 76 = .ok (.invokevirtual 93, 3) := by decide +kernel
theorem dX7_areTwins_79 : decode cX7_areTwins 79 = .ok (.ifCond .ne 5, 3) := by decide +kernel
theorem dX7_areTwins_82 : decode cX7_areTwins 82 = .ok (.iconst 0, 1) := by decide +kernel
theorem dX7_areTwins_83 : decode cX7_areTwins 83 = .ok (.ireturn, 1) := by decide +kernel
theorem dX7_areTwins_84 : decode cX7_areTwins 84 = .ok (.iinc 3 1, 3) := by decide +kernel
theorem dX7_areTwins_87 : decode cX7_areTwins 87 = .ok (.goto (-85), 3) := by decide +kernel
theorem dX7_areTwins_90 : decode cX7_areTwins 90 = .ok (.iconst 1, 1) := by decide +kernel
theorem dX7_areTwins_91 : decode cX7_areTwins 91 = .ok (.ireturn, 1) := by decide +kernel
theorem dX8_init_0 : decode cX8_init 0 = .ok (.aload_n 0, 1) := by decide +kernel
theorem dX8_init_1 : decode cX8_init 1 = .ok (.invokespecial 1, 3) := by decide +kernel
theorem dX8_init_4 : decode cX8_init 4 = .ok (.aload_n 0, 1) := by decide +kernel
theorem dX8_init_5 : decode cX8_init 5 = .ok (.new 7, 3) := by decide +kernel
theorem dX8_init_8 : decode cX8_init 8 = .ok (.dup, 1) := by decide +kernel
theorem dX8_init_9 : decode cX8_init 9 = .ok (.invokespecial 9, 3) := by decide +kernel
theorem dX8_init_12 : decode cX8_init 12 = .ok (.putfield 10, 3) := by decide +kernel
theorem dX8_init_15 : decode cX8_init 15 = .ok (.aload_n 0, 1) := by decide +kernel
theorem dX8_init_16 : decode cX8_init 16 = .ok (.new 16, 3) := by decide +kernel
theorem dX8_init_19 : decode cX8_init 19 = .ok (.dup, 1) := by decide +kernel
theorem dX8_init_20 : decode cX8_init 20 = .ok (.invokespecial 18, 3) := by decide +kernel
theorem dX8_init_23 : decode cX8_init 23 = .ok (.putfield 19, 3) := by decide +kernel
theorem dX8_init_26 : decode cX8_init 26 = .ok (.aload_n 0, 1) := by decide +kernel
theorem dX8_init_27 : decode cX8_init 27 = .ok (.new 23, 3) := by decide +kernel
theorem dX8_init_30 : decode cX8_init 30 = .ok (.dup, 1) := by decide +kernel
theorem dX8_init_31 : decode cX8_init 31 = .ok (.invokespecial 25, 3) := by decide +kernel
theorem dX8_init_34 : decode cX8_init 34 = .ok (.putfield 26, 3) := by decide +kernel
theorem dX8_init_37 : decode cX8_init 37 = .ok (.aload_n 0, 1) := by decide +kernel
theorem dX8_init_38 : decode cX8_init 38 = .ok (.new 30, 3) := by decide +kernel
theorem dX8_init_41 : decode cX8_init 41 = .ok (.dup, 1) := by decide +kernel
theorem dX8_init_42 : decode cX8_init 42 = .ok (.invokespecial 32, 3) := by decide +kernel
theorem dX8_init_45 : decode cX8_init 45 = .ok (.putfield 33, 3) := by decide +kernel
theorem dX8_init_48 : decode cX8_init 48 = .ok (.aload_n 0, 1) := by decide +kernel
theorem dX8_init_49 : decode cX8_init 49 = .ok (.new 37, 3) := by decide +kernel
theorem dX8_init_52 : decode cX8_init 52 = .ok (.dup, 1) := by decide +kernel
theorem dX8_init_53 : decode cX8_init 53 = .ok (.aload_n 0, 1) := by decide +kernel
theorem dX8_init_54 : decode cX8_init 54 = .ok (.getfield 19, 3) := by decide +kernel
theorem dX8_init_57 : decode cX8_init 57 = .ok (.aload_n 0, 1) := by decide +kernel
theorem dX8_init_58 : decode cX8_init 58 = .ok (.getfield 26, 3) := by decide +kernel
theorem dX8_init_61 : decode cX8_init 61 = .ok (.invokespecial 39, 3) := by decide +kernel
theorem dX8_init_64 : decode cX8_init 64 = .ok (.putfield 42, 3) := by decide +kernel
theorem dX8_init_67 : decode cX8_init 67 = .ok (.aload_n 0, 1) := by decide +kernel
theorem dX8_init_68 : decode cX8_init 68 = .ok (.new 46, 3) := by decide +kernel
theorem dX8_init_71 : decode cX8_init 71 = .ok (.dup, 1) := by decide +kernel
theorem dX8_init_72 : decode cX8_init 72 = .ok (.aload_n 0, 1) := by decide +kernel
theorem dX8_init_73 : decode cX8_init 73 = .ok (.getfield 19, 3) := by decide +kernel
theorem dX8_init_76 : decode cX8_init 76 = .ok (.aload_n 0, 1) := by decide +kernel
theorem dX8_init_77 : decode cX8_init 77 = .ok (.getfield 26, 3) := by decide +kernel
theorem dX8_init_80 : decode cX8_init 80 = .ok (.aload_n 0, 1) := by decide +kernel
theorem dX8_init_81 : decode cX8_init 81 = .ok (.getfield 33, 3) := by decide +kernel
theorem dX8_init_84 : decode cX8_init 84 = .ok (.invokespecial 48, 3) := by decide +kernel
theorem dX8_init_87 : decode cX8_init 87 = .ok (.putfield 51, 3) := by decide +kernel
theorem dX8_init_90 : decode cX8_init 90 = .ok (.aload_n 0, 1) := by decide +kernel
theorem dX8_init_91 : decode cX8_init 91 = .ok (.new 55, 3) := by decide +kernel
theorem dX8_init_94 : decode cX8_init 94 = .ok (.dup, 1) := by decide +kernel
theorem dX8_init_95 : decode cX8_init 95 = .ok (.aload_n 0, 1) := by decide +kernel
theorem dX8_init_96 : decode cX8_init 96 = .ok (.getfield 19, 3) := by decide +kernel
theorem dX8_init_99 : decode cX8_init 99 = .ok (.aload_n 0, 1) := by decide +kernel
theorem dX8_init_100 : decode cX8_init 100 = .ok (.getfield 26, 3) := by decide +kernel
theorem dX8_init_103 : decode cX8_init 103 = .ok (.aload_n 0, 1) := by decide +kernel
theorem dX8_init_104 : decode cX8_init 104 = .ok (.getfield 33, 3) := by decide +kernel
theorem dX8_init_107 : decode cX8_init 107 = .ok (.invokespecial 57, 3) := by decide +kernel
theorem dX8_init_110 : decode cX8_init 110 = .ok (.putfield 58, 3) := by decide +kernel
theorem dX8_init_113 : decode cX8_init 113 = .ok (.aload_n 0, 1) := by decide +kernel
theorem dX8_init_114 : decode cX8_init 114 = .ok (.new 62, 3) := by decide +kernel
theorem dX8_init_117 : decode cX8_init 117 = .ok (.dup, 1) := by decide +kernel
theorem dX8_init_118 : decode cX8_init 118 = .ok (.aload_n 0, 1) := by decide +kernel
theorem dX8_init_119 : decode cX8_init 119 = .ok (.getfield 19, 3) := by decide +kernel
theorem dX8_init_122 : decode cX8_init 122 = .ok (.aload_n 0, 1) := by decide +kernel
theorem dX8_init_123 : decode cX8_init 123 = .ok (.getfield 26, 3) := by decide +kernel
theorem dX8_init_126 : decode cX8_init 126 = .ok (.aload_n 0, 1) := by decide +kernel
theorem dX8_init_127 : decode cX8_init 127 = .ok (.getfield 10, 3) := by decide +kernel
theorem dX8_init_130 : decode cX8_init 130 = .ok (.invokespecial 64, 3) := by decide +kernel
theorem dX8_init_133 : decode cX8_init 133 = .ok (.putfield 67, 3) := by decide +kernel
theorem dX8_init_136 : decode cX8_init 136 = .ok (.aload_n 0, 1) := by decide +kernel
theorem dX8_init_137 : decode cX8_init 137 = .ok (.getfield 51, 3) := by decide +kernel
theorem dX8_init_140 : decode cX8_init 140 = .ok (.iconst (-1), 1) := by decide +kernel
theorem dX8_init_141 : decode cX8_init 141 = .ok (.invokevirtual 71, 3) := by decide +kernel
theorem dX8_init_144 : decode cX8_init 144 = .ok (.return_, 1) := by decide +kernel
theorem dX8_feed_0 : decode cX8_feed 0 = .ok (.aload_n 0, 1) := by decide +kernel
theorem dX8_feed_1 : decode cX8_feed 1 = .ok (.getfield 10, 3) := by decide +kernel
theorem dX8_feed_4 : decode cX8_feed 4 = .ok (.invokevirtual 75, 3) := by decide +kernel
theorem dX8_feed_7 : decode cX8_feed 7 = .ok (.bipush 20, 2) := by decide +kernel
theorem dX8_feed_9 : decode cX8_feed 9 = .ok (.iadd, 1) := by decide +kernel
theorem dX8_feed_10 : decode cX8_feed 10 = .ok (.sipush 160, 3) := by decide +kernel
theorem dX8_feed_13 : decode cX8_feed 13 = .ok (.if_icmp .le 5, 3) := by decide +kernel
theorem dX8_feed_16 : decode cX8_feed 16 = .ok (.iconst (-1), 1) := by decide +kernel
theorem dX8_feed_17 : decode cX8_feed 17 = .ok (.ireturn, 1) := by decide +kernel
theorem dX8_feed_18 : decode cX8_feed 18 = .ok (.aload_n 0, 1) := by decide +kernel
theorem dX8_feed_19 : decode cX8_feed 19 = .ok (.getfield 10, 3) := by decide +kernel
theorem dX8_feed_22 : decode cX8_feed 22 = .ok (.iload_n 1, 1) := by decide +kernel
theorem dX8_feed_23 : decode cX8_feed 23 = .ok (.invokevirtual 79, 3) := by decide +kernel
theorem dX8_feed_26 : decode cX8_feed 26 = .ok (.aload_n 0, 1) := by decide +kernel
theorem dX8_feed_27 : decode cX8_feed 27 = .ok (.getfield 10, 3) := by decide +kernel
theorem dX8_feed_30 : decode cX8_feed 30 = .ok (.iload_n 2, 1) := by decide +kernel
theorem dX8_feed_31 : decode cX8_feed 31 = .ok (.invokevirtual 79, 3) := by decide +kernel
theorem dX8_feed_34 : decode cX8_feed 34 = .ok (.aload_n 0, 1) := by decide +kernel
theorem dX8_feed_35 : decode cX8_feed 35 = .ok (.getfield 10, 3) := by decide +kernel
theorem dX8_feed_38 : decode cX8_feed 38 = .ok (.iload_n 3, 1) := by decide +kernel
theorem dX8_feed_39 : decode cX8_feed 39 = .ok (.invokevirtual 79, 3) := by decide +kernel
theorem dX8_feed_42 : decode cX8_feed 42 = .ok (.aload_n 0, 1) := by decide +kernel
theorem dX8_feed_43 : decode cX8_feed 43 = .ok (.getfield 10, 3) := by decide +kernel
theorem dX8_feed_46 : decode cX8_feed 46 = .ok (.iload 4, 2) := by decide +kernel
theorem dX8_feed_48 : decode cX8_feed 48 = .ok (.invokevirtual 79, 3) := by decide +kernel
theorem dX8_feed_51 : decode cX8_feed 51 = .ok (.aload_n 0, 1) := by decide +kernel
theorem dX8_feed_52 : decode cX8_feed 52 = .ok (.getfield 10, 3) := by decide +kernel
theorem dX8_feed_55 : decode cX8_feed 55 = .ok (.iload 5, 2) := by decide +kernel
theorem dX8_feed_57 : decode cX8_feed 57 = .ok (.invokevirtual 79, 3) := by decide +kernel
theorem dX8_feed_60 : decode cX8_feed 60 = .ok (.aload_n 0, 1) := by decide +kernel
theorem dX8_feed_61 : decode cX8_feed 61 = .ok (.getfield 10, 3) := by decide +kernel
theorem dX8_feed_64 : decode cX8_feed 64 = .ok (.invokevirtual 75, 3) := by decide +kernel
theorem dX8_feed_67 : decode cX8_feed 67 = .ok (.ireturn, 1) := by decide +kernel
theorem dX8_end_0 : decode cX8_end 0 = .ok (.aload_n 0, 1) := by decide +kernel
theorem dX8_end_1 : decode cX8_end 1 = .ok (.getfield 10, 3) := by decide +kernel
theorem dX8_end_4 : decode cX8_end 4 = .ok (.iload_n 1, 1) := by decide +kernel
theorem dX8_end_5 : decode cX8_end 5 = .ok (.invokevirtual 82, 3) := by decide +kernel
theorem dX8_end_8 : decode cX8_end 8 = .ok (.ireturn, 1) := by decide +kernel
theorem dX8_map_0 : decode cX8_map 0 = .ok (.aload_n 0, 1) := by decide +kernel
theorem dX8_map_1 : decode cX8_map 1 = .ok (.getfield 19, 3) := by decide +kernel
theorem dX8_map_4 : decode cX8_map 4 = .ok (.iload_n 1, 1) := by decide +kernel
theorem dX8_map_5 : decode cX8_map 5 = .ok (.iload_n 2, 1) := by decide +kernel
theorem dX8_map_6 : decode cX8_map 6 = .ok (.aload_n 0, 1) := by decide +kernel
theorem dX8_map_7 : decode cX8_map 7 = .ok (.getfield 10, 3) := by decide +kernel
theorem dX8_map_10 : decode cX8_map 10 = .ok (.invokevirtual 86, 3) := by decide +kernel
theorem dX8_map_13 : decode cX8_map 13 = .ok (.istore_n 3, 1) := by decide +kernel
theorem dX8_map_14 : decode cX8_map 14 = .ok (.aload_n 0, 1) := by decide +kernel
theorem dX8_map_15 : decode cX8_map 15 = .ok (.getfield 10, 3) := by decide +kernel
theorem dX8_map_18 : decode cX8_map 18 = .ok (.iconst 0, 1) := by decide +kernel
theorem dX8_map_19 : decode cX8_map 19 = .ok (.invokevirtual 82, 3) := by decide +kernel
theorem dX8_map_22 : decode cX8_map 22 = .ok (.pop, 1) := by decide +kernel
theorem dX8_map_23 : decode cX8_map 23 = .ok (.iload_n 3, 1) := by decide +kernel
theorem dX8_map_24 : decode cX8_map 24 = .ok (.ifCond .eq 25, 3) := by decide +kernel
theorem dX8_map_27 : decode cX8_map 27 = .ok (.aload_n 0, 1) := by decide +kernel
theorem dX8_map_28 : decode cX8_map 28 = .ok (.getfield 42, 3) := by decide +kernel
theorem dX8_map_31 : decode cX8_map 31 = .ok (.invokevirtual 90, 3) := by decide +kernel
theorem dX8_map_34 : decode cX8_map 34 = .ok (.aload_n 0, 1) := by decide +kernel
theorem dX8_map_35 : decode cX8_map 35 = .ok (.getfield 51, 3) := by decide +kernel
theorem dX8_map_38 : decode cX8_map 38 = .ok (.iconst (-1), 1) := by decide +kernel
theorem dX8_map_39 : decode cX8_map 39 = .ok (.invokevirtual 71, 3) := by decide +kernel
theorem dX8_map_42 : decode cX8_map 42 = .ok (.aload_n 0, 1) := by decide +kernel
theorem dX8_map_43 : decode cX8_map 43 = .ok (.getfield 51, 3) := by decide +kernel
theorem dX8_map_46 : decode cX8_map 46 = .ok (.invokevirtual 93, 3) := by decide +kernel
theorem dX8_map_49 : decode cX8_map 49 = .ok (.iload_n 3, 1) := by decide +kernel
theorem dX8_map_50 : decode cX8_map 50 = .ok (.ireturn, 1) := by decide +kernel
theorem dX8_meter_0 : decode cX8_meter 0 = .ok (.aload_n 0, 1) := by decide +kernel
theorem dX8_meter_1 : decode cX8_meter 1 = .ok (.getfield 26, 3) := by decide +kernel
theorem dX8_meter_4 : decode cX8_meter 4 = .ok (.iload_n 1, 1) := by decide +kernel
theorem dX8_meter_5 : decode cX8_meter 5 = .ok (.iload_n 2, 1) := by decide +kernel
theorem dX8_meter_6 : decode cX8_meter 6 = .ok (.iload_n 3, 1) := by decide +kernel
theorem dX8_meter_7 : decode cX8_meter 7 = .ok (.invokevirtual 96, 3) := by decide +kernel
theorem dX8_meter_10 : decode cX8_meter 10 = .ok (.ireturn, 1) := by decide +kernel
theorem dX8_begin_0 : decode cX8_begin 0 = .ok (.iload_n 1, 1) := by decide +kernel
theorem dX8_begin_1 : decode cX8_begin 1 = .ok (.iconst (-1), 1) := by decide +kernel
theorem dX8_begin_2 : decode cX8_begin 2 = .ok (.if_icmp .eq 16, 3) := by decide +kernel
theorem dX8_begin_5 : decode cX8_begin 5 = .ok (.aload_n 0, 1) := by decide +kernel
theorem dX8_begin_6 : decode cX8_begin 6 = .ok (.getfield 19, 3) := by decide +kernel
theorem dX8_begin_9 : decode cX8_begin 9 = .ok (.iload_n 1, 1) := by decide +kernel
theorem dX8_begin_10 : decode cX8_begin 10 = .ok (.invokevirtual 100, 3) := by decide +kernel
theorem dX8_begin_13 : decode cX8_begin 13 = .ok (.ifCond .ne 5, 3) := by decide +kernel
theorem dX8_begin_16 : decode cX8_begin 16 = .ok (.iconst 0, 1) := by decide +kernel
theorem dX8_begin_17 : decode cX8_begin 17 = .ok (.ireturn, 1) := by decide +kernel
theorem dX8_begin_18 : decode cX8_begin 18 = .ok (.aload_n 0, 1) := by decide +kernel
theorem dX8_begin_19 : decode cX8_begin 19 = .ok (.getfield 51, 3) := by decide +kernel
theorem dX8_begin_22 : decode cX8_begin 22 = .ok (.iload_n 1, 1) := by decide +kernel
theorem dX8_begin_23 : decode cX8_begin 23 = .ok (.invokevirtual 71, 3) := by decide +kernel
theorem dX8_begin_26 : decode cX8_begin 26 = .ok (.iconst 1, 1) := by decide +kernel
theorem dX8_begin_27 : decode cX8_begin 27 = .ok (.ireturn, 1) := by decide +kernel
theorem dX8_move_0 : decode cX8_move 0 = .ok (.iload_n 1, 1) := by decide +kernel
theorem dX8_move_1 : decode cX8_move 1 = .ok (.iload_n 2, 1) := by decide +kernel
theorem dX8_move_2 : decode cX8_move 2 = .ok (.invokestatic 103, 3) := by decide +kernel
theorem dX8_move_5 : decode cX8_move 5 = .ok (.ifCond .eq 15, 3) := by decide +kernel
theorem dX8_move_8 : decode cX8_move 8 = .ok (.aload_n 0, 1) := by decide +kernel
theorem dX8_move_9 : decode cX8_move 9 = .ok (.getfield 33, 3) := by decide +kernel
theorem dX8_move_12 : decode cX8_move 12 = .ok (.invokevirtual 107, 3) := by decide +kernel
theorem dX8_move_15 : decode cX8_move 15 = .ok (.bipush 12, 2) := by decide +kernel
theorem dX8_move_17 : decode cX8_move 17 = .ok (.if_icmp .lt 5, 3) := by decide +kernel
theorem dX8_move_20 : decode cX8_move 20 = .ok (.iconst (-1), 1) := by decide +kernel
theorem dX8_move_21 : decode cX8_move 21 = .ok (.ireturn, 1) := by decide +kernel
theorem dX8_move_22 : decode cX8_move 22 = .ok (.aload_n 0, 1) := by decide +kernel
theorem dX8_move_23 : decode cX8_move 23 = .ok (.getfield 51, 3) := by decide +kernel
theorem dX8_move_26 : decode cX8_move 26 = .ok (.iload_n 1, 1) := by decide +kernel
theorem dX8_move_27 : decode cX8_move 27 = .ok (.iload_n 2, 1) := by decide +kernel
theorem dX8_move_28 : decode cX8_move 28 = .ok (.invokevirtual 110, 3) := by decide +kernel
theorem dX8_move_31 : decode cX8_move 31 = .ok (.ifCond .eq 13, 3) := by decide +kernel
theorem dX8_move_34 : decode cX8_move 34 = .ok (.aload_n 0, 1) := by decide +kernel
theorem dX8_move_35 : decode cX8_move 35 = .ok (.getfield 51, 3) := by decide +kernel
theorem dX8_move_38 : decode cX8_move 38 = .ok (.invokevirtual 113, 3) := by decide +kernel
theorem dX8_move_41 : decode cX8_move 41 = .ok (.goto 5, 3) := by decide +kernel
theorem dX8_move_44 : decode cX8_move 44 = .ok (.bipush (-2), 2) := by decide +kernel
theorem dX8_move_46 : decode cX8_move 46 = .ok (.ireturn, 1) := by decide +kernel
theorem dX8_read_0 : decode cX8_read 0 = .ok (.iload_n 1, 1) := by decide +kernel
theorem dX8_read_1 : decode cX8_read 1 = .ok (.invokestatic 116, 3) := by decide +kernel
theorem dX8_read_4 : decode cX8_read 4 = .ok (.ifCond .eq 15, 3) := by decide +kernel
theorem dX8_read_7 : decode cX8_read 7 = .ok (.aload_n 0, 1) := by decide +kernel
theorem dX8_read_8 : decode cX8_read 8 = .ok (.getfield 33, 3) := by decide +kernel
theorem dX8_read_11 : decode cX8_read 11 = .ok (.invokevirtual 119, 3) := by decide +kernel
theorem dX8_read_14 : decode cX8_read 14 = .ok (.bipush 40, 2) := by decide +kernel
theorem dX8_read_16 : decode cX8_read 16 = .ok (.if_icmp .lt 5, 3) := by decide +kernel
theorem dX8_read_19 : decode cX8_read 19 = .ok (.iconst (-1), 1) := by decide +kernel
theorem dX8_read_20 : decode cX8_read 20 = .ok (.ireturn, 1) := by decide +kernel
theorem dX8_read_21 : decode cX8_read 21 = .ok (.aload_n 0, 1) := by decide +kernel
theorem dX8_read_22 : decode cX8_read 22 = .ok (.getfield 51, 3) := by decide +kernel
theorem dX8_read_25 : decode cX8_read 25 = .ok (.iload_n 1, 1) := by decide +kernel
theorem dX8_read_26 : decode cX8_read 26 = .ok (.invokevirtual 122, 3) := by decide +kernel
theorem dX8_read_29 : decode cX8_read 29 = .ok (.ifCond .eq 13, 3) := by decide +kernel
theorem dX8_read_32 : decode cX8_read 32 = .ok (.aload_n 0, 1) := by decide +kernel
theorem dX8_read_33 : decode cX8_read 33 = .ok (.getfield 51, 3) := by decide +kernel
theorem dX8_read_36 : decode cX8_read 36 = .ok (.invokevirtual 113, 3) := by decide +kernel
theorem dX8_read_39 : decode cX8_read 39 = .ok (.goto 5, 3) := by decide +kernel
theorem dX8_read_42 : decode cX8_read 42 = .ok (.bipush (-2), 2) := by decide +kernel
theorem dX8_read_44 : decode cX8_read 44 = .ok (.ireturn, 1) := by decide +kernel
theorem dX8_share_0 : decode cX8_share 0 = .ok (.aload_n 0, 1) := by decide +kernel
theorem dX8_share_1 : decode cX8_share 1 = .ok (.getfield 19, 3) := by decide +kernel
theorem dX8_share_4 : decode cX8_share 4 = .ok (.iload_n 1, 1) := by decide +kernel
theorem dX8_share_5 : decode cX8_share 5 = .ok (.invokevirtual 100, 3) := by decide +kernel
theorem dX8_share_8 : decode cX8_share 8 = .ok (.ifCond .eq 12, 3) := by decide +kernel
theorem dX8_share_11 : decode cX8_share 11 = .ok (.iload_n 2, 1) := by decide +kernel
theorem dX8_share_12 : decode cX8_share 12 = .ok (.ifCond .lt 8, 3) := by decide +kernel
theorem dX8_share_15 : decode cX8_share 15 = .ok (.iload_n 2, 1) := by decide +kernel
theorem dX8_share_16 : decode cX8_share 16 = .ok (.iconst 1, 1) := by decide +kernel
theorem dX8_share_17 : decode cX8_share 17 = .ok (.if_icmp .le 11, 3) := by decide +kernel
theorem dX8_share_20 : decode cX8_share 20 = .ok (.new 125, 3) := by decide +kernel
theorem dX8_share_23 : decode cX8_share 23 = .ok (.dup, 1) := by decide +kernel
theorem dX8_share_24 : decode cX8_share 24 = .ok (.invokespecial 127, 3) := by decide +kernel
theorem dX8_share_27 : decode cX8_share 27 = .ok (.athrow, 1) := by decide +kernel
theorem dX8_share_28 : decode cX8_share 28 = .ok (.aload_n 0, 1) := by decide +kernel
theorem dX8_share_29 : decode cX8_share 29 = .ok (.getfield 51, 3) := by decide +kernel
theorem dX8_share_32 : decode cX8_share 32 = .ok (.iload_n 1, 1) := by decide +kernel
theorem dX8_share_33 : decode cX8_share 33 = .ok (.invokevirtual 128, 3) := by decide +kernel
theorem dX8_share_36 : decode cX8_share 36 = .ok (.lstore_n 3, 1) := by decide +kernel
theorem dX8_share_37 : decode cX8_share 37 = .ok (.aload_n 0, 1) := by decide +kernel
theorem dX8_share_38 : decode cX8_share 38 = .ok (.getfield 51, 3) := by decide +kernel
theorem dX8_share_41 : decode cX8_share 41 = .ok (.invokevirtual 132, 3) := by decide +kernel
theorem dX8_share_44 : decode cX8_share 44 = .ok (.lstore 5, 2) := by decide +kernel
theorem dX8_share_46 : decode cX8_share 46 = .ok (.lload_n 3, 1) := by decide +kernel
theorem dX8_share_47 : decode cX8_share 47 = .ok (.lload 5, 2) := by decide +kernel
theorem dX8_share_49 : decode cX8_share 49 = .ok (.invokestatic 136, 3) := by decide +kernel
theorem dX8_share_52 : decode cX8_share 52 = .ok (.lstore 7, 2) := by decide +kernel
theorem dX8_share_54 : decode cX8_share 54 = .ok (.iload_n 2, 1) := by decide +kernel
theorem dX8_share_55 : decode cX8_share 55 = .ok (.ifCond .ne 10, 3) := by decide +kernel
theorem dX8_share_58 : decode cX8_share 58 = .ok (.lload_n 3, 1) := by decide +kernel
theorem dX8_share_59 : decode cX8_share 59 = .ok (.lload 7, 2) := by decide +kernel
theorem dX8_share_61 : decode cX8_share 61 = .ok (.ldiv, 1) := by decide +kernel
theorem dX8_share_62 : decode cX8_share 62 = .ok (.goto 8, 3) := by decide +kernel
theorem dX8_share_65 : decode cX8_share 65 = .ok (.lload 5, 2) := by decide +kernel
theorem dX8_share_67 : decode cX8_share 67 = .ok (.lload 7, 2) := by decide +kernel
theorem dX8_share_69 : decode cX8_share 69 = .ok (.ldiv, 1) := by decide +kernel
theorem dX8_share_70 : decode cX8_share 70 = .ok (.lreturn, 1) := by decide +kernel
theorem dX8_likely_0 : decode cX8_likely 0 = .ok (.aload_n 0, 1) := by decide +kernel
theorem dX8_likely_1 : decode cX8_likely 1 = .ok (.getfield 51, 3) := by decide +kernel
theorem dX8_likely_4 : decode cX8_likely 4 = .ok (.invokevirtual 140, 3) := by decide +kernel
theorem dX8_likely_7 : decode cX8_likely 7 = .ok (.ireturn, 1) := by decide +kernel
theorem dX8_span_0 : decode cX8_span 0 = .ok (.iload_n 1, 1) := by decide +kernel
theorem dX8_span_1 : decode cX8_span 1 = .ok (.iconst 4, 1) := by decide +kernel
theorem dX8_span_2 : decode cX8_span 2 = .ok (.if_icmp .ne 11, 3) := by decide +kernel
theorem dX8_span_5 : decode cX8_span 5 = .ok (.aload_n 0, 1) := by decide +kernel
theorem dX8_span_6 : decode cX8_span 6 = .ok (.getfield 51, 3) := by decide +kernel
theorem dX8_span_9 : decode cX8_span 9 = .ok (.invokevirtual 113, 3) := by decide +kernel
theorem dX8_span_12 : decode cX8_span 12 = .ok (.ireturn, 1) := by decide +kernel
theorem dX8_span_13 : decode cX8_span 13 = .ok (.aload_n 0, 1) := by decide +kernel
theorem dX8_span_14 : decode cX8_span 14 = .ok (.getfield 51, 3) := by decide +kernel
theorem dX8_span_17 : decode cX8_span 17 = .ok (.iload_n 1, 1) := by decide +kernel
theorem dX8_span_18 : decode cX8_span 18 = .ok (.invokevirtual 143, 3) := by decide +kernel
theorem dX8_span_21 : decode cX8_span 21 = .ok (.ireturn, 1) := by decide +kernel
theorem dX8_best_0 : decode cX8_best 0 = .ok (.aload_n 0, 1) := by decide +kernel
theorem dX8_best_1 : decode cX8_best 1 = .ok (.getfield 58, 3) := by decide +kernel
theorem dX8_best_4 : decode cX8_best 4 = .ok (.invokevirtual 147, 3) := by decide +kernel
theorem dX8_best_7 : decode cX8_best 7 = .ok (.ireturn, 1) := by decide +kernel
theorem dX8_path_0 : decode cX8_path 0 = .ok (.aload_n 0, 1) := by decide +kernel
theorem dX8_path_1 : decode cX8_path 1 = .ok (.getfield 58, 3) := by decide +kernel
theorem dX8_path_4 : decode cX8_path 4 = .ok (.iload_n 1, 1) := by decide +kernel
theorem dX8_path_5 : decode cX8_path 5 = .ok (.invokevirtual 150, 3) := by decide +kernel
theorem dX8_path_8 : decode cX8_path 8 = .ok (.ireturn, 1) := by decide +kernel
theorem dX8_twins_0 : decode cX8_twins 0 = .ok (.aload_n 0, 1) := by decide +kernel
theorem dX8_twins_1 : decode cX8_twins 1 = .ok (.getfield 67, 3) := by decide +kernel
theorem dX8_twins_4 : decode cX8_twins 4 = .ok (.invokevirtual 153, 3) := by decide +kernel
theorem dX8_twins_7 : decode cX8_twins 7 = .ok (.istore_n 1, 1) := by decide +kernel
theorem dX8_twins_8 : decode cX8_twins 8 = .ok (.aload_n 0, 1) := by decide +kernel
theorem dX8_twins_9 : decode cX8_twins 9 = .ok (.getfield 10, 3) := by decide +kernel
theorem dX8_twins_12 : decode cX8_twins 12 = .ok (.iconst 0, 1) := by decide +kernel
theorem dX8_twins_13 : decode cX8_twins 13 = .ok (.invokevirtual 82, 3) := by decide +kernel
theorem dX8_twins_16 : decode cX8_twins 16 = .ok (.pop, 1) := by decide +kernel
theorem dX8_twins_17 : decode cX8_twins 17 = .ok (.iload_n 1, 1) := by decide +kernel
theorem dX8_twins_18 : decode cX8_twins 18 = .ok (.ireturn, 1) := by decide +kernel
theorem dX8_twin_0 : decode cX8_twin 0 = .ok (.aload_n 0, 1) := by decide +kernel
theorem dX8_twin_1 : decode cX8_twin 1 = .ok (.getfield 67, 3) := by decide +kernel
theorem dX8_twin_4 : decode cX8_twin 4 = .ok (.invokevirtual 156, 3) := by decide +kernel
theorem dX8_twin_7 : decode cX8_twin 7 = .ok (.ireturn, 1) := by decide +kernel
theorem dX8_route_0 : decode cX8_route 0 = .ok (.aload_n 0, 1) := by decide +kernel
theorem dX8_route_1 : decode cX8_route 1 = .ok (.getfield 67, 3) := by decide +kernel
theorem dX8_route_4 : decode cX8_route 4 = .ok (.iload_n 1, 1) := by decide +kernel
theorem dX8_route_5 : decode cX8_route 5 = .ok (.invokevirtual 159, 3) := by decide +kernel
theorem dX8_route_8 : decode cX8_route 8 = .ok (.istore_n 2, 1) := by decide +kernel
theorem dX8_route_9 : decode cX8_route 9 = .ok (.aload_n 0, 1) := by decide +kernel
theorem dX8_route_10 : decode cX8_route 10 = .ok (.getfield 10, 3) := by decide +kernel
theorem dX8_route_13 : decode cX8_route 13 = .ok (.iconst 0, 1) := by decide +kernel
theorem dX8_route_14 : decode cX8_route 14 = .ok (.invokevirtual 82, 3) := by decide +kernel
theorem dX8_route_17 : decode cX8_route 17 = .ok (.pop, 1) := by decide +kernel
theorem dX8_route_18 : decode cX8_route 18 = .ok (.iload_n 2, 1) := by decide +kernel
theorem dX8_route_19 : decode cX8_route 19 = .ok (.ireturn, 1) := by decide +kernel
theorem dX8_check_0 : decode cX8_check 0 = .ok (.aload_n 0, 1) := by decide +kernel
theorem dX8_check_1 : decode cX8_check 1 = .ok (.getfield 19, 3) := by decide +kernel
theorem dX8_check_4 : decode cX8_check 4 = .ok (.iload_n 1, 1) := by decide +kernel
theorem dX8_check_5 : decode cX8_check 5 = .ok (.invokevirtual 100, 3) := by decide +kernel
theorem dX8_check_8 : decode cX8_check 8 = .ok (.ifCond .eq 10, 3) := by decide +kernel
theorem dX8_check_11 : decode cX8_check 11 = .ok (.iload_n 2, 1) := by decide +kernel
theorem dX8_check_12 : decode cX8_check 12 = .ok (.invokestatic 116, 3) := by decide +kernel
theorem dX8_check_15 : decode cX8_check 15 = .ok (.ifCond .ne 5, 3) := by decide +kernel
theorem dX8_check_18 : decode cX8_check 18 = .ok (.iconst (-1), 1) := by decide +kernel
theorem dX8_check_19 : decode cX8_check 19 = .ok (.ireturn, 1) := by decide +kernel
theorem dX8_check_20 : decode cX8_check 20 = .ok (.aload_n 0, 1) := by decide +kernel
theorem dX8_check_21 : decode cX8_check 21 = .ok (.getfield 42, 3) := by decide +kernel
theorem dX8_check_24 : decode cX8_check 24 = .ok (.iload_n 1, 1) := by decide +kernel
theorem dX8_check_25 : decode cX8_check 25 = .ok (.iload_n 2, 1) := by decide +kernel
theorem dX8_check_26 : decode cX8_check 26 = .ok (.invokevirtual 162, 3) := by decide +kernel
theorem dX8_check_29 : decode cX8_check 29 = .ok (.ireturn, 1) := by decide +kernel
theorem dX8_height_0 : decode cX8_height 0 = .ok (.aload_n 0, 1) := by decide +kernel
theorem dX8_height_1 : decode cX8_height 1 = .ok (.getfield 19, 3) := by decide +kernel
theorem dX8_height_4 : decode cX8_height 4 = .ok (.iload_n 1, 1) := by decide +kernel
theorem dX8_height_5 : decode cX8_height 5 = .ok (.invokevirtual 100, 3) := by decide +kernel
theorem dX8_height_8 : decode cX8_height 8 = .ok (.ifCond .eq 14, 3) := by decide +kernel
theorem dX8_height_11 : decode cX8_height 11 = .ok (.aload_n 0, 1) := by decide +kernel
theorem dX8_height_12 : decode cX8_height 12 = .ok (.getfield 19, 3) := by decide +kernel
theorem dX8_height_15 : decode cX8_height 15 = .ok (.iload_n 1, 1) := by decide +kernel
theorem dX8_height_16 : decode cX8_height 16 = .ok (.invokevirtual 166, 3) := by decide +kernel
theorem dX8_height_19 : decode cX8_height 19 = .ok (.goto 5, 3) := by decide +kernel
theorem dX8_height_22 : decode cX8_height 22 = .ok (.bipush (-2), 2) := by decide +kernel
theorem dX8_height_24 : decode cX8_height 24 = .ok (.ireturn, 1) := by decide +kernel
theorem dX8_count_0 : decode cX8_count 0 = .ok (.iload_n 1, 1) := by decide +kernel
theorem dX8_count_1 : decode cX8_count 1 = .ok (.tableswitch 111 0 7 #[47, 55, 63, 71, 79, 87, 95, 103], 47) := by decide +kernel
theorem dX8_count_48 : decode cX8_count 48 = .ok (.aload_n 0, 1) := by decide +kernel
theorem dX8_count_49 : decode cX8_count 49 = .ok (.getfield 19, 3) := by decide +kernel
theorem dX8_count_52 : decode cX8_count 52 = .ok (.invokevirtual 169, 3) := by decide +kernel
theorem dX8_count_55 : decode cX8_count 55 = .ok (.ireturn, 1) := by decide +kernel
theorem dX8_count_56 : decode cX8_count 56 = .ok (.aload_n 0, 1) := by decide +kernel
theorem dX8_count_57 : decode cX8_count 57 = .ok (.getfield 19, 3) := by decide +kernel
theorem dX8_count_60 : decode cX8_count 60 = .ok (.invokevirtual 172, 3) := by decide +kernel
theorem dX8_count_63 : decode cX8_count 63 = .ok (.ireturn, 1) := by decide +kernel
theorem dX8_count_64 : decode cX8_count 64 = .ok (.aload_n 0, 1) := by decide +kernel
theorem dX8_count_65 : decode cX8_count 65 = .ok (.getfield 26, 3) := by decide +kernel
theorem dX8_count_68 : decode cX8_count 68 = .ok (.invokevirtual 175, 3) := by decide +kernel
theorem dX8_count_71 : decode cX8_count 71 = .ok (.ireturn, 1) := by decide +kernel
theorem dX8_count_72 : decode cX8_count 72 = .ok (.aload_n 0, 1) := by decide +kernel
theorem dX8_count_73 : decode cX8_count 73 = .ok (.getfield 33, 3) := by decide +kernel
theorem dX8_count_76 : decode cX8_count 76 = .ok (.invokevirtual 107, 3) := by decide +kernel
theorem dX8_count_79 : decode cX8_count 79 = .ok (.ireturn, 1) := by decide +kernel
theorem dX8_count_80 : decode cX8_count 80 = .ok (.aload_n 0, 1) := by decide +kernel
theorem dX8_count_81 : decode cX8_count 81 = .ok (.getfield 33, 3) := by decide +kernel
theorem dX8_count_84 : decode cX8_count 84 = .ok (.invokevirtual 119, 3) := by decide +kernel
theorem dX8_count_87 : decode cX8_count 87 = .ok (.ireturn, 1) := by decide +kernel
theorem dX8_count_88 : decode cX8_count 88 = .ok (.aload_n 0, 1) := by decide +kernel
theorem dX8_count_89 : decode cX8_count 89 = .ok (.getfield 51, 3) := by decide +kernel
theorem dX8_count_92 : decode cX8_count 92 = .ok (.invokevirtual 178, 3) := by decide +kernel
theorem dX8_count_95 : decode cX8_count 95 = .ok (.ireturn, 1) := by decide +kernel
theorem dX8_count_96 : decode cX8_count 96 = .ok (.aload_n 0, 1) := by decide +kernel
theorem dX8_count_97 : decode cX8_count 97 = .ok (.getfield 42, 3) := by decide +kernel
theorem dX8_count_100 : decode cX8_count 100 = .ok (.invokevirtual 181, 3) := by decide +kernel
theorem dX8_count_103 : decode cX8_count 103 = .ok (.ireturn, 1) := by decide +kernel
theorem dX8_count_104 : decode cX8_count 104 = .ok (.aload_n 0, 1) := by decide +kernel
theorem dX8_count_105 : decode cX8_count 105 = .ok (.getfield 10, 3) := by decide +kernel
theorem dX8_count_108 : decode cX8_count 108 = .ok (.invokevirtual 75, 3) := by decide +kernel
theorem dX8_count_111 : decode cX8_count 111 = .ok (.ireturn, 1) := by decide +kernel
theorem dX8_count_112 : decode cX8_count 112 = .ok (.iconst (-1), 1) := by decide +kernel
theorem dX8_count_113 : decode cX8_count 113 = .ok (.ireturn, 1) := by decide +kernel
theorem dX8_isMove_0 : decode cX8_isMove 0 = .ok (.iload_n 0, 1) := by decide +kernel
theorem dX8_isMove_1 : decode cX8_isMove 1 = .ok (.bipush (-5), 2) := by decide +kernel
theorem dX8_isMove_3 : decode cX8_isMove 3 = .ok (.if_icmp .lt 23, 3) := by decide +kernel
theorem dX8_isMove_6 : decode cX8_isMove 6 = .ok (.iload_n 0, 1) := by decide +kernel
theorem dX8_isMove_7 : decode cX8_isMove 7 = .ok (.iconst 5, 1) := by decide +kernel
theorem dX8_isMove_8 : decode cX8_isMove 8 = .ok (.if_icmp .gt 18, 3) := by decide +kernel
theorem dX8_isMove_11 : decode cX8_isMove 11 = .ok (.iload_n 1, 1) := by decide +kernel
theorem dX8_isMove_12 : decode cX8_isMove 12 = .ok (.bipush (-5), 2) := by decide +kernel
theorem dX8_isMove_14 : decode cX8_isMove 14 = .ok (.if_icmp .lt 12, 3) := by decide +kernel
theorem dX8_isMove_17 : decode cX8_isMove 17 = .ok (.iload_n 1, 1) := by decide +kernel
theorem dX8_isMove_18 : decode cX8_isMove 18 = .ok (.iconst 5, 1) := by decide +kernel
theorem dX8_isMove_19 : decode cX8_isMove 19 = .ok (.if_icmp .gt 7, 3) := by decide +kernel
theorem dX8_isMove_22 : decode cX8_isMove 22 = .ok (.iconst 1, 1) := by decide +kernel
theorem dX8_isMove_23 : decode cX8_isMove 23 = .ok (.goto 4, 3) := by decide +kernel
theorem dX8_isMove_26 : decode cX8_isMove 26 = .ok (.iconst 0, 1) := by decide +kernel
theorem dX8_isMove_27 : decode cX8_isMove 27 = .ok (.ireturn, 1) := by decide +kernel
theorem dX8_isReading_0 : decode cX8_isReading 0 = .ok (.iload_n 0, 1) := by decide +kernel
theorem dX8_isReading_1 : decode cX8_isReading 1 = .ok (.ifCond .lt 14, 3) := by decide +kernel
theorem dX8_isReading_4 : decode cX8_isReading 4 = .ok (.iload_n 0, 1) := by decide +kernel
theorem dX8_isReading_5 : decode cX8_isReading 5 = .ok (.sipush 250, 3) := by decide +kernel
theorem dX8_isReading_8 : decode cX8_isReading 8 = .ok (.if_icmp .gt 7, 3) := by decide +kernel
theorem dX8_isReading_11 : decode cX8_isReading 11 = .ok (.iconst 1, 1) := by decide +kernel
theorem dX8_isReading_12 : decode cX8_isReading 12 = .ok (.goto 4, 3) := by decide +kernel
theorem dX8_isReading_15 : decode cX8_isReading 15 = .ok (.iconst 0, 1) := by decide +kernel
theorem dX8_isReading_16 : decode cX8_isReading 16 = .ok (.ireturn, 1) := by decide +kernel
theorem dX8_commonDivisor_0 : decode cX8_commonDivisor 0 = .ok (.lload_n 0, 1) := by decide +kernel
theorem dX8_commonDivisor_1 : decode cX8_commonDivisor 1 = .ok (.lstore 4, 2) := by decide +kernel
theorem dX8_commonDivisor_3 : decode cX8_commonDivisor 3 = .ok (.lload_n 2, 1) := by decide +kernel
theorem dX8_commonDivisor_4 : decode cX8_commonDivisor 4 = .ok (.lstore 6, 2) := by decide +kernel
theorem dX8_commonDivisor_6 : decode cX8_commonDivisor 6 = .ok (.iconst 0, 1) := by decide +kernel
theorem dX8_commonDivisor_7 : decode cX8_commonDivisor 7 = .ok (.istore 8, 2) := by decide +kernel
theorem dX8_commonDivisor_9 : decode cX8_commonDivisor 9 = .ok (.iload 8, 2) := by decide +kernel
theorem dX8_commonDivisor_11 : decode cX8_commonDivisor 11 = .ok (.sipush 200, 3) := by decide +kernel
theorem dX8_commonDivisor_14 : decode cX8_commonDivisor 14 = .ok (.if_icmp .ge 31, 3) := by decide +kernel
theorem dX8_commonDivisor_17 : decode cX8_commonDivisor 17 = .ok (.lload 6, 2) := by decide +kernel
theorem dX8_commonDivisor_19 : decode cX8_commonDivisor 19 = .ok (.lconst 0, 1) := by decide +kernel
theorem dX8_commonDivisor_20 : decode cX8_commonDivisor 20 = .ok (.lcmp, 1) := by decide +kernel
theorem dX8_commonDivisor_21 : decode cX8_commonDivisor 21 = .ok (.ifCond .eq 24, 3) := by decide +kernel
theorem dX8_commonDivisor_24 : decode cX8_commonDivisor 24 = .ok (.lload 4, 2) := by decide +kernel
theorem dX8_commonDivisor_26 : decode cX8_commonDivisor 26 = .ok (.lload 6, 2) := by decide +kernel
theorem dX8_commonDivisor_28 : decode cX8_commonDivisor 28 = .ok (.lrem, 1) := by decide +kernel
theorem dX8_commonDivisor_29 : decode cX8_commonDivisor 29 = .ok (.lstore 9, 2) := by decide +kernel
theorem dX8_commonDivisor_31 : decode cX8_commonDivisor 31 = .ok (.lload 6, 2) := by decide +kernel
theorem dX8_commonDivisor_33 : decode cX8_commonDivisor 33 = .ok (.lstore 4, 2) := by decide +kernel
theorem dX8_commonDivisor_35 : decode cX8_commonDivisor 35 = .ok (.lload 9, 2) := by decide +kernel
theorem dX8_commonDivisor_37 : decode cX8_commonDivisor 37 = .ok (.lstore 6, 2) := by decide +kernel
theorem dX8_commonDivisor_39 : decode cX8_commonDivisor 39 = .ok (.iinc 8 1, 3) := by decide +kernel
theorem dX8_commonDivisor_42 : decode cX8_commonDivisor 42 = .ok (.goto (-33), 3) := by decide +kernel
theorem dX8_commonDivisor_45 : decode cX8_commonDivisor 45 = .ok (.lload 4, 2) := by decide +kernel
theorem dX8_commonDivisor_47 : decode cX8_commonDivisor 47 = .ok (.lconst 1, 1) := by decide +kernel
theorem dX8_commonDivisor_48 : decode cX8_commonDivisor 48 = .ok (.lcmp, 1) := by decide +kernel
theorem dX8_commonDivisor_49 : decode cX8_commonDivisor 49 = .ok (.ifCond .ge 7, 3) := by decide +kernel
theorem dX8_commonDivisor_52 : decode cX8_commonDivisor 52 = .ok (.lconst 1, 1) := by decide +kernel
theorem dX8_commonDivisor_53 : decode cX8_commonDivisor 53 = .ok (.goto 5, 3) := by decide +kernel
theorem dX8_commonDivisor_56 : decode cX8_commonDivisor 56 = .ok (.lload 4, 2) := by decide +kernel
theorem dX8_commonDivisor_58 : decode cX8_commonDivisor 58 = .ok (.lreturn, 1) := by decide +kernel
