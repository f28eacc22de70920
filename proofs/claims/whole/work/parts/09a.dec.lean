theorem dX0_init_0 : decode cX0_init 0 = .ok (.aload_n 0, 1) := by decide +kernel
theorem dX0_init_1 : decode cX0_init 1 = .ok (.invokespecial 3, 3) := by decide +kernel
theorem dX0_init_4 : decode cX0_init 4 = .ok (.aload_n 0, 1) := by decide +kernel
theorem dX0_init_5 : decode cX0_init 5 = .ok (.iconst 0, 1) := by decide +kernel
theorem dX0_init_6 : decode cX0_init 6 = .ok (.putfield 9, 3) := by decide +kernel
theorem dX0_init_9 : decode cX0_init 9 = .ok (.aload_n 0, 1) := by decide +kernel
theorem dX0_init_10 : decode cX0_init 10 = .ok (.iconst 0, 1) := by decide +kernel
theorem dX0_init_11 : decode cX0_init 11 = .ok (.putfield 15, 3) := by decide +kernel
theorem dX0_init_14 : decode cX0_init 14 = .ok (.aload_n 0, 1) := by decide +kernel
theorem dX0_init_15 : decode cX0_init 15 = .ok (.lconst 0, 1) := by decide +kernel
theorem dX0_init_16 : decode cX0_init 16 = .ok (.putfield 18, 3) := by decide +kernel
theorem dX0_init_19 : decode cX0_init 19 = .ok (.aload_n 0, 1) := by decide +kernel
theorem dX0_init_20 : decode cX0_init 20 = .ok (.aload_n 1, 1) := by decide +kernel
theorem dX0_init_21 : decode cX0_init 21 = .ok (.putfield 22, 3) := by decide +kernel
theorem dX0_init_24 : decode cX0_init 24 = .ok (.return_, 1) := by decide +kernel
theorem dX0_putUp_0 : decode cX0_putUp 0 = .ok (.aload_n 0, 1) := by decide +kernel
theorem dX0_putUp_1 : decode cX0_putUp 1 = .ok (.getfield 22, 3) := by decide +kernel
theorem dX0_putUp_4 : decode cX0_putUp 4 = .ok (.getfield 26, 3) := by decide +kernel
theorem dX0_putUp_7 : decode cX0_putUp 7 = .ok (.istore_n 1, 1) := by decide +kernel
theorem dX0_putUp_8 : decode cX0_putUp 8 = .ok (.aload_n 0, 1) := by decide +kernel
theorem dX0_putUp_9 : decode cX0_putUp 9 = .ok (.iconst 0, 1) := by decide +kernel
theorem dX0_putUp_10 : decode cX0_putUp 10 = .ok (.putfield 9, 3) := by decide +kernel
theorem dX0_putUp_13 : decode cX0_putUp 13 = .ok (.iconst 0, 1) := by decide +kernel
theorem dX0_putUp_14 : decode cX0_putUp 14 = .ok (.istore_n 2, 1) := by decide +kernel
theorem dX0_putUp_15 : decode cX0_putUp 15 = .ok (.iload_n 2, 1) := by decide +kernel
theorem dX0_putUp_16 : decode cX0_putUp 16 = .ok (.bipush 10, 2) := by decide +kernel
theorem dX0_putUp_18 : decode cX0_putUp 18 = .ok (.if_icmp .ge 35, 3) := by decide +kernel
theorem dX0_putUp_21 : decode cX0_putUp 21 = .ok (.aload_n 0, 1) := by decide +kernel
theorem dX0_putUp_22 : decode cX0_putUp 22 = .ok (.iload_n 1, 1) := by decide +kernel
theorem dX0_putUp_23 : decode cX0_putUp 23 = .ok (.invokevirtual 31, 3) := by decide +kernel
theorem dX0_putUp_26 : decode cX0_putUp 26 = .ok (.istore_n 3, 1) := by decide +kernel
theorem dX0_putUp_27 : decode cX0_putUp 27 = .ok (.iload_n 3, 1) := by decide +kernel
theorem dX0_putUp_28 : decode cX0_putUp 28 = .ok (.iload_n 1, 1) := by decide +kernel
theorem dX0_putUp_29 : decode cX0_putUp 29 = .ok (.if_icmp .ne 6, 3) := by decide +kernel
theorem dX0_putUp_32 : decode cX0_putUp 32 = .ok (.goto 21, 3) := by decide +kernel
theorem dX0_putUp_35 : decode cX0_putUp 35 = .ok (.iload_n 3, 1) := by decide +kernel
theorem dX0_putUp_36 : decode cX0_putUp 36 = .ok (.istore_n 1, 1) := by decide +kernel
theorem dX0_putUp_37 : decode cX0_putUp 37 = .ok (.aload_n 0, 1) := by decide +kernel
theorem dX0_putUp_38 : decode cX0_putUp 38 = .ok (.dup, 1) := by decide +kernel
theorem dX0_putUp_39 : decode cX0_putUp 39 = .ok (.getfield 9, 3) := by decide +kernel
theorem dX0_putUp_42 : decode cX0_putUp 42 = .ok (.iconst 1, 1) := by decide +kernel
theorem dX0_putUp_43 : decode cX0_putUp 43 = .ok (.iadd, 1) := by decide +kernel
theorem dX0_putUp_44 : decode cX0_putUp 44 = .ok (.putfield 9, 3) := by decide +kernel
theorem dX0_putUp_47 : decode cX0_putUp 47 = .ok (.iinc 2 1, 3) := by decide +kernel
theorem dX0_putUp_50 : decode cX0_putUp 50 = .ok (.goto (-35), 3) := by decide +kernel
theorem dX0_putUp_53 : decode cX0_putUp 53 = .ok (.iload_n 1, 1) := by decide +kernel
theorem dX0_putUp_54 : decode cX0_putUp 54 = .ok (.ireturn, 1) := by decide +kernel
theorem dX0_improve_0 : decode cX0_improve 0 = .ok (.iload_n 1, 1) := by decide +kernel
theorem dX0_improve_1 : decode cX0_improve 1 = .ok (.istore_n 2, 1) := by decide +kernel
theorem dX0_improve_2 : decode cX0_improve 2 = .ok (.aload_n 0, 1) := by decide +kernel
theorem dX0_improve_3 : decode cX0_improve 3 = .ok (.iconst 0, 1) := by decide +kernel
theorem dX0_improve_4 : decode cX0_improve 4 = .ok (.putfield 9, 3) := by decide +kernel
theorem dX0_improve_7 : decode cX0_improve 7 = .ok (.iconst 0, 1) := by decide +kernel
theorem dX0_improve_8 : decode cX0_improve 8 = .ok (.istore_n 3, 1) := by decide +kernel
theorem dX0_improve_9 : decode cX0_improve 9 = .ok (.iload_n 3, 1) := by decide +kernel
theorem dX0_improve_10 : decode cX0_improve 10 = .ok (.sipush 1024, 3) := by decide +kernel
theorem dX0_improve_13 : decode cX0_improve 13 = .ok (.if_icmp .ge 38, 3) := by decide +kernel
theorem dX0_improve_16 : decode cX0_improve 16 = .ok (.aload_n 0, 1) := by decide +kernel
theorem dX0_improve_17 : decode cX0_improve 17 = .ok (.iload_n 2, 1) := by decide +kernel
theorem dX0_improve_18 : decode cX0_improve 18 = .ok (.invokevirtual 35, 3) := by decide +kernel
theorem dX0_improve_21 : decode cX0_improve 21 = .ok (.istore 4, 2) := by decide +kernel
theorem dX0_improve_23 : decode cX0_improve 23 = .ok (.iload 4, 2) := by decide +kernel
theorem dX0_improve_25 : decode cX0_improve 25 = .ok (.iload_n 2, 1) := by decide +kernel
theorem dX0_improve_26 : decode cX0_improve 26 = .ok (.if_icmp .ne 6, 3) := by decide +kernel
theorem dX0_improve_29 : decode cX0_improve 29 = .ok (.goto 22, 3) := by decide +kernel
theorem dX0_improve_32 : decode cX0_improve 32 = .ok (.iload 4, 2) := by decide +kernel
theorem dX0_improve_34 : decode cX0_improve 34 = .ok (.istore_n 2, 1) := by decide +kernel
theorem dX0_improve_35 : decode cX0_improve 35 = .ok (.aload_n 0, 1) := by decide +kernel
theorem dX0_improve_36 : decode cX0_improve 36 = .ok (.dup, 1) := by decide +kernel
theorem dX0_improve_37 : decode cX0_improve 37 = .ok (.getfield 9, 3) := by decide +kernel
theorem dX0_improve_40 : decode cX0_improve 40 = .ok (.iconst 1, 1) := by decide +kernel
theorem dX0_improve_41 : decode cX0_improve 41 = .ok (.iadd, 1) := by decide +kernel
theorem dX0_improve_42 : decode cX0_improve 42 = .ok (.putfield 9, 3) := by decide +kernel
theorem dX0_improve_45 : decode cX0_improve 45 = .ok (.iinc 3 1, 3) := by decide +kernel
theorem dX0_improve_48 : decode cX0_improve 48 = .ok (.goto (-39), 3) := by decide +kernel
theorem dX0_improve_51 : decode cX0_improve 51 = .ok (.iload_n 2, 1) := by decide +kernel
theorem dX0_improve_52 : decode cX0_improve 52 = .ok (.ireturn, 1) := by decide +kernel
theorem dX0_withOneMore_0 : decode cX0_withOneMore 0 = .ok (.aload_n 0, 1) := by decide +kernel
theorem dX0_withOneMore_1 : decode cX0_withOneMore 1 = .ok (.iload_n 1, 1) := by decide +kernel
theorem dX0_withOneMore_2 : decode cX0_withOneMore 2 = .ok (.invokevirtual 38, 3) := by decide +kernel
theorem dX0_withOneMore_5 : decode cX0_withOneMore 5 = .ok (.iconst 0, 1) := by decide +kernel
theorem dX0_withOneMore_6 : decode cX0_withOneMore 6 = .ok (.istore_n 2, 1) := by decide +kernel
theorem dX0_withOneMore_7 : decode cX0_withOneMore 7 = .ok (.iload_n 2, 1) := by decide +kernel
theorem dX0_withOneMore_8 : decode cX0_withOneMore 8 = .ok (.aload_n 0, 1) := by decide +kernel
theorem dX0_withOneMore_9 : decode cX0_withOneMore 9 = .ok (.getfield 22, 3) := by decide +kernel
theorem dX0_withOneMore_12 : decode cX0_withOneMore 12 = .ok (.getfield 42, 3) := by decide +kernel
theorem dX0_withOneMore_15 : decode cX0_withOneMore 15 = .ok (.getfield 46, 3) := by decide +kernel
theorem dX0_withOneMore_18 : decode cX0_withOneMore 18 = .ok (.if_icmp .ge 26, 3) := by decide +kernel
theorem dX0_withOneMore_21 : decode cX0_withOneMore 21 = .ok (.iload_n 1, 1) := by decide +kernel
theorem dX0_withOneMore_22 : decode cX0_withOneMore 22 = .ok (.iload_n 2, 1) := by decide +kernel
theorem dX0_withOneMore_23 : decode cX0_withOneMore 23 = .ok (.invokestatic 51, 3) := by decide +kernel
theorem dX0_withOneMore_26 : decode cX0_withOneMore 26 = .ok (.ifCond .ne 12, 3) := by decide +kernel
theorem dX0_withOneMore_29 : decode cX0_withOneMore 29 = .ok (.aload_n 0, 1) := by decide +kernel
theorem dX0_withOneMore_30 : decode cX0_withOneMore 30 = .ok (.iload_n 1, 1) := by decide +kernel
theorem dX0_withOneMore_31 : decode cX0_withOneMore 31 = .ok (.iconst 1, 1) := by decide +kernel
theorem dX0_withOneMore_32 : decode cX0_withOneMore 32 = .ok (.iload_n 2, 1) := by decide +kernel
theorem dX0_withOneMore_33 : decode cX0_withOneMore 33 = .ok (.ishl, 1) := by decide +kernel
theorem dX0_withOneMore_34 : decode cX0_withOneMore 34 = .ok (.ior, 1) := by decide +kernel
theorem dX0_withOneMore_35 : decode cX0_withOneMore 35 = .ok (.invokevirtual 55, 3) := by decide +kernel
theorem dX0_withOneMore_38 : decode cX0_withOneMore 38 = .ok (.iinc 2 1, 3) := by decide +kernel
theorem dX0_withOneMore_41 : decode cX0_withOneMore 41 = .ok (.goto (-34), 3) := by decide +kernel
theorem dX0_withOneMore_44 : decode cX0_withOneMore 44 = .ok (.aload_n 0, 1) := by decide +kernel
theorem dX0_withOneMore_45 : decode cX0_withOneMore 45 = .ok (.getfield 15, 3) := by decide +kernel
theorem dX0_withOneMore_48 : decode cX0_withOneMore 48 = .ok (.ireturn, 1) := by decide +kernel
theorem dX0_withOneForAnother_0 : decode cX0_withOneForAnother 0 = .ok (.aload_n 0, 1) := by decide +kernel
theorem dX0_withOneForAnother_1 : decode cX0_withOneForAnother 1 = .ok (.iload_n 1, 1) := by decide +kernel
theorem dX0_withOneForAnother_2 : decode cX0_withOneForAnother 2 = .ok (.invokevirtual 38, 3) := by decide +kernel
theorem dX0_withOneForAnother_5 : decode cX0_withOneForAnother 5 = .ok (.iconst 0, 1) := by decide +kernel
theorem dX0_withOneForAnother_6 : decode cX0_withOneForAnother 6 = .ok (.istore_n 2, 1) := by decide +kernel
theorem dX0_withOneForAnother_7 : decode cX0_withOneForAnother 7 = .ok (.iload_n 2, 1) := by decide +kernel
theorem dX0_withOneForAnother_8 : decode cX0_withOneForAnother 8 = .ok (.aload_n 0, 1) := by decide +kernel
theorem dX0_withOneForAnother_9 : decode cX0_withOneForAnother 9 = .ok (.getfield 22, 3) := by decide +kernel
theorem dX0_withOneForAnother_12 : decode cX0_withOneForAnother 12 = .ok (.getfield 42, 3) := by decide +kernel
theorem dX0_withOneForAnother_15 : decode cX0_withOneForAnother 15 = .ok (.getfield 46, 3) := by decide +kernel
theorem dX0_withOneForAnother_18 : decode cX0_withOneForAnother 18 = .ok (.if_icmp .ge 60, 3) := by decide +kernel
theorem dX0_withOneForAnother_21 : decode cX0_withOneForAnother 21 = .ok (.iconst 0, 1) := by decide +kernel
theorem dX0_withOneForAnother_22 : decode cX0_withOneForAnother 22 = .ok (.istore_n 3, 1) := by decide +kernel
theorem dX0_withOneForAnother_23 : decode cX0_withOneForAnother 23 = .ok (.iload_n 3, 1) := by decide +kernel
theorem dX0_withOneForAnother_24 : decode cX0_withOneForAnother 24 = .ok (.aload_n 0, 1) := by decide +kernel
theorem dX0_withOneForAnother_25 : decode cX0_withOneForAnother 25 = .ok (.getfield 22, 3) := by decide +kernel
theorem dX0_withOneForAnother_28 : decode cX0_withOneForAnother 28 = .ok (.getfield 42, 3) := by decide +kernel
theorem dX0_withOneForAnother_31 : decode cX0_withOneForAnother 31 = .ok (.getfield 46, 3) := by decide +kernel
theorem dX0_withOneForAnother_34 : decode cX0_withOneForAnother 34 = .ok (.if_icmp .ge 38, 3) := by decide +kernel
theorem dX0_withOneForAnother_37 : decode cX0_withOneForAnother 37 = .ok (.iload_n 1, 1) := by decide +kernel
theorem dX0_withOneForAnother_38 : decode cX0_withOneForAnother 38 = .ok (.iload_n 2, 1) := by decide +kernel
theorem dX0_withOneForAnother_39 : decode cX0_withOneForAnother 39 = .ok (.invokestatic 51, 3) := by decide +kernel
theorem dX0_withOneForAnother_42 : decode cX0_withOneForAnother 42 = .ok (.ifCond .eq 24, 3) := by decide +kernel
theorem dX0_withOneForAnother_45 : decode cX0_withOneForAnother 45 = .ok (.iload_n 1, 1) := by decide +kernel
theorem dX0_withOneForAnother_46 : decode cX0_withOneForAnother 46 = .ok (.iload_n 3, 1) := by decide +kernel
theorem dX0_withOneForAnother_47 : decode cX0_withOneForAnother 47 = .ok (.invokestatic 51, 3) := by decide +kernel
theorem dX0_withOneForAnother_50 : decode cX0_withOneForAnother 50 = .ok (.ifCond .ne 16, 3) := by decide +kernel
theorem dX0_withOneForAnother_53 : decode cX0_withOneForAnother 53 = .ok (.aload_n 0, 1) := by decide +kernel
theorem dX0_withOneForAnother_54 : decode cX0_withOneForAnother 54 = .ok (.iload_n 1, 1) := by decide +kernel
theorem dX0_withOneForAnother_55 : decode cX0_withOneForAnother 55 = .ok (.iconst 1, 1) := by decide +kernel
theorem dX0_withOneForAnother_56 : decode cX0_withOneForAnother 56 = .ok (.iload_n 2, 1) := by decide +kernel
theorem dX0_withOneForAnother_57 : decode cX0_withOneForAnother 57 = .ok (.ishl, 1) := by decide +kernel
theorem dX0_withOneForAnother_58 : decode cX0_withOneForAnother 58 = .ok (.ixor, 1) := by decide +kernel
theorem dX0_withOneForAnother_59 : decode cX0_withOneForAnother 59 = .ok (.iconst 1, 1) := by decide +kernel
theorem dX0_withOneForAnother_60 : decode cX0_withOneForAnother 60 = .ok (.iload_n 3, 1) := by decide +kernel
theorem dX0_withOneForAnother_61 : decode cX0_withOneForAnother 61 = .ok (.ishl, 1) := by decide +kernel
theorem dX0_withOneForAnother_62 : decode cX0_withOneForAnother 62 = .ok (.ixor, 1) := by decide +kernel
theorem dX0_withOneForAnother_63 : decode cX0_withOneForAnother 63 = .ok (.invokevirtual 55, 3) := by decide +kernel
theorem dX0_withOneForAnother_66 : decode cX0_withOneForAnother 66 = .ok (.iinc 3 1, 3) := by decide +kernel
theorem dX0_withOneForAnother_69 : decode cX0_withOneForAnother 69 = .ok (.goto (-46), 3) := by decide +kernel
theorem dX0_withOneForAnother_72 : decode cX0_withOneForAnother 72 = .ok (.iinc 2 1, 3) := by decide +kernel
theorem dX0_withOneForAnother_75 : decode cX0_withOneForAnother 75 = .ok (.goto (-68), 3) := by decide +kernel
theorem dX0_withOneForAnother_78 : decode cX0_withOneForAnother 78 = .ok (.aload_n 0, 1) := by decide +kernel
theorem dX0_withOneForAnother_79 : decode cX0_withOneForAnother 79 = .ok (.getfield 15, 3) := by decide +kernel
theorem dX0_withOneForAnother_82 : decode cX0_withOneForAnother 82 = .ok (.ireturn, 1) := by decide +kernel
theorem dX0_startFrom_0 : decode cX0_startFrom 0 = .ok (.aload_n 0, 1) := by decide +kernel
theorem dX0_startFrom_1 : decode cX0_startFrom 1 = .ok (.iload_n 1, 1) := by decide +kernel
theorem dX0_startFrom_2 : decode cX0_startFrom 2 = .ok (.putfield 15, 3) := by decide +kernel
theorem dX0_startFrom_5 : decode cX0_startFrom 5 = .ok (.aload_n 0, 1) := by decide +kernel
theorem dX0_startFrom_6 : decode cX0_startFrom 6 = .ok (.aload_n 0, 1) := by decide +kernel
theorem dX0_startFrom_7 : decode cX0_startFrom 7 = .ok (.getfield 22, 3) := by decide +kernel
theorem dX0_startFrom_10 : decode cX0_startFrom 10 = .ok (.iload_n 1, 1) := by decide +kernel
theorem dX0_startFrom_11 : decode cX0_startFrom 11 = .ok (.invokevirtual 58, 3) := by decide +kernel
theorem dX0_startFrom_14 : decode cX0_startFrom 14 = .ok (.putfield 18, 3) := by decide +kernel
theorem dX0_startFrom_17 : decode cX0_startFrom 17 = .ok (.return_, 1) := by decide +kernel
theorem dX0_consider_0 : decode cX0_consider 0 = .ok (.aload_n 0, 1) := by decide +kernel
theorem dX0_consider_1 : decode cX0_consider 1 = .ok (.getfield 22, 3) := by decide +kernel
theorem dX0_consider_4 : decode cX0_consider 4 = .ok (.iload_n 1, 1) := by decide +kernel
theorem dX0_consider_5 : decode cX0_consider 5 = .ok (.invokevirtual 62, 3) := by decide +kernel
theorem dX0_consider_8 : decode cX0_consider 8 = .ok (.ifCond .eq 14, 3) := by decide +kernel
theorem dX0_consider_11 : decode cX0_consider 11 = .ok (.aload_n 0, 1) := by decide +kernel
theorem dX0_consider_12 : decode cX0_consider 12 = .ok (.getfield 22, 3) := by decide +kernel
theorem dX0_consider_15 : decode cX0_consider 15 = .ok (.iload_n 1, 1) := by decide +kernel
theorem dX0_consider_16 : decode cX0_consider 16 = .ok (.invokevirtual 58, 3) := by decide +kernel
theorem dX0_consider_19 : decode cX0_consider 19 = .ok (.goto 7, 3) := by decide +kernel
theorem dX0_consider_22 : decode cX0_consider 22 = .ok (.aload_n 0, 1) := by decide +kernel
theorem dX0_consider_23 : decode cX0_consider 23 = .ok (.getfield 18, 3) := by decide +kernel
theorem dX0_consider_26 : decode cX0_consider 26 = .ok (.lstore_n 2, 1) := by decide +kernel
theorem dX0_consider_27 : decode cX0_consider 27 = .ok (.lload_n 2, 1) := by decide +kernel
theorem dX0_consider_28 : decode cX0_consider 28 = .ok (.aload_n 0, 1) := by decide +kernel
theorem dX0_consider_29 : decode cX0_consider 29 = .ok (.getfield 18, 3) := by decide +kernel
theorem dX0_consider_32 : decode cX0_consider 32 = .ok (.lcmp, 1) := by decide +kernel
theorem dX0_consider_33 : decode cX0_consider 33 = .ok (.ifCond .ge 13, 3) := by decide +kernel
theorem dX0_consider_36 : decode cX0_consider 36 = .ok (.aload_n 0, 1) := by decide +kernel
theorem dX0_consider_37 : decode cX0_consider 37 = .ok (.iload_n 1, 1) := by decide +kernel
theorem dX0_consider_38 : decode cX0_consider 38 = .ok (.putfield 15, 3) := by decide +kernel
theorem dX0_consider_41 : decode cX0_consider 41 = .ok (.aload_n 0, 1) := by decide +kernel
theorem dX0_consider_42 : decode cX0_consider 42 = .ok (.lload_n 2, 1) := by decide +kernel
theorem dX0_consider_43 : decode cX0_consider 43 = .ok (.putfield 18, 3) := by decide +kernel
theorem dX0_consider_46 : decode cX0_consider 46 = .ok (.return_, 1) := by decide +kernel
theorem dX1_init_0 : decode cX1_init 0 = .ok (.aload_n 0, 1) := by decide +kernel
theorem dX1_init_1 : decode cX1_init 1 = .ok (.invokespecial 3, 3) := by decide +kernel
theorem dX1_init_4 : decode cX1_init 4 = .ok (.aload_n 0, 1) := by decide +kernel
theorem dX1_init_5 : decode cX1_init 5 = .ok (.iconst (-1), 1) := by decide +kernel
theorem dX1_init_6 : decode cX1_init 6 = .ok (.putfield 9, 3) := by decide +kernel
theorem dX1_init_9 : decode cX1_init 9 = .ok (.aload_n 0, 1) := by decide +kernel
theorem dX1_init_10 : decode cX1_init 10 = .ok (.iconst 0, 1) := by decide +kernel
theorem dX1_init_11 : decode cX1_init 11 = .ok (.putfield 15, 3) := by decide +kernel
theorem dX1_init_14 : decode cX1_init 14 = .ok (.aload_n 0, 1) := by decide +kernel
theorem dX1_init_15 : decode cX1_init 15 = .ok (.bipush 60, 2) := by decide +kernel
theorem dX1_init_17 : decode cX1_init 17 = .ok (.newarray .long, 2) := by decide +kernel
theorem dX1_init_19 : decode cX1_init 19 = .ok (.putfield 18, 3) := by decide +kernel
theorem dX1_init_22 : decode cX1_init 22 = .ok (.return_, 1) := by decide +kernel
theorem dX1_renew_0 : decode cX1_renew 0 = .ok (.aload_n 0, 1) := by decide +kernel
theorem dX1_renew_1 : decode cX1_renew 1 = .ok (.iload_n 1, 1) := by decide +kernel
theorem dX1_renew_2 : decode cX1_renew 2 = .ok (.putfield 9, 3) := by decide +kernel
theorem dX1_renew_5 : decode cX1_renew 5 = .ok (.aload_n 0, 1) := by decide +kernel
theorem dX1_renew_6 : decode cX1_renew 6 = .ok (.iload_n 2, 1) := by decide +kernel
theorem dX1_renew_7 : decode cX1_renew 7 = .ok (.putfield 15, 3) := by decide +kernel
theorem dX1_renew_10 : decode cX1_renew 10 = .ok (.iconst 0, 1) := by decide +kernel
theorem dX1_renew_11 : decode cX1_renew 11 = .ok (.istore_n 3, 1) := by decide +kernel
theorem dX1_renew_12 : decode cX1_renew 12 = .ok (.iload_n 3, 1) := by decide +kernel
theorem dX1_renew_13 : decode cX1_renew 13 = .ok (.bipush 60, 2) := by decide +kernel
theorem dX1_renew_15 : decode cX1_renew 15 = .ok (.if_icmp .ge 16, 3) := by decide +kernel
theorem dX1_renew_18 : decode cX1_renew 18 = .ok (.aload_n 0, 1) := by decide +kernel
theorem dX1_renew_19 : decode cX1_renew 19 = .ok (.getfield 18, 3) := by decide +kernel
theorem dX1_renew_22 : decode cX1_renew 22 = .ok (.iload_n 3, 1) := by decide +kernel
theorem dX1_renew_23 : decode cX1_renew 23 = .ok (.lconst 0, 1) := by decide +kernel
theorem dX1_renew_24 : decode cX1_renew 24 = .ok (.lastore, 1) := by decide +kernel
theorem dX1_renew_25 : decode cX1_renew 25 = .ok (.iinc 3 1, 3) := by decide +kernel
theorem dX1_renew_28 : decode cX1_renew 28 = .ok (.goto (-16), 3) := by decide +kernel
theorem dX1_renew_31 : decode cX1_renew 31 = .ok (.return_, 1) := by decide +kernel
theorem dX1_write_0 : decode cX1_write 0 = .ok (.aload_n 0, 1) := by decide +kernel
theorem dX1_write_1 : decode cX1_write 1 = .ok (.getfield 9, 3) := by decide +kernel
theorem dX1_write_4 : decode cX1_write 4 = .ok (.lookupswitch 53 #[(0, 28), (1, 41)], 28) := by decide +kernel
theorem dX1_write_32 : decode cX1_write 32 = .ok (.aload_n 0, 1) := by decide +kernel
theorem dX1_write_33 : decode cX1_write 33 = .ok (.getfield 18, 3) := by decide +kernel
theorem dX1_write_36 : decode cX1_write 36 = .ok (.iload_n 1, 1) := by decide +kernel
theorem dX1_write_37 : decode cX1_write 37 = .ok (.lload_n 2, 1) := by decide +kernel
theorem dX1_write_38 : decode cX1_write 38 = .ok (.l2i, 1) := by decide +kernel
theorem dX1_write_39 : decode cX1_write 39 = .ok (.i2b, 1) := by decide +kernel
theorem dX1_write_40 : decode cX1_write 40 = .ok (.i2l, 1) := by decide +kernel
theorem dX1_write_41 : decode cX1_write 41 = .ok (.lastore, 1) := by decide +kernel
theorem dX1_write_42 : decode cX1_write 42 = .ok (.goto 22, 3) := by decide +kernel
theorem dX1_write_45 : decode cX1_write 45 = .ok (.aload_n 0, 1) := by decide +kernel
theorem dX1_write_46 : decode cX1_write 46 = .ok (.getfield 18, 3) := by decide +kernel
theorem dX1_write_49 : decode cX1_write 49 = .ok (.iload_n 1, 1) := by decide +kernel
theorem dX1_write_50 : decode cX1_write 50 = .ok (.lload_n 2, 1) := by decide +kernel
theorem dX1_write_51 : decode cX1_write 51 = .ok (.l2i, 1) := by decide +kernel
theorem dX1_write_52 : decode cX1_write 52 = .ok (.i2l, 1) := by decide +kernel
theorem dX1_write_53 : decode cX1_write 53 = .ok (.lastore, 1) := by decide +kernel
theorem dX1_write_54 : decode cX1_write 54 = .ok (.goto 10, 3) := by decide +kernel
theorem dX1_write_57 : decode cX1_write 57 = .ok (.aload_n 0, 1) := by decide +kernel
theorem dX1_write_58 : decode cX1_write 58 = .ok (.getfield 18, 3) := by decide +kernel
theorem dX1_write_61 : decode cX1_write 61 = .ok (.iload_n 1, 1) := by decide +kernel
theorem dX1_write_62 : decode cX1_write 62 = .ok (.lload_n 2, 1) := by decide +kernel
theorem dX1_write_63 : decode cX1_write 63 = .ok (.lastore, 1) := by decide +kernel
theorem dX1_write_64 : decode cX1_write 64 = .ok (.return_, 1) := by decide +kernel
theorem dX1_holdsRoad_0 : decode cX1_holdsRoad 0 = .ok (.iload_n 1, 1) := by decide +kernel
theorem dX1_holdsRoad_1 : decode cX1_holdsRoad 1 = .ok (.bipush 20, 2) := by decide +kernel
theorem dX1_holdsRoad_3 : decode cX1_holdsRoad 3 = .ok (.if_icmp .ge 19, 3) := by decide +kernel
theorem dX1_holdsRoad_6 : decode cX1_holdsRoad 6 = .ok (.iload_n 1, 1) := by decide +kernel
theorem dX1_holdsRoad_7 : decode cX1_holdsRoad 7 = .ok (.iconst 1, 1) := by decide +kernel
theorem dX1_holdsRoad_8 : decode cX1_holdsRoad 8 = .ok (.iadd, 1) := by decide +kernel
theorem dX1_holdsRoad_9 : decode cX1_holdsRoad 9 = .ok (.iconst 3, 1) := by decide +kernel
theorem dX1_holdsRoad_10 : decode cX1_holdsRoad 10 = .ok (.imul, 1) := by decide +kernel
theorem dX1_holdsRoad_11 : decode cX1_holdsRoad 11 = .ok (.aload_n 0, 1) := by decide +kernel
theorem dX1_holdsRoad_12 : decode cX1_holdsRoad 12 = .ok (.getfield 15, 3) := by decide +kernel
theorem dX1_holdsRoad_15 : decode cX1_holdsRoad 15 = .ok (.if_icmp .gt 7, 3) := by decide +kernel
theorem dX1_holdsRoad_18 : decode cX1_holdsRoad 18 = .ok (.iconst 1, 1) := by decide +kernel
theorem dX1_holdsRoad_19 : decode cX1_holdsRoad 19 = .ok (.goto 4, 3) := by decide +kernel
theorem dX1_holdsRoad_22 : decode cX1_holdsRoad 22 = .ok (.iconst 0, 1) := by decide +kernel
theorem dX1_holdsRoad_23 : decode cX1_holdsRoad 23 = .ok (.ireturn, 1) := by decide +kernel
theorem dX2_init_0 : decode cX2_init 0 = .ok (.aload_n 0, 1) := by decide +kernel
theorem dX2_init_1 : decode cX2_init 1 = .ok (.invokespecial 3, 3) := by decide +kernel
theorem dX2_init_4 : decode cX2_init 4 = .ok (.aload_n 0, 1) := by decide +kernel
theorem dX2_init_5 : decode cX2_init 5 = .ok (.bipush 11, 2) := by decide +kernel
theorem dX2_init_7 : decode cX2_init 7 = .ok (.anewarray 11, 3) := by decide +kernel
theorem dX2_init_10 : decode cX2_init 10 = .ok (.putfield 13, 3) := by decide +kernel
theorem dX2_init_13 : decode cX2_init 13 = .ok (.aload_n 0, 1) := by decide +kernel
theorem dX2_init_14 : decode cX2_init 14 = .ok (.iconst 0, 1) := by decide +kernel
theorem dX2_init_15 : decode cX2_init 15 = .ok (.putfield 17, 3) := by decide +kernel
theorem dX2_init_18 : decode cX2_init 18 = .ok (.aload_n 0, 1) := by decide +kernel
theorem dX2_init_19 : decode cX2_init 19 = .ok (.iconst 0, 1) := by decide +kernel
theorem dX2_init_20 : decode cX2_init 20 = .ok (.putfield 21, 3) := by decide +kernel
theorem dX2_init_23 : decode cX2_init 23 = .ok (.iconst 0, 1) := by decide +kernel
theorem dX2_init_24 : decode cX2_init 24 = .ok (.istore_n 1, 1) := by decide +kernel
theorem dX2_init_25 : decode cX2_init 25 = .ok (.iload_n 1, 1) := by decide +kernel
theorem dX2_init_26 : decode cX2_init 26 = .ok (.bipush 11, 2) := by decide +kernel
theorem dX2_init_28 : decode cX2_init 28 = .ok (.if_icmp .ge 22, 3) := by decide +kernel
theorem dX2_init_31 : decode cX2_init 31 = .ok (.aload_n 0, 1) := by decide +kernel
theorem dX2_init_32 : decode cX2_init 32 = .ok (.getfield 13, 3) := by decide +kernel
theorem dX2_init_35 : decode cX2_init 35 = .ok (.iload_n 1, 1) := by decide +kernel
theorem dX2_init_36 : decode cX2_init 36 = .ok (.new 11, 3) := by decide +kernel
theorem dX2_init_39 : decode cX2_init 39 = .ok (.dup, 1) := by decide +kernel
theorem dX2_init_40 : decode cX2_init 40 = .ok (.invokespecial 24, 3) := by decide +kernel
theorem dX2_init_43 : decode cX2_init 43 = .ok (.aastore, 1) := by decide +kernel
theorem dX2_init_44 : decode cX2_init 44 = .ok (.iinc 1 1, 3) := by decide +kernel
theorem dX2_init_47 : decode cX2_init 47 = .ok (.goto (-22), 3) := by decide +kernel
theorem dX2_init_50 : decode cX2_init 50 = .ok (.return_, 1) := by decide +kernel
theorem dX2_open_0 : decode cX2_open 0 = .ok (.aload_n 0, 1) := by decide +kernel
theorem dX2_open_1 : decode cX2_open 1 = .ok (.getfield 13, 3) := by decide +kernel
theorem dX2_open_4 : decode cX2_open 4 = .ok (.aload_n 0, 1) := by decide +kernel
theorem dX2_open_5 : decode cX2_open 5 = .ok (.getfield 17, 3) := by decide +kernel
theorem dX2_open_8 : decode cX2_open 8 = .ok (.aaload, 1) := by decide +kernel
theorem dX2_open_9 : decode cX2_open 9 = .ok (.aload_n 1, 1) := by decide +kernel
theorem dX2_open_10 : decode cX2_open 10 = .ok (.invokevirtual 25, 3) := by decide +kernel
theorem dX2_open_13 : decode cX2_open 13 = .ok (.return_, 1) := by decide +kernel
theorem dX2_close_0 : decode cX2_close 0 = .ok (.aload_n 0, 1) := by decide +kernel
theorem dX2_close_1 : decode cX2_close 1 = .ok (.getfield 13, 3) := by decide +kernel
theorem dX2_close_4 : decode cX2_close 4 = .ok (.aload_n 0, 1) := by decide +kernel
theorem dX2_close_5 : decode cX2_close 5 = .ok (.getfield 17, 3) := by decide +kernel
theorem dX2_close_8 : decode cX2_close 8 = .ok (.aaload, 1) := by decide +kernel
theorem dX2_close_9 : decode cX2_close 9 = .ok (.aload_n 1, 1) := by decide +kernel
theorem dX2_close_10 : decode cX2_close 10 = .ok (.invokevirtual 29, 3) := by decide +kernel
theorem dX2_close_13 : decode cX2_close 13 = .ok (.ifCond .eq 5, 3) := by decide +kernel
theorem dX2_close_16 : decode cX2_close 16 = .ok (.iconst 0, 1) := by decide +kernel
theorem dX2_close_17 : decode cX2_close 17 = .ok (.ireturn, 1) := by decide +kernel
theorem dX2_close_18 : decode cX2_close 18 = .ok (.aload_n 0, 1) := by decide +kernel
theorem dX2_close_19 : decode cX2_close 19 = .ok (.aload_n 0, 1) := by decide +kernel
theorem dX2_close_20 : decode cX2_close 20 = .ok (.getfield 17, 3) := by decide +kernel
theorem dX2_close_23 : decode cX2_close 23 = .ok (.iconst 1, 1) := by decide +kernel
theorem dX2_close_24 : decode cX2_close 24 = .ok (.iadd, 1) := by decide +kernel
theorem dX2_close_25 : decode cX2_close 25 = .ok (.bipush 11, 2) := by decide +kernel
theorem dX2_close_27 : decode cX2_close 27 = .ok (.irem, 1) := by decide +kernel
theorem dX2_close_28 : decode cX2_close 28 = .ok (.putfield 17, 3) := by decide +kernel
theorem dX2_close_31 : decode cX2_close 31 = .ok (.aload_n 0, 1) := by decide +kernel
theorem dX2_close_32 : decode cX2_close 32 = .ok (.aload_n 0, 1) := by decide +kernel
theorem dX2_close_33 : decode cX2_close 33 = .ok (.getfield 21, 3) := by decide +kernel
theorem dX2_close_36 : decode cX2_close 36 = .ok (.iconst 1, 1) := by decide +kernel
theorem dX2_close_37 : decode cX2_close 37 = .ok (.iadd, 1) := by decide +kernel
theorem dX2_close_38 : decode cX2_close 38 = .ok (.bipush 10, 2) := by decide +kernel
theorem dX2_close_40 : decode cX2_close 40 = .ok (.invokestatic 33, 3) := by decide +kernel
theorem dX2_close_43 : decode cX2_close 43 = .ok (.putfield 21, 3) := by decide +kernel
theorem dX2_close_46 : decode cX2_close 46 = .ok (.iconst 1, 1) := by decide +kernel
theorem dX2_close_47 : decode cX2_close 47 = .ok (.ireturn, 1) := by decide +kernel
theorem dX2_turnBack_0 : decode cX2_turnBack 0 = .ok (.aload_n 0, 1) := by decide +kernel
theorem dX2_turnBack_1 : decode cX2_turnBack 1 = .ok (.aload_n 0, 1) := by decide +kernel
theorem dX2_turnBack_2 : decode cX2_turnBack 2 = .ok (.getfield 17, 3) := by decide +kernel
theorem dX2_turnBack_5 : decode cX2_turnBack 5 = .ok (.bipush 11, 2) := by decide +kernel
theorem dX2_turnBack_7 : decode cX2_turnBack 7 = .ok (.iadd, 1) := by decide +kernel
theorem dX2_turnBack_8 : decode cX2_turnBack 8 = .ok (.iconst 1, 1) := by decide +kernel
theorem dX2_turnBack_9 : decode cX2_turnBack 9 = .ok (.isub, 1) := by decide +kernel
theorem dX2_turnBack_10 : decode cX2_turnBack 10 = .ok (.bipush 11, 2) := by decide +kernel
theorem dX2_turnBack_12 : decode cX2_turnBack 12 = .ok (.irem, 1) := by decide +kernel
theorem dX2_turnBack_13 : decode cX2_turnBack 13 = .ok (.putfield 17, 3) := by decide +kernel
theorem dX2_turnBack_16 : decode cX2_turnBack 16 = .ok (.aload_n 0, 1) := by decide +kernel
theorem dX2_turnBack_17 : decode cX2_turnBack 17 = .ok (.dup, 1) := by decide +kernel
theorem dX2_turnBack_18 : decode cX2_turnBack 18 = .ok (.getfield 21, 3) := by decide +kernel
theorem dX2_turnBack_21 : decode cX2_turnBack 21 = .ok (.iconst 1, 1) := by decide +kernel
theorem dX2_turnBack_22 : decode cX2_turnBack 22 = .ok (.isub, 1) := by decide +kernel
theorem dX2_turnBack_23 : decode cX2_turnBack 23 = .ok (.putfield 21, 3) := by decide +kernel
theorem dX2_turnBack_26 : decode cX2_turnBack 26 = .ok (.aload_n 1, 1) := by decide +kernel
theorem dX2_turnBack_27 : decode cX2_turnBack 27 = .ok (.aload_n 0, 1) := by decide +kernel
theorem dX2_turnBack_28 : decode cX2_turnBack 28 = .ok (.getfield 13, 3) := by decide +kernel
theorem dX2_turnBack_31 : decode cX2_turnBack 31 = .ok (.aload_n 0, 1) := by decide +kernel
theorem dX2_turnBack_32 : decode cX2_turnBack 32 = .ok (.getfield 17, 3) := by decide +kernel
theorem dX2_turnBack_35 : decode cX2_turnBack 35 = .ok (.aaload, 1) := by decide +kernel
theorem dX2_turnBack_36 : decode cX2_turnBack 36 = .ok (.invokevirtual 25, 3) := by decide +kernel
theorem dX2_turnBack_39 : decode cX2_turnBack 39 = .ok (.return_, 1) := by decide +kernel
theorem dX3_init_0 : decode cX3_init 0 = .ok (.aload_n 0, 1) := by decide +kernel
theorem dX3_init_1 : decode cX3_init 1 = .ok (.invokespecial 3, 3) := by decide +kernel
theorem dX3_init_4 : decode cX3_init 4 = .ok (.aload_n 0, 1) := by decide +kernel
theorem dX3_init_5 : decode cX3_init 5 = .ok (.bipush 120, 2) := by decide +kernel
theorem dX3_init_7 : decode cX3_init 7 = .ok (.newarray .int, 2) := by decide +kernel
theorem dX3_init_9 : decode cX3_init 9 = .ok (.putfield 9, 3) := by decide +kernel
theorem dX3_init_12 : decode cX3_init 12 = .ok (.aload_n 0, 1) := by decide +kernel
theorem dX3_init_13 : decode cX3_init 13 = .ok (.iconst 0, 1) := by decide +kernel
theorem dX3_init_14 : decode cX3_init 14 = .ok (.putfield 15, 3) := by decide +kernel
theorem dX3_init_17 : decode cX3_init 17 = .ok (.aload_n 0, 1) := by decide +kernel
theorem dX3_init_18 : decode cX3_init 18 = .ok (.iconst 0, 1) := by decide +kernel
theorem dX3_init_19 : decode cX3_init 19 = .ok (.putfield 19, 3) := by decide +kernel
theorem dX3_init_22 : decode cX3_init 22 = .ok (.aload_n 0, 1) := by decide +kernel
theorem dX3_init_23 : decode cX3_init 23 = .ok (.aload_n 1, 1) := by decide +kernel
theorem dX3_init_24 : decode cX3_init 24 = .ok (.putfield 22, 3) := by decide +kernel
theorem dX3_init_27 : decode cX3_init 27 = .ok (.return_, 1) := by decide +kernel
theorem dX3_carry_0 : decode cX3_carry 0 = .ok (.aload_n 0, 1) := by decide +kernel
theorem dX3_carry_1 : decode cX3_carry 1 = .ok (.aload_n 0, 1) := by decide +kernel
theorem dX3_carry_2 : decode cX3_carry 2 = .ok (.getfield 22, 3) := by decide +kernel
theorem dX3_carry_5 : decode cX3_carry 5 = .ok (.iconst 3, 1) := by decide +kernel
theorem dX3_carry_6 : decode cX3_carry 6 = .ok (.invokevirtual 26, 3) := by decide +kernel
theorem dX3_carry_9 : decode cX3_carry 9 = .ok (.putfield 15, 3) := by decide +kernel
theorem dX3_carry_12 : decode cX3_carry 12 = .ok (.aload_n 0, 1) := by decide +kernel
theorem dX3_carry_13 : decode cX3_carry 13 = .ok (.aload_n 0, 1) := by decide +kernel
theorem dX3_carry_14 : decode cX3_carry 14 = .ok (.getfield 22, 3) := by decide +kernel
theorem dX3_carry_17 : decode cX3_carry 17 = .ok (.iconst 1, 1) := by decide +kernel
theorem dX3_carry_18 : decode cX3_carry 18 = .ok (.invokevirtual 26, 3) := by decide +kernel
theorem dX3_carry_21 : decode cX3_carry 21 = .ok (.putfield 19, 3) := by decide +kernel
theorem dX3_carry_24 : decode cX3_carry 24 = .ok (.iconst 0, 1) := by decide +kernel
theorem dX3_carry_25 : decode cX3_carry 25 = .ok (.istore_n 2, 1) := by decide +kernel
theorem dX3_carry_26 : decode cX3_carry 26 = .ok (.iload_n 2, 1) := by decide +kernel
theorem dX3_carry_27 : decode cX3_carry 27 = .ok (.aload_n 0, 1) := by decide +kernel
theorem dX3_carry_28 : decode cX3_carry 28 = .ok (.getfield 22, 3) := by decide +kernel
theorem dX3_carry_31 : decode cX3_carry 31 = .ok (.getfield 32, 3) := by decide +kernel
theorem dX3_carry_34 : decode cX3_carry 34 = .ok (.if_icmp .ge 58, 3) := by decide +kernel
theorem dX3_carry_37 : decode cX3_carry 37 = .ok (.iconst 0, 1) := by decide +kernel
theorem dX3_carry_38 : decode cX3_carry 38 = .ok (.istore_n 3, 1) := by decide +kernel
theorem dX3_carry_39 : decode cX3_carry 39 = .ok (.iload_n 3, 1) := by decide +kernel
theorem dX3_carry_40 : decode cX3_carry 40 = .ok (.aload_n 0, 1) := by decide +kernel
theorem dX3_carry_41 : decode cX3_carry 41 = .ok (.getfield 22, 3) := by decide +kernel
theorem dX3_carry_44 : decode cX3_carry 44 = .ok (.getfield 35, 3) := by decide +kernel
theorem dX3_carry_47 : decode cX3_carry 47 = .ok (.if_icmp .ge 39, 3) := by decide +kernel
theorem dX3_carry_50 : decode cX3_carry 50 = .ok (.aload_n 0, 1) := by decide +kernel
theorem dX3_carry_51 : decode cX3_carry 51 = .ok (.getfield 9, 3) := by decide +kernel
theorem dX3_carry_54 : decode cX3_carry 54 = .ok (.iload_n 2, 1) := by decide +kernel
theorem dX3_carry_55 : decode cX3_carry 55 = .ok (.bipush 12, 2) := by decide +kernel
theorem dX3_carry_57 : decode cX3_carry 57 = .ok (.imul, 1) := by decide +kernel
theorem dX3_carry_58 : decode cX3_carry 58 = .ok (.iload_n 3, 1) := by decide +kernel
theorem dX3_carry_59 : decode cX3_carry 59 = .ok (.iadd, 1) := by decide +kernel
theorem dX3_carry_60 : decode cX3_carry 60 = .ok (.aload_n 0, 1) := by decide +kernel
theorem dX3_carry_61 : decode cX3_carry 61 = .ok (.iload_n 2, 1) := by decide +kernel
theorem dX3_carry_62 : decode cX3_carry 62 = .ok (.aload_n 1, 1) := by decide +kernel
theorem dX3_carry_63 : decode cX3_carry 63 = .ok (.aload_n 0, 1) := by decide +kernel
theorem dX3_carry_64 : decode cX3_carry 64 = .ok (.getfield 22, 3) := by decide +kernel
theorem dX3_carry_67 : decode cX3_carry 67 = .ok (.getfield 38, 3) := by decide +kernel
theorem dX3_carry_70 : decode cX3_carry 70 = .ok (.iload_n 2, 1) := by decide +kernel
theorem dX3_carry_71 : decode cX3_carry 71 = .ok (.iaload, 1) := by decide +kernel
theorem dX3_carry_72 : decode cX3_carry 72 = .ok (.iload_n 3, 1) := by decide +kernel
theorem dX3_carry_73 : decode cX3_carry 73 = .ok (.invokevirtual 41, 3) := by decide +kernel
theorem dX3_carry_76 : decode cX3_carry 76 = .ok (.invokevirtual 47, 3) := by decide +kernel
theorem dX3_carry_79 : decode cX3_carry 79 = .ok (.iastore, 1) := by decide +kernel
theorem dX3_carry_80 : decode cX3_carry 80 = .ok (.iinc 3 1, 3) := by decide +kernel
theorem dX3_carry_83 : decode cX3_carry 83 = .ok (.goto (-44), 3) := by decide +kernel
theorem dX3_carry_86 : decode cX3_carry 86 = .ok (.iinc 2 1, 3) := by decide +kernel
theorem dX3_carry_89 : decode cX3_carry 89 = .ok (.goto (-63), 3) := by decide +kernel
theorem dX3_carry_92 : decode cX3_carry 92 = .ok (.return_, 1) := by decide +kernel
theorem dX3_carriedOver_0 : decode cX3_carriedOver 0 = .ok (.iload_n 2, 1) := by decide +kernel
theorem dX3_carriedOver_1 : decode cX3_carriedOver 1 = .ok (.ldc 50, 2) := by decide +kernel
theorem dX3_carriedOver_3 : decode cX3_carriedOver 3 = .ok (.if_icmp .ne 6, 3) := by decide +kernel
theorem dX3_carriedOver_6 : decode cX3_carriedOver 6 = .ok (.ldc 50, 2) := by decide +kernel
theorem dX3_carriedOver_8 : decode cX3_carriedOver 8 = .ok (.ireturn, 1) := by decide +kernel
theorem dX3_carriedOver_9 : decode cX3_carriedOver 9 = .ok (.aload_n 0, 1) := by decide +kernel
theorem dX3_carriedOver_10 : decode cX3_carriedOver 10 = .ok (.getfield 22, 3) := by decide +kernel
theorem dX3_carriedOver_13 : decode cX3_carriedOver 13 = .ok (.getfield 51, 3) := by decide +kernel
theorem dX3_carriedOver_16 : decode cX3_carriedOver 16 = .ok (.iload_n 1, 1) := by decide +kernel
theorem dX3_carriedOver_17 : decode cX3_carriedOver 17 = .ok (.iaload, 1) := by decide +kernel
theorem dX3_carriedOver_18 : decode cX3_carriedOver 18 = .ok (.lookupswitch 52 #[(1, 26), (4, 32)], 26) := by decide +kernel
theorem dX3_carriedOver_44 : decode cX3_carriedOver 44 = .ok (.iload_n 2, 1) := by decide +kernel
theorem dX3_carriedOver_45 : decode cX3_carriedOver 45 = .ok (.iconst 1, 1) := by decide +kernel
theorem dX3_carriedOver_46 : decode cX3_carriedOver 46 = .ok (.iadd, 1) := by decide +kernel
theorem dX3_carriedOver_47 : decode cX3_carriedOver 47 = .ok (.iconst 2, 1) := by decide +kernel
theorem dX3_carriedOver_48 : decode cX3_carriedOver 48 = .ok (.idiv, 1) := by decide +kernel
theorem dX3_carriedOver_49 : decode cX3_carriedOver 49 = .ok (.ireturn, 1) := by decide +kernel
theorem dX3_carriedOver_50 : decode cX3_carriedOver 50 = .ok (.iload_n 2, 1) := by decide +kernel
theorem dX3_carriedOver_51 : decode cX3_carriedOver 51 = .ok (.aload_n 0, 1) := by decide +kernel
theorem dX3_carriedOver_52 : decode cX3_carriedOver 52 = .ok (.getfield 22, 3) := by decide +kernel
theorem dX3_carriedOver_55 : decode cX3_carriedOver 55 = .ok (.getfield 54, 3) := by decide +kernel
theorem dX3_carriedOver_58 : decode cX3_carriedOver 58 = .ok (.iload_n 1, 1) := by decide +kernel
theorem dX3_carriedOver_59 : decode cX3_carriedOver 59 = .ok (.iaload, 1) := by decide +kernel
theorem dX3_carriedOver_60 : decode cX3_carriedOver 60 = .ok (.if_icmp .le 8, 3) := by decide +kernel
theorem dX3_carriedOver_63 : decode cX3_carriedOver 63 = .ok (.ldc 50, 2) := by decide +kernel
theorem dX3_carriedOver_65 : decode cX3_carriedOver 65 = .ok (.goto 4, 3) := by decide +kernel
theorem dX3_carriedOver_68 : decode cX3_carriedOver 68 = .ok (.iload_n 2, 1) := by decide +kernel
theorem dX3_carriedOver_69 : decode cX3_carriedOver 69 = .ok (.ireturn, 1) := by decide +kernel
theorem dX3_carriedOver_70 : decode cX3_carriedOver 70 = .ok (.iload_n 2, 1) := by decide +kernel
theorem dX3_carriedOver_71 : decode cX3_carriedOver 71 = .ok (.ireturn, 1) := by decide +kernel
theorem dX3_carriedTo_0 : decode cX3_carriedTo 0 = .ok (.aload_n 0, 1) := by decide +kernel
theorem dX3_carriedTo_1 : decode cX3_carriedTo 1 = .ok (.getfield 9, 3) := by decide +kernel
theorem dX3_carriedTo_4 : decode cX3_carriedTo 4 = .ok (.iload_n 1, 1) := by decide +kernel
theorem dX3_carriedTo_5 : decode cX3_carriedTo 5 = .ok (.bipush 12, 2) := by decide +kernel
theorem dX3_carriedTo_7 : decode cX3_carriedTo 7 = .ok (.imul, 1) := by decide +kernel
theorem dX3_carriedTo_8 : decode cX3_carriedTo 8 = .ok (.iload_n 2, 1) := by decide +kernel
theorem dX3_carriedTo_9 : decode cX3_carriedTo 9 = .ok (.iadd, 1) := by decide +kernel
theorem dX3_carriedTo_10 : decode cX3_carriedTo 10 = .ok (.iaload, 1) := by decide +kernel
theorem dX3_carriedTo_11 : decode cX3_carriedTo 11 = .ok (.ireturn, 1) := by decide +kernel
theorem dX3_isChoice_0 : decode cX3_isChoice 0 = .ok (.iload_n 1, 1) := by decide +kernel
theorem dX3_isChoice_1 : decode cX3_isChoice 1 = .ok (.aload_n 0, 1) := by decide +kernel
theorem dX3_isChoice_2 : decode cX3_isChoice 2 = .ok (.getfield 22, 3) := by decide +kernel
theorem dX3_isChoice_5 : decode cX3_isChoice 5 = .ok (.getfield 32, 3) := by decide +kernel
theorem dX3_isChoice_8 : decode cX3_isChoice 8 = .ok (.iushr, 1) := by decide +kernel
theorem dX3_isChoice_9 : decode cX3_isChoice 9 = .ok (.ifCond .ne 7, 3) := by decide +kernel
theorem dX3_isChoice_12 : decode cX3_isChoice 12 = .ok (.iconst 1, 1) := by decide +kernel
theorem dX3_isChoice_13 : decode cX3_isChoice 13 = .ok (.goto 4, 3) := by decide +kernel
theorem dX3_isChoice_16 : decode cX3_isChoice 16 = .ok (.iconst 0, 1) := by decide +kernel
theorem dX3_isChoice_17 : decode cX3_isChoice 17 = .ok (.ireturn, 1) := by decide +kernel
theorem dX3_mayStand_0 : decode cX3_mayStand 0 = .ok (.iload_n 1, 1) := by decide +kernel
theorem dX3_mayStand_1 : decode cX3_mayStand 1 = .ok (.aload_n 0, 1) := by decide +kernel
theorem dX3_mayStand_2 : decode cX3_mayStand 2 = .ok (.getfield 15, 3) := by decide +kernel
theorem dX3_mayStand_5 : decode cX3_mayStand 5 = .ok (.iand, 1) := by decide +kernel
theorem dX3_mayStand_6 : decode cX3_mayStand 6 = .ok (.aload_n 0, 1) := by decide +kernel
theorem dX3_mayStand_7 : decode cX3_mayStand 7 = .ok (.getfield 15, 3) := by decide +kernel
theorem dX3_mayStand_10 : decode cX3_mayStand 10 = .ok (.if_icmp .ne 31, 3) := by decide +kernel
theorem dX3_mayStand_13 : decode cX3_mayStand 13 = .ok (.iload_n 1, 1) := by decide +kernel
theorem dX3_mayStand_14 : decode cX3_mayStand 14 = .ok (.invokestatic 57, 3) := by decide +kernel
theorem dX3_mayStand_17 : decode cX3_mayStand 17 = .ok (.iload_n 1, 1) := by decide +kernel
theorem dX3_mayStand_18 : decode cX3_mayStand 18 = .ok (.aload_n 0, 1) := by decide +kernel
theorem dX3_mayStand_19 : decode cX3_mayStand 19 = .ok (.getfield 19, 3) := by decide +kernel
theorem dX3_mayStand_22 : decode cX3_mayStand 22 = .ok (.iand, 1) := by decide +kernel
theorem dX3_mayStand_23 : decode cX3_mayStand 23 = .ok (.invokestatic 57, 3) := by decide +kernel
theorem dX3_mayStand_26 : decode cX3_mayStand 26 = .ok (.iadd, 1) := by decide +kernel
theorem dX3_mayStand_27 : decode cX3_mayStand 27 = .ok (.aload_n 0, 1) := by decide +kernel
theorem dX3_mayStand_28 : decode cX3_mayStand 28 = .ok (.getfield 22, 3) := by decide +kernel
theorem dX3_mayStand_31 : decode cX3_mayStand 31 = .ok (.getfield 62, 3) := by decide +kernel
theorem dX3_mayStand_34 : decode cX3_mayStand 34 = .ok (.if_icmp .gt 7, 3) := by decide +kernel
theorem dX3_mayStand_37 : decode cX3_mayStand 37 = .ok (.iconst 1, 1) := by decide +kernel
theorem dX3_mayStand_38 : decode cX3_mayStand 38 = .ok (.goto 4, 3) := by decide +kernel
theorem dX3_mayStand_41 : decode cX3_mayStand 41 = .ok (.iconst 0, 1) := by decide +kernel
theorem dX3_mayStand_42 : decode cX3_mayStand 42 = .ok (.ireturn, 1) := by decide +kernel
theorem dX3_ovenFor_0 : decode cX3_ovenFor 0 = .ok (.bipush (-4), 2) := by decide +kernel
theorem dX3_ovenFor_2 : decode cX3_ovenFor 2 = .ok (.istore_n 3, 1) := by decide +kernel
theorem dX3_ovenFor_3 : decode cX3_ovenFor 3 = .ok (.ldc 50, 2) := by decide +kernel
theorem dX3_ovenFor_5 : decode cX3_ovenFor 5 = .ok (.istore 4, 2) := by decide +kernel
theorem dX3_ovenFor_7 : decode cX3_ovenFor 7 = .ok (.iconst 0, 1) := by decide +kernel
theorem dX3_ovenFor_8 : decode cX3_ovenFor 8 = .ok (.istore 5, 2) := by decide +kernel
theorem dX3_ovenFor_10 : decode cX3_ovenFor 10 = .ok (.iload 5, 2) := by decide +kernel
theorem dX3_ovenFor_12 : decode cX3_ovenFor 12 = .ok (.aload_n 0, 1) := by decide +kernel
theorem dX3_ovenFor_13 : decode cX3_ovenFor 13 = .ok (.getfield 22, 3) := by decide +kernel
theorem dX3_ovenFor_16 : decode cX3_ovenFor 16 = .ok (.getfield 32, 3) := by decide +kernel
theorem dX3_ovenFor_19 : decode cX3_ovenFor 19 = .ok (.if_icmp .ge 42, 3) := by decide +kernel
theorem dX3_ovenFor_22 : decode cX3_ovenFor 22 = .ok (.iload_n 1, 1) := by decide +kernel
theorem dX3_ovenFor_23 : decode cX3_ovenFor 23 = .ok (.iload 5, 2) := by decide +kernel
theorem dX3_ovenFor_25 : decode cX3_ovenFor 25 = .ok (.invokestatic 65, 3) := by decide +kernel
theorem dX3_ovenFor_28 : decode cX3_ovenFor 28 = .ok (.ifCond .eq 27, 3) := by decide +kernel
theorem dX3_ovenFor_31 : decode cX3_ovenFor 31 = .ok (.aload_n 0, 1) := by decide +kernel
theorem dX3_ovenFor_32 : decode cX3_ovenFor 32 = .ok (.iload 5, 2) := by decide +kernel
theorem dX3_ovenFor_34 : decode cX3_ovenFor 34 = .ok (.iload_n 2, 1) := by decide +kernel
theorem dX3_ovenFor_35 : decode cX3_ovenFor 35 = .ok (.invokevirtual 69, 3) := by decide +kernel
theorem dX3_ovenFor_38 : decode cX3_ovenFor 38 = .ok (.iload 4, 2) := by decide +kernel
theorem dX3_ovenFor_40 : decode cX3_ovenFor 40 = .ok (.if_icmp .ge 15, 3) := by decide +kernel
theorem dX3_ovenFor_43 : decode cX3_ovenFor 43 = .ok (.iload 5, 2) := by decide +kernel
theorem dX3_ovenFor_45 : decode cX3_ovenFor 45 = .ok (.istore_n 3, 1) := by decide +kernel
theorem dX3_ovenFor_46 : decode cX3_ovenFor 46 = .ok (.aload_n 0, 1) := by decide +kernel
theorem dX3_ovenFor_47 : decode cX3_ovenFor 47 = .ok (.iload 5, 2) := by decide +kernel
theorem dX3_ovenFor_49 : decode cX3_ovenFor 49 = .ok (.iload_n 2, 1) := by decide +kernel
theorem dX3_ovenFor_50 : decode cX3_ovenFor 50 = .ok (.invokevirtual 69, 3) := by decide +kernel
theorem dX3_ovenFor_53 : decode cX3_ovenFor 53 = .ok (.istore 4, 2) := by decide +kernel
theorem dX3_ovenFor_55 : decode cX3_ovenFor 55 = .ok (.iinc 5 1, 3) := by decide +kernel
theorem dX3_ovenFor_58 : decode cX3_ovenFor 58 = .ok (.goto (-48), 3) := by decide +kernel
theorem dX3_ovenFor_61 : decode cX3_ovenFor 61 = .ok (.iload_n 3, 1) := by decide +kernel
theorem dX3_ovenFor_62 : decode cX3_ovenFor 62 = .ok (.ireturn, 1) := by decide +kernel
theorem dX3_measureOf_0 : decode cX3_measureOf 0 = .ok (.lconst 0, 1) := by decide +kernel
theorem dX3_measureOf_1 : decode cX3_measureOf 1 = .ok (.lstore_n 2, 1) := by decide +kernel
theorem dX3_measureOf_2 : decode cX3_measureOf 2 = .ok (.iconst 0, 1) := by decide +kernel
theorem dX3_measureOf_3 : decode cX3_measureOf 3 = .ok (.istore 4, 2) := by decide +kernel
theorem dX3_measureOf_5 : decode cX3_measureOf 5 = .ok (.iload 4, 2) := by decide +kernel
theorem dX3_measureOf_7 : decode cX3_measureOf 7 = .ok (.aload_n 0, 1) := by decide +kernel
theorem dX3_measureOf_8 : decode cX3_measureOf 8 = .ok (.getfield 22, 3) := by decide +kernel
theorem dX3_measureOf_11 : decode cX3_measureOf 11 = .ok (.getfield 32, 3) := by decide +kernel
theorem dX3_measureOf_14 : decode cX3_measureOf 14 = .ok (.if_icmp .ge 35, 3) := by decide +kernel
theorem dX3_measureOf_17 : decode cX3_measureOf 17 = .ok (.lload_n 2, 1) := by decide +kernel
theorem dX3_measureOf_18 : decode cX3_measureOf 18 = .ok (.iload_n 1, 1) := by decide +kernel
theorem dX3_measureOf_19 : decode cX3_measureOf 19 = .ok (.iload 4, 2) := by decide +kernel
theorem dX3_measureOf_21 : decode cX3_measureOf 21 = .ok (.invokestatic 65, 3) := by decide +kernel
theorem dX3_measureOf_24 : decode cX3_measureOf 24 = .ok (.ifCond .eq 16, 3) := by decide +kernel
theorem dX3_measureOf_27 : decode cX3_measureOf 27 = .ok (.aload_n 0, 1) := by decide +kernel
theorem dX3_measureOf_28 : decode cX3_measureOf 28 = .ok (.getfield 22, 3) := by decide +kernel
theorem dX3_measureOf_31 : decode cX3_measureOf 31 = .ok (.iload 4, 2) := by decide +kernel
theorem dX3_measureOf_33 : decode cX3_measureOf 33 = .ok (.invokevirtual 72, 3) := by decide +kernel
theorem dX3_measureOf_36 : decode cX3_measureOf 36 = .ok (.i2l, 1) := by decide +kernel
theorem dX3_measureOf_37 : decode cX3_measureOf 37 = .ok (.goto 4, 3) := by decide +kernel
theorem dX3_measureOf_40 : decode cX3_measureOf 40 = .ok (.lconst 0, 1) := by decide +kernel
theorem dX3_measureOf_41 : decode cX3_measureOf 41 = .ok (.ladd, 1) := by decide +kernel
theorem dX3_measureOf_42 : decode cX3_measureOf 42 = .ok (.lstore_n 2, 1) := by decide +kernel
theorem dX3_measureOf_43 : decode cX3_measureOf 43 = .ok (.iinc 4 1, 3) := by decide +kernel
theorem dX3_measureOf_46 : decode cX3_measureOf 46 = .ok (.goto (-41), 3) := by decide +kernel
theorem dX3_measureOf_49 : decode cX3_measureOf 49 = .ok (.iconst 0, 1) := by decide +kernel
theorem dX3_measureOf_50 : decode cX3_measureOf 50 = .ok (.istore 4, 2) := by decide +kernel
theorem dX3_measureOf_52 : decode cX3_measureOf 52 = .ok (.iload 4, 2) := by decide +kernel
theorem dX3_measureOf_54 : decode cX3_measureOf 54 = .ok (.aload_n 0, 1) := by decide +kernel
theorem dX3_measureOf_55 : decode cX3_measureOf 55 = .ok (.getfield 22, 3) := by decide +kernel
theorem dX3_measureOf_58 : decode cX3_measureOf 58 = .ok (.getfield 35, 3) := by decide +kernel
theorem dX3_measureOf_61 : decode cX3_measureOf 61 = .ok (.if_icmp .ge 68, 3) := by decide +kernel
theorem dX3_measureOf_64 : decode cX3_measureOf 64 = .ok (.aload_n 0, 1) := by decide +kernel
theorem dX3_measureOf_65 : decode cX3_measureOf 65 = .ok (.getfield 22, 3) := by decide +kernel
theorem dX3_measureOf_68 : decode cX3_measureOf 68 = .ok (.getfield 75, 3) := by decide +kernel
theorem dX3_measureOf_71 : decode cX3_measureOf 71 = .ok (.iload 4, 2) := by decide +kernel
theorem dX3_measureOf_73 : decode cX3_measureOf 73 = .ok (.iaload, 1) := by decide +kernel
theorem dX3_measureOf_74 : decode cX3_measureOf 74 = .ok (.ifCond .le 49, 3) := by decide +kernel
theorem dX3_measureOf_77 : decode cX3_measureOf 77 = .ok (.aload_n 0, 1) := by decide +kernel
theorem dX3_measureOf_78 : decode cX3_measureOf 78 = .ok (.iload_n 1, 1) := by decide +kernel
theorem dX3_measureOf_79 : decode cX3_measureOf 79 = .ok (.iload 4, 2) := by decide +kernel
theorem dX3_measureOf_81 : decode cX3_measureOf 81 = .ok (.invokevirtual 78, 3) := by decide +kernel
theorem dX3_measureOf_84 : decode cX3_measureOf 84 = .ok (.istore 5, 2) := by decide +kernel
theorem dX3_measureOf_86 : decode cX3_measureOf 86 = .ok (.lload_n 2, 1) := by decide +kernel
theorem dX3_measureOf_87 : decode cX3_measureOf 87 = .ok (.iload 5, 2) := by decide +kernel
theorem dX3_measureOf_89 : decode cX3_measureOf 89 = .ok (.bipush (-4), 2) := by decide +kernel
theorem dX3_measureOf_91 : decode cX3_measureOf 91 = .ok (.if_icmp .ne 9, 3) := by decide +kernel
theorem dX3_measureOf_94 : decode cX3_measureOf 94 = .ok (.ldc2_w 81, 3) := by decide +kernel
theorem dX3_measureOf_97 : decode cX3_measureOf 97 = .ok (.goto 24, 3) := by decide +kernel
theorem dX3_measureOf_100 : decode cX3_measureOf 100 = .ok (.aload_n 0, 1) := by decide +kernel
theorem dX3_measureOf_101 : decode cX3_measureOf 101 = .ok (.getfield 22, 3) := by decide +kernel
theorem dX3_measureOf_104 : decode cX3_measureOf 104 = .ok (.getfield 75, 3) := by decide +kernel
theorem dX3_measureOf_107 : decode cX3_measureOf 107 = .ok (.iload 4, 2) := by decide +kernel
theorem dX3_measureOf_109 : decode cX3_measureOf 109 = .ok (.iaload, 1) := by decide +kernel
theorem dX3_measureOf_110 : decode cX3_measureOf 110 = .ok (.i2l, 1) := by decide +kernel
theorem dX3_measureOf_111 : decode cX3_measureOf 111 = .ok (.aload_n 0, 1) := by decide +kernel
theorem dX3_measureOf_112 : decode cX3_measureOf 112 = .ok (.iload 5, 2) := by decide +kernel
theorem dX3_measureOf_114 : decode cX3_measureOf 114 = .ok (.iload 4, 2) := by decide +kernel
theorem dX3_measureOf_116 : decode cX3_measureOf 116 = .ok (.invokevirtual 69, 3) := by decide +kernel
theorem dX3_measureOf_119 : decode cX3_measureOf 119 = .ok (.i2l, 1) := by decide +kernel
theorem dX3_measureOf_120 : decode cX3_measureOf 120 = .ok (.lmul, 1) := by decide +kernel
theorem dX3_measureOf_121 : decode cX3_measureOf 121 = .ok (.ladd, 1) := by decide +kernel
theorem dX3_measureOf_122 : decode cX3_measureOf 122 = .ok (.lstore_n 2, 1) := by decide +kernel
theorem dX3_measureOf_123 : decode cX3_measureOf 123 = .ok (.iinc 4 1, 3) := by decide +kernel
theorem dX3_measureOf_126 : decode cX3_measureOf 126 = .ok (.goto (-74), 3) := by decide +kernel
theorem dX3_measureOf_129 : decode cX3_measureOf 129 = .ok (.lload_n 2, 1) := by decide +kernel
theorem dX3_measureOf_130 : decode cX3_measureOf 130 = .ok (.lreturn, 1) := by decide +kernel
theorem dX3_feeds_0 : decode cX3_feeds 0 = .ok (.aload_n 0, 1) := by decide +kernel
theorem dX3_feeds_1 : decode cX3_feeds 1 = .ok (.getfield 22, 3) := by decide +kernel
theorem dX3_feeds_4 : decode cX3_feeds 4 = .ok (.getfield 75, 3) := by decide +kernel
theorem dX3_feeds_7 : decode cX3_feeds 7 = .ok (.iload_n 3, 1) := by decide +kernel
theorem dX3_feeds_8 : decode cX3_feeds 8 = .ok (.iaload, 1) := by decide +kernel
theorem dX3_feeds_9 : decode cX3_feeds 9 = .ok (.ifCond .le 17, 3) := by decide +kernel
theorem dX3_feeds_12 : decode cX3_feeds 12 = .ok (.aload_n 0, 1) := by decide +kernel
theorem dX3_feeds_13 : decode cX3_feeds 13 = .ok (.iload_n 1, 1) := by decide +kernel
theorem dX3_feeds_14 : decode cX3_feeds 14 = .ok (.iload_n 3, 1) := by decide +kernel
theorem dX3_feeds_15 : decode cX3_feeds 15 = .ok (.invokevirtual 78, 3) := by decide +kernel
theorem dX3_feeds_18 : decode cX3_feeds 18 = .ok (.iload_n 2, 1) := by decide +kernel
theorem dX3_feeds_19 : decode cX3_feeds 19 = .ok (.if_icmp .ne 7, 3) := by decide +kernel
theorem dX3_feeds_22 : decode cX3_feeds 22 = .ok (.iconst 1, 1) := by decide +kernel
theorem dX3_feeds_23 : decode cX3_feeds 23 = .ok (.goto 4, 3) := by decide +kernel
theorem dX3_feeds_26 : decode cX3_feeds 26 = .ok (.iconst 0, 1) := by decide +kernel
theorem dX3_feeds_27 : decode cX3_feeds 27 = .ok (.ireturn, 1) := by decide +kernel
theorem dX3_villagesOf_0 : decode cX3_villagesOf 0 = .ok (.iconst 0, 1) := by decide +kernel
theorem dX3_villagesOf_1 : decode cX3_villagesOf 1 = .ok (.istore_n 3, 1) := by decide +kernel
theorem dX3_villagesOf_2 : decode cX3_villagesOf 2 = .ok (.iconst 0, 1) := by decide +kernel
theorem dX3_villagesOf_3 : decode cX3_villagesOf 3 = .ok (.istore 4, 2) := by decide +kernel
theorem dX3_villagesOf_5 : decode cX3_villagesOf 5 = .ok (.iload 4, 2) := by decide +kernel
theorem dX3_villagesOf_7 : decode cX3_villagesOf 7 = .ok (.aload_n 0, 1) := by decide +kernel
theorem dX3_villagesOf_8 : decode cX3_villagesOf 8 = .ok (.getfield 22, 3) := by decide +kernel
theorem dX3_villagesOf_11 : decode cX3_villagesOf 11 = .ok (.getfield 35, 3) := by decide +kernel
theorem dX3_villagesOf_14 : decode cX3_villagesOf 14 = .ok (.if_icmp .ge 28, 3) := by decide +kernel
theorem dX3_villagesOf_17 : decode cX3_villagesOf 17 = .ok (.iload_n 3, 1) := by decide +kernel
theorem dX3_villagesOf_18 : decode cX3_villagesOf 18 = .ok (.aload_n 0, 1) := by decide +kernel
theorem dX3_villagesOf_19 : decode cX3_villagesOf 19 = .ok (.iload_n 1, 1) := by decide +kernel
theorem dX3_villagesOf_20 : decode cX3_villagesOf 20 = .ok (.iload_n 2, 1) := by decide +kernel
theorem dX3_villagesOf_21 : decode cX3_villagesOf 21 = .ok (.iload 4, 2) := by decide +kernel
theorem dX3_villagesOf_23 : decode cX3_villagesOf 23 = .ok (.invokevirtual 83, 3) := by decide +kernel
theorem dX3_villagesOf_26 : decode cX3_villagesOf 26 = .ok (.ifCond .eq 7, 3) := by decide +kernel
theorem dX3_villagesOf_29 : decode cX3_villagesOf 29 = .ok (.iconst 1, 1) := by decide +kernel
theorem dX3_villagesOf_30 : decode cX3_villagesOf 30 = .ok (.goto 4, 3) := by decide +kernel
theorem dX3_villagesOf_33 : decode cX3_villagesOf 33 = .ok (.iconst 0, 1) := by decide +kernel
theorem dX3_villagesOf_34 : decode cX3_villagesOf 34 = .ok (.iadd, 1) := by decide +kernel
theorem dX3_villagesOf_35 : decode cX3_villagesOf 35 = .ok (.istore_n 3, 1) := by decide +kernel
theorem dX3_villagesOf_36 : decode cX3_villagesOf 36 = .ok (.iinc 4 1, 3) := by decide +kernel
theorem dX3_villagesOf_39 : decode cX3_villagesOf 39 = .ok (.goto (-34), 3) := by decide +kernel
theorem dX3_villagesOf_42 : decode cX3_villagesOf 42 = .ok (.iload_n 3, 1) := by decide +kernel
theorem dX3_villagesOf_43 : decode cX3_villagesOf 43 = .ok (.ireturn, 1) := by decide +kernel
theorem dX3_loavesOf_0 : decode cX3_loavesOf 0 = .ok (.iconst 0, 1) := by decide +kernel
theorem dX3_loavesOf_1 : decode cX3_loavesOf 1 = .ok (.istore_n 3, 1) := by decide +kernel
theorem dX3_loavesOf_2 : decode cX3_loavesOf 2 = .ok (.iconst 0, 1) := by decide +kernel
theorem dX3_loavesOf_3 : decode cX3_loavesOf 3 = .ok (.istore 4, 2) := by decide +kernel
theorem dX3_loavesOf_5 : decode cX3_loavesOf 5 = .ok (.iload 4, 2) := by decide +kernel
theorem dX3_loavesOf_7 : decode cX3_loavesOf 7 = .ok (.aload_n 0, 1) := by decide +kernel
theorem dX3_loavesOf_8 : decode cX3_loavesOf 8 = .ok (.getfield 22, 3) := by decide +kernel
theorem dX3_loavesOf_11 : decode cX3_loavesOf 11 = .ok (.getfield 35, 3) := by decide +kernel
theorem dX3_loavesOf_14 : decode cX3_loavesOf 14 = .ok (.if_icmp .ge 37, 3) := by decide +kernel
theorem dX3_loavesOf_17 : decode cX3_loavesOf 17 = .ok (.iload_n 3, 1) := by decide +kernel
theorem dX3_loavesOf_18 : decode cX3_loavesOf 18 = .ok (.aload_n 0, 1) := by decide +kernel
theorem dX3_loavesOf_19 : decode cX3_loavesOf 19 = .ok (.iload_n 1, 1) := by decide +kernel
theorem dX3_loavesOf_20 : decode cX3_loavesOf 20 = .ok (.iload_n 2, 1) := by decide +kernel
theorem dX3_loavesOf_21 : decode cX3_loavesOf 21 = .ok (.iload 4, 2) := by decide +kernel
theorem dX3_loavesOf_23 : decode cX3_loavesOf 23 = .ok (.invokevirtual 83, 3) := by decide +kernel
theorem dX3_loavesOf_26 : decode cX3_loavesOf 26 = .ok (.ifCond .eq 16, 3) := by decide +kernel
theorem dX3_loavesOf_29 : decode cX3_loavesOf 29 = .ok (.aload_n 0, 1) := by decide +kernel
theorem dX3_loavesOf_30 : decode cX3_loavesOf 30 = .ok (.getfield 22, 3) := by decide +kernel
theorem dX3_loavesOf_33 : decode cX3_loavesOf 33 = .ok (.getfield 75, 3) := by decide +kernel
theorem dX3_loavesOf_36 : decode cX3_loavesOf 36 = .ok (.iload 4, 2) := by decide +kernel
theorem dX3_loavesOf_38 : decode cX3_loavesOf 38 = .ok (.iaload, 1) := by decide +kernel
theorem dX3_loavesOf_39 : decode cX3_loavesOf 39 = .ok (.goto 4, 3) := by decide +kernel
theorem dX3_loavesOf_42 : decode cX3_loavesOf 42 = .ok (.iconst 0, 1) := by decide +kernel
theorem dX3_loavesOf_43 : decode cX3_loavesOf 43 = .ok (.iadd, 1) := by decide +kernel
theorem dX3_loavesOf_44 : decode cX3_loavesOf 44 = .ok (.istore_n 3, 1) := by decide +kernel
theorem dX3_loavesOf_45 : decode cX3_loavesOf 45 = .ok (.iinc 4 1, 3) := by decide +kernel
theorem dX3_loavesOf_48 : decode cX3_loavesOf 48 = .ok (.goto (-43), 3) := by decide +kernel
theorem dX3_loavesOf_51 : decode cX3_loavesOf 51 = .ok (.iload_n 3, 1) := by decide +kernel
theorem dX3_loavesOf_52 : decode cX3_loavesOf 52 = .ok (.ireturn, 1) := by decide +kernel
theorem dX3_farthestOf_0 : decode cX3_farthestOf 0 = .ok (.iconst 0, 1) := by decide +kernel
theorem dX3_farthestOf_1 : decode cX3_farthestOf 1 = .ok (.istore_n 3, 1) := by decide +kernel
theorem dX3_farthestOf_2 : decode cX3_farthestOf 2 = .ok (.iconst 0, 1) := by decide +kernel
theorem dX3_farthestOf_3 : decode cX3_farthestOf 3 = .ok (.istore 4, 2) := by decide +kernel
theorem dX3_farthestOf_5 : decode cX3_farthestOf 5 = .ok (.iload 4, 2) := by decide +kernel
theorem dX3_farthestOf_7 : decode cX3_farthestOf 7 = .ok (.aload_n 0, 1) := by decide +kernel
theorem dX3_farthestOf_8 : decode cX3_farthestOf 8 = .ok (.getfield 22, 3) := by decide +kernel
theorem dX3_farthestOf_11 : decode cX3_farthestOf 11 = .ok (.getfield 35, 3) := by decide +kernel
theorem dX3_farthestOf_14 : decode cX3_farthestOf 14 = .ok (.if_icmp .ge 36, 3) := by decide +kernel
theorem dX3_farthestOf_17 : decode cX3_farthestOf 17 = .ok (.aload_n 0, 1) := by decide +kernel
theorem dX3_farthestOf_18 : decode cX3_farthestOf 18 = .ok (.iload_n 1, 1) := by decide +kernel
theorem dX3_farthestOf_19 : decode cX3_farthestOf 19 = .ok (.iload_n 2, 1) := by decide +kernel
theorem dX3_farthestOf_20 : decode cX3_farthestOf 20 = .ok (.iload 4, 2) := by decide +kernel
theorem dX3_farthestOf_22 : decode cX3_farthestOf 22 = .ok (.invokevirtual 83, 3) := by decide +kernel
theorem dX3_farthestOf_25 : decode cX3_farthestOf 25 = .ok (.ifCond .eq 17, 3) := by decide +kernel
theorem dX3_farthestOf_28 : decode cX3_farthestOf 28 = .ok (.iload_n 3, 1) := by decide +kernel
theorem dX3_farthestOf_29 : decode cX3_farthestOf 29 = .ok (.aload_n 0, 1) := by decide +kernel
theorem dX3_farthestOf_30 : decode cX3_farthestOf 30 = .ok (.iload_n 2, 1) := by decide +kernel
theorem dX3_farthestOf_31 : decode cX3_farthestOf 31 = .ok (.iload 4, 2) := by decide +kernel
theorem dX3_farthestOf_33 : decode cX3_farthestOf 33 = .ok (.invokevirtual 69, 3) := by decide +kernel
theorem dX3_farthestOf_36 : decode cX3_farthestOf 36 = .ok (.invokestatic 87, 3) := by decide +kernel
theorem dX3_farthestOf_39 : decode cX3_farthestOf 39 = .ok (.goto 4, 3) := by decide +kernel
theorem dX3_farthestOf_42 : decode cX3_farthestOf 42 = .ok (.iload_n 3, 1) := by decide +kernel
theorem dX3_farthestOf_43 : decode cX3_farthestOf 43 = .ok (.istore_n 3, 1) := by decide +kernel
theorem dX3_farthestOf_44 : decode cX3_farthestOf 44 = .ok (.iinc 4 1, 3) := by decide +kernel
theorem dX3_farthestOf_47 : decode cX3_farthestOf 47 = .ok (.goto (-42), 3) := by decide +kernel
theorem dX3_farthestOf_50 : decode cX3_farthestOf 50 = .ok (.iload_n 3, 1) := by decide +kernel
theorem dX3_farthestOf_51 : decode cX3_farthestOf 51 = .ok (.ireturn, 1) := by decide +kernel
theorem dX3_farthestOfAll_0 : decode cX3_farthestOfAll 0 = .ok (.iconst 0, 1) := by decide +kernel
theorem dX3_farthestOfAll_1 : decode cX3_farthestOfAll 1 = .ok (.istore_n 2, 1) := by decide +kernel
theorem dX3_farthestOfAll_2 : decode cX3_farthestOfAll 2 = .ok (.iconst 0, 1) := by decide +kernel
theorem dX3_farthestOfAll_3 : decode cX3_farthestOfAll 3 = .ok (.istore_n 3, 1) := by decide +kernel
theorem dX3_farthestOfAll_4 : decode cX3_farthestOfAll 4 = .ok (.iload_n 3, 1) := by decide +kernel
theorem dX3_farthestOfAll_5 : decode cX3_farthestOfAll 5 = .ok (.aload_n 0, 1) := by decide +kernel
theorem dX3_farthestOfAll_6 : decode cX3_farthestOfAll 6 = .ok (.getfield 22, 3) := by decide +kernel
theorem dX3_farthestOfAll_9 : decode cX3_farthestOfAll 9 = .ok (.getfield 35, 3) := by decide +kernel
theorem dX3_farthestOfAll_12 : decode cX3_farthestOfAll 12 = .ok (.if_icmp .ge 57, 3) := by decide +kernel
theorem dX3_farthestOfAll_15 : decode cX3_farthestOfAll 15 = .ok (.aload_n 0, 1) := by decide +kernel
theorem dX3_farthestOfAll_16 : decode cX3_farthestOfAll 16 = .ok (.getfield 22, 3) := by decide +kernel
theorem dX3_farthestOfAll_19 : decode cX3_farthestOfAll 19 = .ok (.getfield 75, 3) := by decide +kernel
theorem dX3_farthestOfAll_22 : decode cX3_farthestOfAll 22 = .ok (.iload_n 3, 1) := by decide +kernel
theorem dX3_farthestOfAll_23 : decode cX3_farthestOfAll 23 = .ok (.iaload, 1) := by decide +kernel
theorem dX3_farthestOfAll_24 : decode cX3_farthestOfAll 24 = .ok (.ifCond .le 12, 3) := by decide +kernel
theorem dX3_farthestOfAll_27 : decode cX3_farthestOfAll 27 = .ok (.aload_n 0, 1) := by decide +kernel
theorem dX3_farthestOfAll_28 : decode cX3_farthestOfAll 28 = .ok (.iload_n 1, 1) := by decide +kernel
theorem dX3_farthestOfAll_29 : decode cX3_farthestOfAll 29 = .ok (.iload_n 3, 1) := by decide +kernel
theorem dX3_farthestOfAll_30 : decode cX3_farthestOfAll 30 = .ok (.invokevirtual 78, 3) := by decide +kernel
theorem dX3_farthestOfAll_33 : decode cX3_farthestOfAll 33 = .ok (.goto 5, 3) := by decide +kernel
theorem dX3_farthestOfAll_36 : decode cX3_farthestOfAll 36 = .ok (.bipush (-4), 2) := by decide +kernel
theorem dX3_farthestOfAll_38 : decode cX3_farthestOfAll 38 = .ok (.istore 4, 2) := by decide +kernel
theorem dX3_farthestOfAll_40 : decode cX3_farthestOfAll 40 = .ok (.iload 4, 2) := by decide +kernel
theorem dX3_farthestOfAll_42 : decode cX3_farthestOfAll 42 = .ok (.bipush (-4), 2) := by decide +kernel
theorem dX3_farthestOfAll_44 : decode cX3_farthestOfAll 44 = .ok (.if_icmp .ne 7, 3) := by decide +kernel
theorem dX3_farthestOfAll_47 : decode cX3_farthestOfAll 47 = .ok (.iload_n 2, 1) := by decide +kernel
theorem dX3_farthestOfAll_48 : decode cX3_farthestOfAll 48 = .ok (.goto 14, 3) := by decide +kernel
theorem dX3_farthestOfAll_51 : decode cX3_farthestOfAll 51 = .ok (.iload_n 2, 1) := by decide +kernel
theorem dX3_farthestOfAll_52 : decode cX3_farthestOfAll 52 = .ok (.aload_n 0, 1) := by decide +kernel
theorem dX3_farthestOfAll_53 : decode cX3_farthestOfAll 53 = .ok (.iload 4, 2) := by decide +kernel
theorem dX3_farthestOfAll_55 : decode cX3_farthestOfAll 55 = .ok (.iload_n 3, 1) := by decide +kernel
theorem dX3_farthestOfAll_56 : decode cX3_farthestOfAll 56 = .ok (.invokevirtual 69, 3) := by decide +kernel
theorem dX3_farthestOfAll_59 : decode cX3_farthestOfAll 59 = .ok (.invokestatic 87, 3) := by decide +kernel
theorem dX3_farthestOfAll_62 : decode cX3_farthestOfAll 62 = .ok (.istore_n 2, 1) := by decide +kernel
theorem dX3_farthestOfAll_63 : decode cX3_farthestOfAll 63 = .ok (.iinc 3 1, 3) := by decide +kernel
theorem dX3_farthestOfAll_66 : decode cX3_farthestOfAll 66 = .ok (.goto (-62), 3) := by decide +kernel
theorem dX3_farthestOfAll_69 : decode cX3_farthestOfAll 69 = .ok (.iload_n 2, 1) := by decide +kernel
theorem dX3_farthestOfAll_70 : decode cX3_farthestOfAll 70 = .ok (.ireturn, 1) := by decide +kernel
theorem dX4_init_0 : decode cX4_init 0 = .ok (.aload_n 0, 1) := by decide +kernel
theorem dX4_init_1 : decode cX4_init 1 = .ok (.invokespecial 3, 3) := by decide +kernel
theorem dX4_init_4 : decode cX4_init 4 = .ok (.aload_n 0, 1) := by decide +kernel
theorem dX4_init_5 : decode cX4_init 5 = .ok (.bipush 12, 2) := by decide +kernel
theorem dX4_init_7 : decode cX4_init 7 = .ok (.newarray .long, 2) := by decide +kernel
theorem dX4_init_9 : decode cX4_init 9 = .ok (.putfield 9, 3) := by decide +kernel
theorem dX4_init_12 : decode cX4_init 12 = .ok (.aload_n 0, 1) := by decide +kernel
theorem dX4_init_13 : decode cX4_init 13 = .ok (.sipush 1024, 3) := by decide +kernel
theorem dX4_init_16 : decode cX4_init 16 = .ok (.newarray .long, 2) := by decide +kernel
theorem dX4_init_18 : decode cX4_init 18 = .ok (.putfield 15, 3) := by decide +kernel
theorem dX4_init_21 : decode cX4_init 21 = .ok (.aload_n 0, 1) := by decide +kernel
theorem dX4_init_22 : decode cX4_init 22 = .ok (.bipush (-4), 2) := by decide +kernel
theorem dX4_init_24 : decode cX4_init 24 = .ok (.putfield 18, 3) := by decide +kernel
theorem dX4_init_27 : decode cX4_init 27 = .ok (.aload_n 0, 1) := by decide +kernel
theorem dX4_init_28 : decode cX4_init 28 = .ok (.lconst 0, 1) := by decide +kernel
theorem dX4_init_29 : decode cX4_init 29 = .ok (.putfield 22, 3) := by decide +kernel
theorem dX4_init_32 : decode cX4_init 32 = .ok (.aload_n 0, 1) := by decide +kernel
theorem dX4_init_33 : decode cX4_init 33 = .ok (.aload_n 1, 1) := by decide +kernel
theorem dX4_init_34 : decode cX4_init 34 = .ok (.putfield 26, 3) := by decide +kernel
theorem dX4_init_37 : decode cX4_init 37 = .ok (.aload_n 0, 1) := by decide +kernel
theorem dX4_init_38 : decode cX4_init 38 = .ok (.aload_n 2, 1) := by decide +kernel
theorem dX4_init_39 : decode cX4_init 39 = .ok (.putfield 30, 3) := by decide +kernel
theorem dX4_init_42 : decode cX4_init 42 = .ok (.return_, 1) := by decide +kernel
theorem dX4_forgetFrom_0 : decode cX4_forgetFrom 0 = .ok (.iload_n 1, 1) := by decide +kernel
theorem dX4_forgetFrom_1 : decode cX4_forgetFrom 1 = .ok (.istore_n 2, 1) := by decide +kernel
theorem dX4_forgetFrom_2 : decode cX4_forgetFrom 2 = .ok (.iload_n 2, 1) := by decide +kernel
theorem dX4_forgetFrom_3 : decode cX4_forgetFrom 3 = .ok (.bipush 12, 2) := by decide +kernel
theorem dX4_forgetFrom_5 : decode cX4_forgetFrom 5 = .ok (.if_icmp .ge 16, 3) := by decide +kernel
theorem dX4_forgetFrom_8 : decode cX4_forgetFrom 8 = .ok (.aload_n 0, 1) := by decide +kernel
theorem dX4_forgetFrom_9 : decode cX4_forgetFrom 9 = .ok (.getfield 9, 3) := by decide +kernel
theorem dX4_forgetFrom_12 : decode cX4_forgetFrom 12 = .ok (.iload_n 2, 1) := by decide +kernel
theorem dX4_forgetFrom_13 : decode cX4_forgetFrom 13 = .ok (.lconst 0, 1) := by decide +kernel
theorem dX4_forgetFrom_14 : decode cX4_forgetFrom 14 = .ok (.lastore, 1) := by decide +kernel
theorem dX4_forgetFrom_15 : decode cX4_forgetFrom 15 = .ok (.iinc 2 1, 3) := by decide +kernel
theorem dX4_forgetFrom_18 : decode cX4_forgetFrom 18 = .ok (.goto (-16), 3) := by decide +kernel
theorem dX4_forgetFrom_21 : decode cX4_forgetFrom 21 = .ok (.return_, 1) := by decide +kernel
theorem dX4_giftOf_0 : decode cX4_giftOf 0 = .ok (.aload_n 0, 1) := by decide +kernel
theorem dX4_giftOf_1 : decode cX4_giftOf 1 = .ok (.getfield 30, 3) := by decide +kernel
theorem dX4_giftOf_4 : decode cX4_giftOf 4 = .ok (.iload_n 1, 1) := by decide +kernel
theorem dX4_giftOf_5 : decode cX4_giftOf 5 = .ok (.iload_n 2, 1) := by decide +kernel
theorem dX4_giftOf_6 : decode cX4_giftOf 6 = .ok (.invokevirtual 34, 3) := by decide +kernel
theorem dX4_giftOf_9 : decode cX4_giftOf 9 = .ok (.istore_n 3, 1) := by decide +kernel
theorem dX4_giftOf_10 : decode cX4_giftOf 10 = .ok (.aload_n 0, 1) := by decide +kernel
theorem dX4_giftOf_11 : decode cX4_giftOf 11 = .ok (.getfield 26, 3) := by decide +kernel
theorem dX4_giftOf_14 : decode cX4_giftOf 14 = .ok (.getfield 40, 3) := by decide +kernel
theorem dX4_giftOf_17 : decode cX4_giftOf 17 = .ok (.iload_n 2, 1) := by decide +kernel
theorem dX4_giftOf_18 : decode cX4_giftOf 18 = .ok (.iaload, 1) := by decide +kernel
theorem dX4_giftOf_19 : decode cX4_giftOf 19 = .ok (.ifCond .eq 9, 3) := by decide +kernel
theorem dX4_giftOf_22 : decode cX4_giftOf 22 = .ok (.iload_n 3, 1) := by decide +kernel
theorem dX4_giftOf_23 : decode cX4_giftOf 23 = .ok (.ldc 46, 2) := by decide +kernel
theorem dX4_giftOf_25 : decode cX4_giftOf 25 = .ok (.if_icmp .ne 5, 3) := by decide +kernel
theorem dX4_giftOf_28 : decode cX4_giftOf 28 = .ok (.lconst 0, 1) := by decide +kernel
theorem dX4_giftOf_29 : decode cX4_giftOf 29 = .ok (.lreturn, 1) := by decide +kernel
theorem dX4_giftOf_30 : decode cX4_giftOf 30 = .ok (.lconst 0, 1) := by decide +kernel
theorem dX4_giftOf_31 : decode cX4_giftOf 31 = .ok (.aload_n 0, 1) := by decide +kernel
theorem dX4_giftOf_32 : decode cX4_giftOf 32 = .ok (.getfield 9, 3) := by decide +kernel
theorem dX4_giftOf_35 : decode cX4_giftOf 35 = .ok (.iload_n 2, 1) := by decide +kernel
theorem dX4_giftOf_36 : decode cX4_giftOf 36 = .ok (.laload, 1) := by decide +kernel
theorem dX4_giftOf_37 : decode cX4_giftOf 37 = .ok (.aload_n 0, 1) := by decide +kernel
theorem dX4_giftOf_38 : decode cX4_giftOf 38 = .ok (.getfield 26, 3) := by decide +kernel
theorem dX4_giftOf_41 : decode cX4_giftOf 41 = .ok (.getfield 40, 3) := by decide +kernel
theorem dX4_giftOf_44 : decode cX4_giftOf 44 = .ok (.iload_n 2, 1) := by decide +kernel
theorem dX4_giftOf_45 : decode cX4_giftOf 45 = .ok (.iaload, 1) := by decide +kernel
theorem dX4_giftOf_46 : decode cX4_giftOf 46 = .ok (.i2l, 1) := by decide +kernel
theorem dX4_giftOf_47 : decode cX4_giftOf 47 = .ok (.iload_n 3, 1) := by decide +kernel
theorem dX4_giftOf_48 : decode cX4_giftOf 48 = .ok (.i2l, 1) := by decide +kernel
theorem dX4_giftOf_49 : decode cX4_giftOf 49 = .ok (.lmul, 1) := by decide +kernel
theorem dX4_giftOf_50 : decode cX4_giftOf 50 = .ok (.lsub, 1) := by decide +kernel
theorem dX4_giftOf_51 : decode cX4_giftOf 51 = .ok (.invokestatic 47, 3) := by decide +kernel
theorem dX4_giftOf_54 : decode cX4_giftOf 54 = .ok (.lreturn, 1) := by decide +kernel
theorem dX4_worthOf_0 : decode cX4_worthOf 0 = .ok (.aload_n 0, 1) := by decide +kernel
theorem dX4_worthOf_1 : decode cX4_worthOf 1 = .ok (.getfield 26, 3) := by decide +kernel
theorem dX4_worthOf_4 : decode cX4_worthOf 4 = .ok (.iload_n 1, 1) := by decide +kernel
theorem dX4_worthOf_5 : decode cX4_worthOf 5 = .ok (.invokevirtual 53, 3) := by decide +kernel
theorem dX4_worthOf_8 : decode cX4_worthOf 8 = .ok (.ineg, 1) := by decide +kernel
theorem dX4_worthOf_9 : decode cX4_worthOf 9 = .ok (.i2l, 1) := by decide +kernel
theorem dX4_worthOf_10 : decode cX4_worthOf 10 = .ok (.lstore_n 2, 1) := by decide +kernel
theorem dX4_worthOf_11 : decode cX4_worthOf 11 = .ok (.iconst 0, 1) := by decide +kernel
theorem dX4_worthOf_12 : decode cX4_worthOf 12 = .ok (.istore 4, 2) := by decide +kernel
theorem dX4_worthOf_14 : decode cX4_worthOf 14 = .ok (.iload 4, 2) := by decide +kernel
theorem dX4_worthOf_16 : decode cX4_worthOf 16 = .ok (.aload_n 0, 1) := by decide +kernel
theorem dX4_worthOf_17 : decode cX4_worthOf 17 = .ok (.getfield 26, 3) := by decide +kernel
theorem dX4_worthOf_20 : decode cX4_worthOf 20 = .ok (.getfield 57, 3) := by decide +kernel
theorem dX4_worthOf_23 : decode cX4_worthOf 23 = .ok (.if_icmp .ge 19, 3) := by decide +kernel
theorem dX4_worthOf_26 : decode cX4_worthOf 26 = .ok (.lload_n 2, 1) := by decide +kernel
theorem dX4_worthOf_27 : decode cX4_worthOf 27 = .ok (.aload_n 0, 1) := by decide +kernel
theorem dX4_worthOf_28 : decode cX4_worthOf 28 = .ok (.iload_n 1, 1) := by decide +kernel
theorem dX4_worthOf_29 : decode cX4_worthOf 29 = .ok (.iload 4, 2) := by decide +kernel
theorem dX4_worthOf_31 : decode cX4_worthOf 31 = .ok (.invokevirtual 60, 3) := by decide +kernel
theorem dX4_worthOf_34 : decode cX4_worthOf 34 = .ok (.ladd, 1) := by decide +kernel
theorem dX4_worthOf_35 : decode cX4_worthOf 35 = .ok (.lstore_n 2, 1) := by decide +kernel
theorem dX4_worthOf_36 : decode cX4_worthOf 36 = .ok (.iinc 4 1, 3) := by decide +kernel
theorem dX4_worthOf_39 : decode cX4_worthOf 39 = .ok (.goto (-25), 3) := by decide +kernel
theorem dX4_worthOf_42 : decode cX4_worthOf 42 = .ok (.lconst 0, 1) := by decide +kernel
theorem dX4_worthOf_43 : decode cX4_worthOf 43 = .ok (.lload_n 2, 1) := by decide +kernel
theorem dX4_worthOf_44 : decode cX4_worthOf 44 = .ok (.invokestatic 47, 3) := by decide +kernel
theorem dX4_worthOf_47 : decode cX4_worthOf 47 = .ok (.lreturn, 1) := by decide +kernel
theorem dX4_findTop_0 : decode cX4_findTop 0 = .ok (.aload_n 0, 1) := by decide +kernel
theorem dX4_findTop_1 : decode cX4_findTop 1 = .ok (.invokevirtual 64, 3) := by decide +kernel
theorem dX4_findTop_4 : decode cX4_findTop 4 = .ok (.aload_n 0, 1) := by decide +kernel
theorem dX4_findTop_5 : decode cX4_findTop 5 = .ok (.bipush (-4), 2) := by decide +kernel
theorem dX4_findTop_7 : decode cX4_findTop 7 = .ok (.putfield 18, 3) := by decide +kernel
theorem dX4_findTop_10 : decode cX4_findTop 10 = .ok (.iconst 1, 1) := by decide +kernel
theorem dX4_findTop_11 : decode cX4_findTop 11 = .ok (.aload_n 0, 1) := by decide +kernel
theorem dX4_findTop_12 : decode cX4_findTop 12 = .ok (.getfield 26, 3) := by decide +kernel
theorem dX4_findTop_15 : decode cX4_findTop 15 = .ok (.getfield 67, 3) := by decide +kernel
theorem dX4_findTop_18 : decode cX4_findTop 18 = .ok (.ishl, 1) := by decide +kernel
theorem dX4_findTop_19 : decode cX4_findTop 19 = .ok (.istore_n 1, 1) := by decide +kernel
theorem dX4_findTop_20 : decode cX4_findTop 20 = .ok (.iconst 0, 1) := by decide +kernel
theorem dX4_findTop_21 : decode cX4_findTop 21 = .ok (.istore_n 2, 1) := by decide +kernel
theorem dX4_findTop_22 : decode cX4_findTop 22 = .ok (.iload_n 2, 1) := by decide +kernel
theorem dX4_findTop_23 : decode cX4_findTop 23 = .ok (.iload_n 1, 1) := by decide +kernel
theorem dX4_findTop_24 : decode cX4_findTop 24 = .ok (.if_icmp .ge 53, 3) := by decide +kernel
theorem dX4_findTop_27 : decode cX4_findTop 27 = .ok (.aload_n 0, 1) := by decide +kernel
theorem dX4_findTop_28 : decode cX4_findTop 28 = .ok (.getfield 30, 3) := by decide +kernel
theorem dX4_findTop_31 : decode cX4_findTop 31 = .ok (.iload_n 2, 1) := by decide +kernel
theorem dX4_findTop_32 : decode cX4_findTop 32 = .ok (.invokevirtual 70, 3) := by decide +kernel
theorem dX4_findTop_35 : decode cX4_findTop 35 = .ok (.ifCond .eq 36, 3) := by decide +kernel
theorem dX4_findTop_38 : decode cX4_findTop 38 = .ok (.aload_n 0, 1) := by decide +kernel
theorem dX4_findTop_39 : decode cX4_findTop 39 = .ok (.getfield 18, 3) := by decide +kernel
theorem dX4_findTop_42 : decode cX4_findTop 42 = .ok (.bipush (-4), 2) := by decide +kernel
theorem dX4_findTop_44 : decode cX4_findTop 44 = .ok (.if_icmp .eq 22, 3) := by decide +kernel
theorem dX4_findTop_47 : decode cX4_findTop 47 = .ok (.aload_n 0, 1) := by decide +kernel
theorem dX4_findTop_48 : decode cX4_findTop 48 = .ok (.getfield 15, 3) := by decide +kernel
theorem dX4_findTop_51 : decode cX4_findTop 51 = .ok (.iload_n 2, 1) := by decide +kernel
theorem dX4_findTop_52 : decode cX4_findTop 52 = .ok (.laload, 1) := by decide +kernel
theorem dX4_findTop_53 : decode cX4_findTop 53 = .ok (.aload_n 0, 1) := by decide +kernel
theorem dX4_findTop_54 : decode cX4_findTop 54 = .ok (.getfield 15, 3) := by decide +kernel
theorem dX4_findTop_57 : decode cX4_findTop 57 = .ok (.aload_n 0, 1) := by decide +kernel
theorem dX4_findTop_58 : decode cX4_findTop 58 = .ok (.getfield 18, 3) := by decide +kernel
theorem dX4_findTop_61 : decode cX4_findTop 61 = .ok (.laload, 1) := by decide +kernel
theorem dX4_findTop_62 : decode cX4_findTop 62 = .ok (.lcmp, 1) := by decide +kernel
theorem dX4_findTop_63 : decode cX4_findTop 63 = .ok (.ifCond .le 8, 3) := by decide +kernel
theorem dX4_findTop_66 : decode cX4_findTop 66 = .ok (.aload_n 0, 1) := by decide +kernel
theorem dX4_findTop_67 : decode cX4_findTop 67 = .ok (.iload_n 2, 1) := by decide +kernel
theorem dX4_findTop_68 : decode cX4_findTop 68 = .ok (.putfield 18, 3) := by decide +kernel
theorem dX4_findTop_71 : decode cX4_findTop 71 = .ok (.iinc 2 1, 3) := by decide +kernel
theorem dX4_findTop_74 : decode cX4_findTop 74 = .ok (.goto (-52), 3) := by decide +kernel
theorem dX4_findTop_77 : decode cX4_findTop 77 = .ok (.return_, 1) := by decide +kernel
theorem dX4_addUpWorths_0 : decode cX4_addUpWorths 0 = .ok (.aload_n 0, 1) := by decide +kernel
theorem dX4_addUpWorths_1 : decode cX4_addUpWorths 1 = .ok (.getfield 15, 3) := by decide +kernel
theorem dX4_addUpWorths_4 : decode cX4_addUpWorths 4 = .ok (.iconst 0, 1) := by decide +kernel
theorem dX4_addUpWorths_5 : decode cX4_addUpWorths 5 = .ok (.lconst 0, 1) := by decide +kernel
theorem dX4_addUpWorths_6 : decode cX4_addUpWorths 6 = .ok (.lastore, 1) := by decide +kernel
theorem dX4_addUpWorths_7 : decode cX4_addUpWorths 7 = .ok (.iconst 0, 1) := by decide +kernel
theorem dX4_addUpWorths_8 : decode cX4_addUpWorths 8 = .ok (.istore_n 1, 1) := by decide +kernel
theorem dX4_addUpWorths_9 : decode cX4_addUpWorths 9 = .ok (.iload_n 1, 1) := by decide +kernel
theorem dX4_addUpWorths_10 : decode cX4_addUpWorths 10 = .ok (.aload_n 0, 1) := by decide +kernel
theorem dX4_addUpWorths_11 : decode cX4_addUpWorths 11 = .ok (.getfield 26, 3) := by decide +kernel
theorem dX4_addUpWorths_14 : decode cX4_addUpWorths 14 = .ok (.getfield 67, 3) := by decide +kernel
theorem dX4_addUpWorths_17 : decode cX4_addUpWorths 17 = .ok (.if_icmp .ge 55, 3) := by decide +kernel
theorem dX4_addUpWorths_20 : decode cX4_addUpWorths 20 = .ok (.aload_n 0, 1) := by decide +kernel
theorem dX4_addUpWorths_21 : decode cX4_addUpWorths 21 = .ok (.iload_n 1, 1) := by decide +kernel
theorem dX4_addUpWorths_22 : decode cX4_addUpWorths 22 = .ok (.invokevirtual 74, 3) := by decide +kernel
theorem dX4_addUpWorths_25 : decode cX4_addUpWorths 25 = .ok (.lstore_n 2, 1) := by decide +kernel
theorem dX4_addUpWorths_26 : decode cX4_addUpWorths 26 = .ok (.iconst 1, 1) := by decide +kernel
theorem dX4_addUpWorths_27 : decode cX4_addUpWorths 27 = .ok (.iload_n 1, 1) := by decide +kernel
theorem dX4_addUpWorths_28 : decode cX4_addUpWorths 28 = .ok (.ishl, 1) := by decide +kernel
theorem dX4_addUpWorths_29 : decode cX4_addUpWorths 29 = .ok (.istore 4, 2) := by decide +kernel
theorem dX4_addUpWorths_31 : decode cX4_addUpWorths 31 = .ok (.iconst 0, 1) := by decide +kernel
theorem dX4_addUpWorths_32 : decode cX4_addUpWorths 32 = .ok (.istore 5, 2) := by decide +kernel
theorem dX4_addUpWorths_34 : decode cX4_addUpWorths 34 = .ok (.iload 5, 2) := by decide +kernel
theorem dX4_addUpWorths_36 : decode cX4_addUpWorths 36 = .ok (.iload 4, 2) := by decide +kernel
theorem dX4_addUpWorths_38 : decode cX4_addUpWorths 38 = .ok (.if_icmp .ge 28, 3) := by decide +kernel
theorem dX4_addUpWorths_41 : decode cX4_addUpWorths 41 = .ok (.aload_n 0, 1) := by decide +kernel
theorem dX4_addUpWorths_42 : decode cX4_addUpWorths 42 = .ok (.getfield 15, 3) := by decide +kernel
theorem dX4_addUpWorths_45 : decode cX4_addUpWorths 45 = .ok (.iload 5, 2) := by decide +kernel
theorem dX4_addUpWorths_47 : decode cX4_addUpWorths 47 = .ok (.iload 4, 2) := by decide +kernel
theorem dX4_addUpWorths_49 : decode cX4_addUpWorths 49 = .ok (.ior, 1) := by decide +kernel
theorem dX4_addUpWorths_50 : decode cX4_addUpWorths 50 = .ok (.aload_n 0, 1) := by decide +kernel
theorem dX4_addUpWorths_51 : decode cX4_addUpWorths 51 = .ok (.getfield 15, 3) := by decide +kernel
theorem dX4_addUpWorths_54 : decode cX4_addUpWorths 54 = .ok (.iload 5, 2) := by decide +kernel
theorem dX4_addUpWorths_56 : decode cX4_addUpWorths 56 = .ok (.laload, 1) := by decide +kernel
theorem dX4_addUpWorths_57 : decode cX4_addUpWorths 57 = .ok (.lload_n 2, 1) := by decide +kernel
theorem dX4_addUpWorths_58 : decode cX4_addUpWorths 58 = .ok (.ladd, 1) := by decide +kernel
theorem dX4_addUpWorths_59 : decode cX4_addUpWorths 59 = .ok (.lastore, 1) := by decide +kernel
theorem dX4_addUpWorths_60 : decode cX4_addUpWorths 60 = .ok (.iinc 5 1, 3) := by decide +kernel
theorem dX4_addUpWorths_63 : decode cX4_addUpWorths 63 = .ok (.goto (-29), 3) := by decide +kernel
theorem dX4_addUpWorths_66 : decode cX4_addUpWorths 66 = .ok (.iinc 1 1, 3) := by decide +kernel
theorem dX4_addUpWorths_69 : decode cX4_addUpWorths 69 = .ok (.goto (-60), 3) := by decide +kernel
theorem dX4_addUpWorths_72 : decode cX4_addUpWorths 72 = .ok (.return_, 1) := by decide +kernel
theorem dX4_boundOfTop_0 : decode cX4_boundOfTop 0 = .ok (.aload_n 0, 1) := by decide +kernel
theorem dX4_boundOfTop_1 : decode cX4_boundOfTop 1 = .ok (.getfield 18, 3) := by decide +kernel
theorem dX4_boundOfTop_4 : decode cX4_boundOfTop 4 = .ok (.bipush (-4), 2) := by decide +kernel
theorem dX4_boundOfTop_6 : decode cX4_boundOfTop 6 = .ok (.if_icmp .ne 7, 3) := by decide +kernel
theorem dX4_boundOfTop_9 : decode cX4_boundOfTop 9 = .ok (.lconst 0, 1) := by decide +kernel
theorem dX4_boundOfTop_10 : decode cX4_boundOfTop 10 = .ok (.goto 13, 3) := by decide +kernel
theorem dX4_boundOfTop_13 : decode cX4_boundOfTop 13 = .ok (.aload_n 0, 1) := by decide +kernel
theorem dX4_boundOfTop_14 : decode cX4_boundOfTop 14 = .ok (.getfield 15, 3) := by decide +kernel
theorem dX4_boundOfTop_17 : decode cX4_boundOfTop 17 = .ok (.aload_n 0, 1) := by decide +kernel
theorem dX4_boundOfTop_18 : decode cX4_boundOfTop 18 = .ok (.getfield 18, 3) := by decide +kernel
theorem dX4_boundOfTop_21 : decode cX4_boundOfTop 21 = .ok (.laload, 1) := by decide +kernel
theorem dX4_boundOfTop_22 : decode cX4_boundOfTop 22 = .ok (.lneg, 1) := by decide +kernel
theorem dX4_boundOfTop_23 : decode cX4_boundOfTop 23 = .ok (.lstore_n 1, 1) := by decide +kernel
theorem dX4_boundOfTop_24 : decode cX4_boundOfTop 24 = .ok (.iconst 0, 1) := by decide +kernel
theorem dX4_boundOfTop_25 : decode cX4_boundOfTop 25 = .ok (.istore_n 3, 1) := by decide +kernel
theorem dX4_boundOfTop_26 : decode cX4_boundOfTop 26 = .ok (.iload_n 3, 1) := by decide +kernel
theorem dX4_boundOfTop_27 : decode cX4_boundOfTop 27 = .ok (.aload_n 0, 1) := by decide +kernel
theorem dX4_boundOfTop_28 : decode cX4_boundOfTop 28 = .ok (.getfield 26, 3) := by decide +kernel
theorem dX4_boundOfTop_31 : decode cX4_boundOfTop 31 = .ok (.getfield 57, 3) := by decide +kernel
theorem dX4_boundOfTop_34 : decode cX4_boundOfTop 34 = .ok (.if_icmp .ge 34, 3) := by decide +kernel
theorem dX4_boundOfTop_37 : decode cX4_boundOfTop 37 = .ok (.lload_n 1, 1) := by decide +kernel
theorem dX4_boundOfTop_38 : decode cX4_boundOfTop 38 = .ok (.aload_n 0, 1) := by decide +kernel
theorem dX4_boundOfTop_39 : decode cX4_boundOfTop 39 = .ok (.getfield 26, 3) := by decide +kernel
theorem dX4_boundOfTop_42 : decode cX4_boundOfTop 42 = .ok (.getfield 40, 3) := by decide +kernel
theorem dX4_boundOfTop_45 : decode cX4_boundOfTop 45 = .ok (.iload_n 3, 1) := by decide +kernel
theorem dX4_boundOfTop_46 : decode cX4_boundOfTop 46 = .ok (.iaload, 1) := by decide +kernel
theorem dX4_boundOfTop_47 : decode cX4_boundOfTop 47 = .ok (.ifCond .le 12, 3) := by decide +kernel
theorem dX4_boundOfTop_50 : decode cX4_boundOfTop 50 = .ok (.aload_n 0, 1) := by decide +kernel
theorem dX4_boundOfTop_51 : decode cX4_boundOfTop 51 = .ok (.getfield 9, 3) := by decide +kernel
theorem dX4_boundOfTop_54 : decode cX4_boundOfTop 54 = .ok (.iload_n 3, 1) := by decide +kernel
theorem dX4_boundOfTop_55 : decode cX4_boundOfTop 55 = .ok (.laload, 1) := by decide +kernel
theorem dX4_boundOfTop_56 : decode cX4_boundOfTop 56 = .ok (.goto 4, 3) := by decide +kernel
theorem dX4_boundOfTop_59 : decode cX4_boundOfTop 59 = .ok (.lconst 0, 1) := by decide +kernel
theorem dX4_boundOfTop_60 : decode cX4_boundOfTop 60 = .ok (.ladd, 1) := by decide +kernel
theorem dX4_boundOfTop_61 : decode cX4_boundOfTop 61 = .ok (.lstore_n 1, 1) := by decide +kernel
theorem dX4_boundOfTop_62 : decode cX4_boundOfTop 62 = .ok (.iinc 3 1, 3) := by decide +kernel
theorem dX4_boundOfTop_65 : decode cX4_boundOfTop 65 = .ok (.goto (-39), 3) := by decide +kernel
theorem dX4_boundOfTop_68 : decode cX4_boundOfTop 68 = .ok (.lload_n 1, 1) := by decide +kernel
theorem dX4_boundOfTop_69 : decode cX4_boundOfTop 69 = .ok (.lreturn, 1) := by decide +kernel
theorem dX4_climbFromTop_0 : decode cX4_climbFromTop 0 = .ok (.iconst 0, 1) := by decide +kernel
theorem dX4_climbFromTop_1 : decode cX4_climbFromTop 1 = .ok (.istore_n 3, 1) := by decide +kernel
theorem dX4_climbFromTop_2 : decode cX4_climbFromTop 2 = .ok (.aload_n 0, 1) := by decide +kernel
theorem dX4_climbFromTop_3 : decode cX4_climbFromTop 3 = .ok (.aload_n 0, 1) := by decide +kernel
theorem dX4_climbFromTop_4 : decode cX4_climbFromTop 4 = .ok (.invokevirtual 78, 3) := by decide +kernel
theorem dX4_climbFromTop_7 : decode cX4_climbFromTop 7 = .ok (.putfield 22, 3) := by decide +kernel
theorem dX4_climbFromTop_10 : decode cX4_climbFromTop 10 = .ok (.iconst 0, 1) := by decide +kernel
theorem dX4_climbFromTop_11 : decode cX4_climbFromTop 11 = .ok (.istore 4, 2) := by decide +kernel
theorem dX4_climbFromTop_13 : decode cX4_climbFromTop 13 = .ok (.iload 4, 2) := by decide +kernel
theorem dX4_climbFromTop_15 : decode cX4_climbFromTop 15 = .ok (.iload_n 1, 1) := by decide +kernel
theorem dX4_climbFromTop_16 : decode cX4_climbFromTop 16 = .ok (.if_icmp .ge 36, 3) := by decide +kernel
theorem dX4_climbFromTop_19 : decode cX4_climbFromTop 19 = .ok (.iload_n 3, 1) := by decide +kernel
theorem dX4_climbFromTop_20 : decode cX4_climbFromTop 20 = .ok (.aload_n 0, 1) := by decide +kernel
theorem dX4_climbFromTop_21 : decode cX4_climbFromTop 21 = .ok (.iload_n 2, 1) := by decide +kernel
theorem dX4_climbFromTop_22 : decode cX4_climbFromTop 22 = .ok (.invokevirtual 82, 3) := by decide +kernel
theorem dX4_climbFromTop_25 : decode cX4_climbFromTop 25 = .ok (.iadd, 1) := by decide +kernel
theorem dX4_climbFromTop_26 : decode cX4_climbFromTop 26 = .ok (.istore_n 3, 1) := by decide +kernel
theorem dX4_climbFromTop_27 : decode cX4_climbFromTop 27 = .ok (.aload_n 0, 1) := by decide +kernel
theorem dX4_climbFromTop_28 : decode cX4_climbFromTop 28 = .ok (.invokevirtual 85, 3) := by decide +kernel
theorem dX4_climbFromTop_31 : decode cX4_climbFromTop 31 = .ok (.aload_n 0, 1) := by decide +kernel
theorem dX4_climbFromTop_32 : decode cX4_climbFromTop 32 = .ok (.aload_n 0, 1) := by decide +kernel
theorem dX4_climbFromTop_33 : decode cX4_climbFromTop 33 = .ok (.getfield 22, 3) := by decide +kernel
theorem dX4_climbFromTop_36 : decode cX4_climbFromTop 36 = .ok (.aload_n 0, 1) := by decide +kernel
theorem dX4_climbFromTop_37 : decode cX4_climbFromTop 37 = .ok (.invokevirtual 78, 3) := by decide +kernel
theorem dX4_climbFromTop_40 : decode cX4_climbFromTop 40 = .ok (.invokestatic 47, 3) := by decide +kernel
theorem dX4_climbFromTop_43 : decode cX4_climbFromTop 43 = .ok (.putfield 22, 3) := by decide +kernel
theorem dX4_climbFromTop_46 : decode cX4_climbFromTop 46 = .ok (.iinc 4 1, 3) := by decide +kernel
theorem dX4_climbFromTop_49 : decode cX4_climbFromTop 49 = .ok (.goto (-36), 3) := by decide +kernel
theorem dX4_climbFromTop_52 : decode cX4_climbFromTop 52 = .ok (.iload_n 3, 1) := by decide +kernel
theorem dX4_climbFromTop_53 : decode cX4_climbFromTop 53 = .ok (.ireturn, 1) := by decide +kernel
theorem dX4_movePrices_0 : decode cX4_movePrices 0 = .ok (.iconst 0, 1) := by decide +kernel
theorem dX4_movePrices_1 : decode cX4_movePrices 1 = .ok (.istore_n 2, 1) := by decide +kernel
theorem dX4_movePrices_2 : decode cX4_movePrices 2 = .ok (.iconst 0, 1) := by decide +kernel
theorem dX4_movePrices_3 : decode cX4_movePrices 3 = .ok (.istore_n 3, 1) := by decide +kernel
theorem dX4_movePrices_4 : decode cX4_movePrices 4 = .ok (.iload_n 3, 1) := by decide +kernel
theorem dX4_movePrices_5 : decode cX4_movePrices 5 = .ok (.aload_n 0, 1) := by decide +kernel
theorem dX4_movePrices_6 : decode cX4_movePrices 6 = .ok (.getfield 26, 3) := by decide +kernel
theorem dX4_movePrices_9 : decode cX4_movePrices 9 = .ok (.getfield 57, 3) := by decide +kernel
theorem dX4_movePrices_12 : decode cX4_movePrices 12 = .ok (.if_icmp .ge 66, 3) := by decide +kernel
theorem dX4_movePrices_15 : decode cX4_movePrices 15 = .ok (.aload_n 0, 1) := by decide +kernel
theorem dX4_movePrices_16 : decode cX4_movePrices 16 = .ok (.getfield 26, 3) := by decide +kernel
theorem dX4_movePrices_19 : decode cX4_movePrices 19 = .ok (.getfield 40, 3) := by decide +kernel
theorem dX4_movePrices_22 : decode cX4_movePrices 22 = .ok (.iload_n 3, 1) := by decide +kernel
theorem dX4_movePrices_23 : decode cX4_movePrices 23 = .ok (.iaload, 1) := by decide +kernel
theorem dX4_movePrices_24 : decode cX4_movePrices 24 = .ok (.ifCond .le 48, 3) := by decide +kernel
theorem dX4_movePrices_27 : decode cX4_movePrices 27 = .ok (.aload_n 0, 1) := by decide +kernel
theorem dX4_movePrices_28 : decode cX4_movePrices 28 = .ok (.getfield 9, 3) := by decide +kernel
theorem dX4_movePrices_31 : decode cX4_movePrices 31 = .ok (.iload_n 3, 1) := by decide +kernel
theorem dX4_movePrices_32 : decode cX4_movePrices 32 = .ok (.laload, 1) := by decide +kernel
theorem dX4_movePrices_33 : decode cX4_movePrices 33 = .ok (.lstore 4, 2) := by decide +kernel
theorem dX4_movePrices_35 : decode cX4_movePrices 35 = .ok (.aload_n 0, 1) := by decide +kernel
theorem dX4_movePrices_36 : decode cX4_movePrices 36 = .ok (.getfield 9, 3) := by decide +kernel
theorem dX4_movePrices_39 : decode cX4_movePrices 39 = .ok (.iload_n 3, 1) := by decide +kernel
theorem dX4_movePrices_40 : decode cX4_movePrices 40 = .ok (.lload 4, 2) := by decide +kernel
theorem dX4_movePrices_42 : decode cX4_movePrices 42 = .ok (.aload_n 0, 1) := by decide +kernel
theorem dX4_movePrices_43 : decode cX4_movePrices 43 = .ok (.iload_n 3, 1) := by decide +kernel
theorem dX4_movePrices_44 : decode cX4_movePrices 44 = .ok (.invokevirtual 88, 3) := by decide +kernel
theorem dX4_movePrices_47 : decode cX4_movePrices 47 = .ok (.iload_n 1, 1) := by decide +kernel
theorem dX4_movePrices_48 : decode cX4_movePrices 48 = .ok (.invokestatic 91, 3) := by decide +kernel
theorem dX4_movePrices_51 : decode cX4_movePrices 51 = .ok (.lastore, 1) := by decide +kernel
theorem dX4_movePrices_52 : decode cX4_movePrices 52 = .ok (.iload_n 2, 1) := by decide +kernel
theorem dX4_movePrices_53 : decode cX4_movePrices 53 = .ok (.aload_n 0, 1) := by decide +kernel
theorem dX4_movePrices_54 : decode cX4_movePrices 54 = .ok (.getfield 9, 3) := by decide +kernel
theorem dX4_movePrices_57 : decode cX4_movePrices 57 = .ok (.iload_n 3, 1) := by decide +kernel
theorem dX4_movePrices_58 : decode cX4_movePrices 58 = .ok (.laload, 1) := by decide +kernel
theorem dX4_movePrices_59 : decode cX4_movePrices 59 = .ok (.lload 4, 2) := by decide +kernel
theorem dX4_movePrices_61 : decode cX4_movePrices 61 = .ok (.lcmp, 1) := by decide +kernel
theorem dX4_movePrices_62 : decode cX4_movePrices 62 = .ok (.ifCond .eq 7, 3) := by decide +kernel
theorem dX4_movePrices_65 : decode cX4_movePrices 65 = .ok (.iconst 1, 1) := by decide +kernel
theorem dX4_movePrices_66 : decode cX4_movePrices 66 = .ok (.goto 4, 3) := by decide +kernel
theorem dX4_movePrices_69 : decode cX4_movePrices 69 = .ok (.iconst 0, 1) := by decide +kernel
theorem dX4_movePrices_70 : decode cX4_movePrices 70 = .ok (.iadd, 1) := by decide +kernel
theorem dX4_movePrices_71 : decode cX4_movePrices 71 = .ok (.istore_n 2, 1) := by decide +kernel
theorem dX4_movePrices_72 : decode cX4_movePrices 72 = .ok (.iinc 3 1, 3) := by decide +kernel
theorem dX4_movePrices_75 : decode cX4_movePrices 75 = .ok (.goto (-71), 3) := by decide +kernel
theorem dX4_movePrices_78 : decode cX4_movePrices 78 = .ok (.iload_n 2, 1) := by decide +kernel
theorem dX4_movePrices_79 : decode cX4_movePrices 79 = .ok (.ireturn, 1) := by decide +kernel
theorem dX4_movedPrice_0 : decode cX4_movedPrice 0 = .ok (.iload_n 2, 1) := by decide +kernel
theorem dX4_movedPrice_1 : decode cX4_movedPrice 1 = .ok (.ifCond .ne 14, 3) := by decide +kernel
theorem dX4_movedPrice_4 : decode cX4_movedPrice 4 = .ok (.lload_n 0, 1) := by decide +kernel
theorem dX4_movedPrice_5 : decode cX4_movedPrice 5 = .ok (.iload_n 3, 1) := by decide +kernel
theorem dX4_movedPrice_6 : decode cX4_movedPrice 6 = .ok (.i2l, 1) := by decide +kernel
theorem dX4_movedPrice_7 : decode cX4_movedPrice 7 = .ok (.ladd, 1) := by decide +kernel
theorem dX4_movedPrice_8 : decode cX4_movedPrice 8 = .ok (.ldc2_w 95, 3) := by decide +kernel
theorem dX4_movedPrice_11 : decode cX4_movedPrice 11 = .ok (.invokestatic 97, 3) := by decide +kernel
theorem dX4_movedPrice_14 : decode cX4_movedPrice 14 = .ok (.lreturn, 1) := by decide +kernel
theorem dX4_movedPrice_15 : decode cX4_movedPrice 15 = .ok (.iload_n 2, 1) := by decide +kernel
theorem dX4_movedPrice_16 : decode cX4_movedPrice 16 = .ok (.iconst 1, 1) := by decide +kernel
theorem dX4_movedPrice_17 : decode cX4_movedPrice 17 = .ok (.if_icmp .ne 7, 3) := by decide +kernel
theorem dX4_movedPrice_20 : decode cX4_movedPrice 20 = .ok (.lload_n 0, 1) := by decide +kernel
theorem dX4_movedPrice_21 : decode cX4_movedPrice 21 = .ok (.goto 11, 3) := by decide +kernel
theorem dX4_movedPrice_24 : decode cX4_movedPrice 24 = .ok (.lload_n 0, 1) := by decide +kernel
theorem dX4_movedPrice_25 : decode cX4_movedPrice 25 = .ok (.iload_n 3, 1) := by decide +kernel
theorem dX4_movedPrice_26 : decode cX4_movedPrice 26 = .ok (.i2l, 1) := by decide +kernel
theorem dX4_movedPrice_27 : decode cX4_movedPrice 27 = .ok (.lsub, 1) := by decide +kernel
theorem dX4_movedPrice_28 : decode cX4_movedPrice 28 = .ok (.lconst 0, 1) := by decide +kernel
theorem dX4_movedPrice_29 : decode cX4_movedPrice 29 = .ok (.invokestatic 47, 3) := by decide +kernel
theorem dX4_movedPrice_32 : decode cX4_movedPrice 32 = .ok (.lreturn, 1) := by decide +kernel
theorem dX4_giversOfTop_0 : decode cX4_giversOfTop 0 = .ok (.iconst 0, 1) := by decide +kernel
theorem dX4_giversOfTop_1 : decode cX4_giversOfTop 1 = .ok (.istore_n 2, 1) := by decide +kernel
theorem dX4_giversOfTop_2 : decode cX4_giversOfTop 2 = .ok (.iconst 0, 1) := by decide +kernel
theorem dX4_giversOfTop_3 : decode cX4_giversOfTop 3 = .ok (.istore_n 3, 1) := by decide +kernel
theorem dX4_giversOfTop_4 : decode cX4_giversOfTop 4 = .ok (.iload_n 3, 1) := by decide +kernel
theorem dX4_giversOfTop_5 : decode cX4_giversOfTop 5 = .ok (.aload_n 0, 1) := by decide +kernel
theorem dX4_giversOfTop_6 : decode cX4_giversOfTop 6 = .ok (.getfield 26, 3) := by decide +kernel
theorem dX4_giversOfTop_9 : decode cX4_giversOfTop 9 = .ok (.getfield 67, 3) := by decide +kernel
theorem dX4_giversOfTop_12 : decode cX4_giversOfTop 12 = .ok (.if_icmp .ge 39, 3) := by decide +kernel
theorem dX4_giversOfTop_15 : decode cX4_giversOfTop 15 = .ok (.iload_n 2, 1) := by decide +kernel
theorem dX4_giversOfTop_16 : decode cX4_giversOfTop 16 = .ok (.aload_n 0, 1) := by decide +kernel
theorem dX4_giversOfTop_17 : decode cX4_giversOfTop 17 = .ok (.getfield 18, 3) := by decide +kernel
theorem dX4_giversOfTop_20 : decode cX4_giversOfTop 20 = .ok (.iload_n 3, 1) := by decide +kernel
theorem dX4_giversOfTop_21 : decode cX4_giversOfTop 21 = .ok (.invokestatic 100, 3) := by decide +kernel
theorem dX4_giversOfTop_24 : decode cX4_giversOfTop 24 = .ok (.ifCond .eq 18, 3) := by decide +kernel
theorem dX4_giversOfTop_27 : decode cX4_giversOfTop 27 = .ok (.aload_n 0, 1) := by decide +kernel
theorem dX4_giversOfTop_28 : decode cX4_giversOfTop 28 = .ok (.iload_n 3, 1) := by decide +kernel
theorem dX4_giversOfTop_29 : decode cX4_giversOfTop 29 = .ok (.iload_n 1, 1) := by decide +kernel
theorem dX4_giversOfTop_30 : decode cX4_giversOfTop 30 = .ok (.invokevirtual 60, 3) := by decide +kernel
theorem dX4_giversOfTop_33 : decode cX4_giversOfTop 33 = .ok (.lconst 0, 1) := by decide +kernel
theorem dX4_giversOfTop_34 : decode cX4_giversOfTop 34 = .ok (.lcmp, 1) := by decide +kernel
theorem dX4_giversOfTop_35 : decode cX4_giversOfTop 35 = .ok (.ifCond .le 7, 3) := by decide +kernel
theorem dX4_giversOfTop_38 : decode cX4_giversOfTop 38 = .ok (.iconst 1, 1) := by decide +kernel
theorem dX4_giversOfTop_39 : decode cX4_giversOfTop 39 = .ok (.goto 4, 3) := by decide +kernel
theorem dX4_giversOfTop_42 : decode cX4_giversOfTop 42 = .ok (.iconst 0, 1) := by decide +kernel
theorem dX4_giversOfTop_43 : decode cX4_giversOfTop 43 = .ok (.iadd, 1) := by decide +kernel
theorem dX4_giversOfTop_44 : decode cX4_giversOfTop 44 = .ok (.istore_n 2, 1) := by decide +kernel
theorem dX4_giversOfTop_45 : decode cX4_giversOfTop 45 = .ok (.iinc 3 1, 3) := by decide +kernel
theorem dX4_giversOfTop_48 : decode cX4_giversOfTop 48 = .ok (.goto (-44), 3) := by decide +kernel
theorem dX4_giversOfTop_51 : decode cX4_giversOfTop 51 = .ok (.iload_n 2, 1) := by decide +kernel
theorem dX4_giversOfTop_52 : decode cX4_giversOfTop 52 = .ok (.ireturn, 1) := by decide +kernel
theorem dX5_init_0 : decode cX5_init 0 = .ok (.aload_n 0, 1) := by decide +kernel
theorem dX5_init_1 : decode cX5_init 1 = .ok (.invokespecial 3, 3) := by decide +kernel
theorem dX5_init_4 : decode cX5_init 4 = .ok (.aload_n 0, 1) := by decide +kernel
theorem dX5_init_5 : decode cX5_init 5 = .ok (.bipush 10, 2) := by decide +kernel
theorem dX5_init_7 : decode cX5_init 7 = .ok (.newarray .long, 2) := by decide +kernel
theorem dX5_init_9 : decode cX5_init 9 = .ok (.putfield 9, 3) := by decide +kernel
theorem dX5_init_12 : decode cX5_init 12 = .ok (.return_, 1) := by decide +kernel
theorem dX5_take_0 : decode cX5_take 0 = .ok (.aload_n 0, 1) := by decide +kernel
theorem dX5_take_1 : decode cX5_take 1 = .ok (.invokevirtual 15, 3) := by decide +kernel
theorem dX5_take_4 : decode cX5_take 4 = .ok (.iconst 1, 1) := by decide +kernel
theorem dX5_take_5 : decode cX5_take 5 = .ok (.aload_n 1, 1) := by decide +kernel
theorem dX5_take_6 : decode cX5_take 6 = .ok (.getfield 18, 3) := by decide +kernel
theorem dX5_take_9 : decode cX5_take 9 = .ok (.getfield 24, 3) := by decide +kernel
theorem dX5_take_12 : decode cX5_take 12 = .ok (.ishl, 1) := by decide +kernel
theorem dX5_take_13 : decode cX5_take 13 = .ok (.istore_n 2, 1) := by decide +kernel
theorem dX5_take_14 : decode cX5_take 14 = .ok (.iconst 0, 1) := by decide +kernel
theorem dX5_take_15 : decode cX5_take 15 = .ok (.istore_n 3, 1) := by decide +kernel
theorem dX5_take_16 : decode cX5_take 16 = .ok (.iload_n 3, 1) := by decide +kernel
theorem dX5_take_17 : decode cX5_take 17 = .ok (.iload_n 2, 1) := by decide +kernel
theorem dX5_take_18 : decode cX5_take 18 = .ok (.if_icmp .ge 63, 3) := by decide +kernel
theorem dX5_take_21 : decode cX5_take 21 = .ok (.aload_n 1, 1) := by decide +kernel
theorem dX5_take_22 : decode cX5_take 22 = .ok (.iload_n 3, 1) := by decide +kernel
theorem dX5_take_23 : decode cX5_take 23 = .ok (.invokevirtual 30, 3) := by decide +kernel
theorem dX5_take_26 : decode cX5_take 26 = .ok (.ifCond .eq 11, 3) := by decide +kernel
theorem dX5_take_29 : decode cX5_take 29 = .ok (.aload_n 1, 1) := by decide +kernel
theorem dX5_take_30 : decode cX5_take 30 = .ok (.iload_n 3, 1) := by decide +kernel
theorem dX5_take_31 : decode cX5_take 31 = .ok (.invokevirtual 34, 3) := by decide +kernel
theorem dX5_take_34 : decode cX5_take 34 = .ok (.goto 6, 3) := by decide +kernel
theorem dX5_take_37 : decode cX5_take 37 = .ok (.ldc2_w 38, 3) := by decide +kernel
theorem dX5_take_40 : decode cX5_take 40 = .ok (.lstore 4, 2) := by decide +kernel
theorem dX5_take_42 : decode cX5_take 42 = .ok (.lload 4, 2) := by decide +kernel
theorem dX5_take_44 : decode cX5_take 44 = .ok (.ldc2_w 38, 3) := by decide +kernel
theorem dX5_take_47 : decode cX5_take 47 = .ok (.lcmp, 1) := by decide +kernel
theorem dX5_take_48 : decode cX5_take 48 = .ok (.ifCond .ge 27, 3) := by decide +kernel
theorem dX5_take_51 : decode cX5_take 51 = .ok (.aload_n 0, 1) := by decide +kernel
theorem dX5_take_52 : decode cX5_take 52 = .ok (.iload_n 3, 1) := by decide +kernel
theorem dX5_take_53 : decode cX5_take 53 = .ok (.lload 4, 2) := by decide +kernel
theorem dX5_take_55 : decode cX5_take 55 = .ok (.invokevirtual 40, 3) := by decide +kernel
theorem dX5_take_58 : decode cX5_take 58 = .ok (.aload_n 0, 1) := by decide +kernel
theorem dX5_take_59 : decode cX5_take 59 = .ok (.iload_n 3, 1) := by decide +kernel
theorem dX5_take_60 : decode cX5_take 60 = .ok (.lload 4, 2) := by decide +kernel
theorem dX5_take_62 : decode cX5_take 62 = .ok (.invokevirtual 44, 3) := by decide +kernel
theorem dX5_take_65 : decode cX5_take 65 = .ok (.aload_n 0, 1) := by decide +kernel
theorem dX5_take_66 : decode cX5_take 66 = .ok (.iload_n 3, 1) := by decide +kernel
theorem dX5_take_67 : decode cX5_take 67 = .ok (.aload_n 1, 1) := by decide +kernel
theorem dX5_take_68 : decode cX5_take 68 = .ok (.iload_n 3, 1) := by decide +kernel
theorem dX5_take_69 : decode cX5_take 69 = .ok (.invokevirtual 47, 3) := by decide +kernel
theorem dX5_take_72 : decode cX5_take 72 = .ok (.invokevirtual 51, 3) := by decide +kernel
theorem dX5_take_75 : decode cX5_take 75 = .ok (.iinc 3 1, 3) := by decide +kernel
theorem dX5_take_78 : decode cX5_take 78 = .ok (.goto (-62), 3) := by decide +kernel
theorem dX5_take_81 : decode cX5_take 81 = .ok (.return_, 1) := by decide +kernel
theorem dX5_forget_0 : decode cX5_forget 0 = .ok (.aload_n 0, 1) := by decide +kernel
theorem dX5_forget_1 : decode cX5_forget 1 = .ok (.ldc2_w 55, 3) := by decide +kernel
theorem dX5_forget_4 : decode cX5_forget 4 = .ok (.putfield 57, 3) := by decide +kernel
theorem dX5_forget_7 : decode cX5_forget 7 = .ok (.aload_n 0, 1) := by decide +kernel
theorem dX5_forget_8 : decode cX5_forget 8 = .ok (.bipush (-4), 2) := by decide +kernel
theorem dX5_forget_10 : decode cX5_forget 10 = .ok (.putfield 61, 3) := by decide +kernel
theorem dX5_forget_13 : decode cX5_forget 13 = .ok (.aload_n 0, 1) := by decide +kernel
theorem dX5_forget_14 : decode cX5_forget 14 = .ok (.iconst 0, 1) := by decide +kernel
theorem dX5_forget_15 : decode cX5_forget 15 = .ok (.putfield 64, 3) := by decide +kernel
theorem dX5_forget_18 : decode cX5_forget 18 = .ok (.aload_n 0, 1) := by decide +kernel
theorem dX5_forget_19 : decode cX5_forget 19 = .ok (.iconst 0, 1) := by decide +kernel
theorem dX5_forget_20 : decode cX5_forget 20 = .ok (.putfield 67, 3) := by decide +kernel
theorem dX5_forget_23 : decode cX5_forget 23 = .ok (.aload_n 0, 1) := by decide +kernel
theorem dX5_forget_24 : decode cX5_forget 24 = .ok (.iconst 0, 1) := by decide +kernel
theorem dX5_forget_25 : decode cX5_forget 25 = .ok (.putfield 70, 3) := by decide +kernel
theorem dX5_forget_28 : decode cX5_forget 28 = .ok (.aload_n 0, 1) := by decide +kernel
theorem dX5_forget_29 : decode cX5_forget 29 = .ok (.ldc2_w 55, 3) := by decide +kernel
theorem dX5_forget_32 : decode cX5_forget 32 = .ok (.putfield 73, 3) := by decide +kernel
theorem dX5_forget_35 : decode cX5_forget 35 = .ok (.aload_n 0, 1) := by decide +kernel
theorem dX5_forget_36 : decode cX5_forget 36 = .ok (.bipush (-4), 2) := by decide +kernel
theorem dX5_forget_38 : decode cX5_forget 38 = .ok (.putfield 76, 3) := by decide +kernel
theorem dX5_forget_41 : decode cX5_forget 41 = .ok (.aload_n 0, 1) := by decide +kernel
theorem dX5_forget_42 : decode cX5_forget 42 = .ok (.ldc 79, 2) := by decide +kernel
theorem dX5_forget_44 : decode cX5_forget 44 = .ok (.putfield 80, 3) := by decide +kernel
theorem dX5_forget_47 : decode cX5_forget 47 = .ok (.aload_n 0, 1) := by decide +kernel
theorem dX5_forget_48 : decode cX5_forget 48 = .ok (.bipush (-4), 2) := by decide +kernel
theorem dX5_forget_50 : decode cX5_forget 50 = .ok (.putfield 83, 3) := by decide +kernel
theorem dX5_forget_53 : decode cX5_forget 53 = .ok (.iconst 0, 1) := by decide +kernel
theorem dX5_forget_54 : decode cX5_forget 54 = .ok (.istore_n 1, 1) := by decide +kernel
theorem dX5_forget_55 : decode cX5_forget 55 = .ok (.iload_n 1, 1) := by decide +kernel
theorem dX5_forget_56 : decode cX5_forget 56 = .ok (.bipush 10, 2) := by decide +kernel
theorem dX5_forget_58 : decode cX5_forget 58 = .ok (.if_icmp .ge 18, 3) := by decide +kernel
theorem dX5_forget_61 : decode cX5_forget 61 = .ok (.aload_n 0, 1) := by decide +kernel
theorem dX5_forget_62 : decode cX5_forget 62 = .ok (.getfield 9, 3) := by decide +kernel
theorem dX5_forget_65 : decode cX5_forget 65 = .ok (.iload_n 1, 1) := by decide +kernel
theorem dX5_forget_66 : decode cX5_forget 66 = .ok (.ldc2_w 55, 3) := by decide +kernel
theorem dX5_forget_69 : decode cX5_forget 69 = .ok (.lastore, 1) := by decide +kernel
theorem dX5_forget_70 : decode cX5_forget 70 = .ok (.iinc 1 1, 3) := by decide +kernel
theorem dX5_forget_73 : decode cX5_forget 73 = .ok (.goto (-18), 3) := by decide +kernel
theorem dX5_forget_76 : decode cX5_forget 76 = .ok (.return_, 1) := by decide +kernel
theorem dX5_noteCost_0 : decode cX5_noteCost 0 = .ok (.lload_n 2, 1) := by decide +kernel
theorem dX5_noteCost_1 : decode cX5_noteCost 1 = .ok (.aload_n 0, 1) := by decide +kernel
theorem dX5_noteCost_2 : decode cX5_noteCost 2 = .ok (.getfield 57, 3) := by decide +kernel
theorem dX5_noteCost_5 : decode cX5_noteCost 5 = .ok (.lcmp, 1) := by decide +kernel
theorem dX5_noteCost_6 : decode cX5_noteCost 6 = .ok (.ifCond .ge 45, 3) := by decide +kernel
theorem dX5_noteCost_9 : decode cX5_noteCost 9 = .ok (.aload_n 0, 1) := by decide +kernel
theorem dX5_noteCost_10 : decode cX5_noteCost 10 = .ok (.aload_n 0, 1) := by decide +kernel
theorem dX5_noteCost_11 : decode cX5_noteCost 11 = .ok (.getfield 57, 3) := by decide +kernel
theorem dX5_noteCost_14 : decode cX5_noteCost 14 = .ok (.putfield 73, 3) := by decide +kernel
theorem dX5_noteCost_17 : decode cX5_noteCost 17 = .ok (.aload_n 0, 1) := by decide +kernel
theorem dX5_noteCost_18 : decode cX5_noteCost 18 = .ok (.aload_n 0, 1) := by decide +kernel
theorem dX5_noteCost_19 : decode cX5_noteCost 19 = .ok (.getfield 61, 3) := by decide +kernel
theorem dX5_noteCost_22 : decode cX5_noteCost 22 = .ok (.putfield 76, 3) := by decide +kernel
theorem dX5_noteCost_25 : decode cX5_noteCost 25 = .ok (.aload_n 0, 1) := by decide +kernel
theorem dX5_noteCost_26 : decode cX5_noteCost 26 = .ok (.lload_n 2, 1) := by decide +kernel
theorem dX5_noteCost_27 : decode cX5_noteCost 27 = .ok (.putfield 57, 3) := by decide +kernel
theorem dX5_noteCost_30 : decode cX5_noteCost 30 = .ok (.aload_n 0, 1) := by decide +kernel
theorem dX5_noteCost_31 : decode cX5_noteCost 31 = .ok (.iload_n 1, 1) := by decide +kernel
theorem dX5_noteCost_32 : decode cX5_noteCost 32 = .ok (.putfield 61, 3) := by decide +kernel
theorem dX5_noteCost_35 : decode cX5_noteCost 35 = .ok (.aload_n 0, 1) := by decide +kernel
theorem dX5_noteCost_36 : decode cX5_noteCost 36 = .ok (.iconst 1, 1) := by decide +kernel
theorem dX5_noteCost_37 : decode cX5_noteCost 37 = .ok (.putfield 64, 3) := by decide +kernel
theorem dX5_noteCost_40 : decode cX5_noteCost 40 = .ok (.aload_n 0, 1) := by decide +kernel
theorem dX5_noteCost_41 : decode cX5_noteCost 41 = .ok (.iload_n 1, 1) := by decide +kernel
theorem dX5_noteCost_42 : decode cX5_noteCost 42 = .ok (.putfield 67, 3) := by decide +kernel
theorem dX5_noteCost_45 : decode cX5_noteCost 45 = .ok (.aload_n 0, 1) := by decide +kernel
theorem dX5_noteCost_46 : decode cX5_noteCost 46 = .ok (.iload_n 1, 1) := by decide +kernel
theorem dX5_noteCost_47 : decode cX5_noteCost 47 = .ok (.putfield 70, 3) := by decide +kernel
theorem dX5_noteCost_50 : decode cX5_noteCost 50 = .ok (.return_, 1) := by decide +kernel
theorem dX5_noteCost_51 : decode cX5_noteCost 51 = .ok (.lload_n 2, 1) := by decide +kernel
theorem dX5_noteCost_52 : decode cX5_noteCost 52 = .ok (.aload_n 0, 1) := by decide +kernel
theorem dX5_noteCost_53 : decode cX5_noteCost 53 = .ok (.getfield 57, 3) := by decide +kernel
theorem dX5_noteCost_56 : decode cX5_noteCost 56 = .ok (.lcmp, 1) := by decide +kernel
theorem dX5_noteCost_57 : decode cX5_noteCost 57 = .ok (.ifCond .ne 33, 3) := by decide +kernel
theorem dX5_noteCost_60 : decode cX5_noteCost 60 = .ok (.aload_n 0, 1) := by decide +kernel
theorem dX5_noteCost_61 : decode cX5_noteCost 61 = .ok (.dup, 1) := by decide +kernel
theorem dX5_noteCost_62 : decode cX5_noteCost 62 = .ok (.getfield 64, 3) := by decide +kernel
theorem dX5_noteCost_65 : decode cX5_noteCost 65 = .ok (.iconst 1, 1) := by decide +kernel
theorem dX5_noteCost_66 : decode cX5_noteCost 66 = .ok (.iadd, 1) := by decide +kernel
theorem dX5_noteCost_67 : decode cX5_noteCost 67 = .ok (.putfield 64, 3) := by decide +kernel
theorem dX5_noteCost_70 : decode cX5_noteCost 70 = .ok (.aload_n 0, 1) := by decide +kernel
theorem dX5_noteCost_71 : decode cX5_noteCost 71 = .ok (.dup, 1) := by decide +kernel
theorem dX5_noteCost_72 : decode cX5_noteCost 72 = .ok (.getfield 67, 3) := by decide +kernel
theorem dX5_noteCost_75 : decode cX5_noteCost 75 = .ok (.iload_n 1, 1) := by decide +kernel
theorem dX5_noteCost_76 : decode cX5_noteCost 76 = .ok (.iand, 1) := by decide +kernel
theorem dX5_noteCost_77 : decode cX5_noteCost 77 = .ok (.putfield 67, 3) := by decide +kernel
theorem dX5_noteCost_80 : decode cX5_noteCost 80 = .ok (.aload_n 0, 1) := by decide +kernel
theorem dX5_noteCost_81 : decode cX5_noteCost 81 = .ok (.dup, 1) := by decide +kernel
theorem dX5_noteCost_82 : decode cX5_noteCost 82 = .ok (.getfield 70, 3) := by decide +kernel
theorem dX5_noteCost_85 : decode cX5_noteCost 85 = .ok (.iload_n 1, 1) := by decide +kernel
theorem dX5_noteCost_86 : decode cX5_noteCost 86 = .ok (.ior, 1) := by decide +kernel
theorem dX5_noteCost_87 : decode cX5_noteCost 87 = .ok (.putfield 70, 3) := by decide +kernel
theorem dX5_noteCost_90 : decode cX5_noteCost 90 = .ok (.lload_n 2, 1) := by decide +kernel
theorem dX5_noteCost_91 : decode cX5_noteCost 91 = .ok (.aload_n 0, 1) := by decide +kernel
theorem dX5_noteCost_92 : decode cX5_noteCost 92 = .ok (.getfield 73, 3) := by decide +kernel
theorem dX5_noteCost_95 : decode cX5_noteCost 95 = .ok (.lcmp, 1) := by decide +kernel
theorem dX5_noteCost_96 : decode cX5_noteCost 96 = .ok (.ifCond .ge 13, 3) := by decide +kernel
theorem dX5_noteCost_99 : decode cX5_noteCost 99 = .ok (.aload_n 0, 1) := by decide +kernel
theorem dX5_noteCost_100 : decode cX5_noteCost 100 = .ok (.lload_n 2, 1) := by decide +kernel
theorem dX5_noteCost_101 : decode cX5_noteCost 101 = .ok (.putfield 73, 3) := by decide +kernel
theorem dX5_noteCost_104 : decode cX5_noteCost 104 = .ok (.aload_n 0, 1) := by decide +kernel
theorem dX5_noteCost_105 : decode cX5_noteCost 105 = .ok (.iload_n 1, 1) := by decide +kernel
theorem dX5_noteCost_106 : decode cX5_noteCost 106 = .ok (.putfield 76, 3) := by decide +kernel
theorem dX5_noteCost_109 : decode cX5_noteCost 109 = .ok (.return_, 1) := by decide +kernel
theorem dX5_noteLosses_0 : decode cX5_noteLosses 0 = .ok (.iconst 0, 1) := by decide +kernel
theorem dX5_noteLosses_1 : decode cX5_noteLosses 1 = .ok (.istore 4, 2) := by decide +kernel
theorem dX5_noteLosses_3 : decode cX5_noteLosses 3 = .ok (.iload 4, 2) := by decide +kernel
theorem dX5_noteLosses_5 : decode cX5_noteLosses 5 = .ok (.bipush 10, 2) := by decide +kernel
theorem dX5_noteLosses_7 : decode cX5_noteLosses 7 = .ok (.if_icmp .ge 36, 3) := by decide +kernel
theorem dX5_noteLosses_10 : decode cX5_noteLosses 10 = .ok (.iload_n 1, 1) := by decide +kernel
theorem dX5_noteLosses_11 : decode cX5_noteLosses 11 = .ok (.iload 4, 2) := by decide +kernel
theorem dX5_noteLosses_13 : decode cX5_noteLosses 13 = .ok (.invokestatic 86, 3) := by decide +kernel
theorem dX5_noteLosses_16 : decode cX5_noteLosses 16 = .ok (.ifCond .ne 21, 3) := by decide +kernel
theorem dX5_noteLosses_19 : decode cX5_noteLosses 19 = .ok (.aload_n 0, 1) := by decide +kernel
theorem dX5_noteLosses_20 : decode cX5_noteLosses 20 = .ok (.getfield 9, 3) := by decide +kernel
theorem dX5_noteLosses_23 : decode cX5_noteLosses 23 = .ok (.iload 4, 2) := by decide +kernel
theorem dX5_noteLosses_25 : decode cX5_noteLosses 25 = .ok (.aload_n 0, 1) := by decide +kernel
theorem dX5_noteLosses_26 : decode cX5_noteLosses 26 = .ok (.getfield 9, 3) := by decide +kernel
theorem dX5_noteLosses_29 : decode cX5_noteLosses 29 = .ok (.iload 4, 2) := by decide +kernel
theorem dX5_noteLosses_31 : decode cX5_noteLosses 31 = .ok (.laload, 1) := by decide +kernel
theorem dX5_noteLosses_32 : decode cX5_noteLosses 32 = .ok (.lload_n 2, 1) := by decide +kernel
theorem dX5_noteLosses_33 : decode cX5_noteLosses 33 = .ok (.invokestatic 90, 3) := by decide +kernel
theorem dX5_noteLosses_36 : decode cX5_noteLosses 36 = .ok (.lastore, 1) := by decide +kernel
theorem dX5_noteLosses_37 : decode cX5_noteLosses 37 = .ok (.iinc 4 1, 3) := by decide +kernel
theorem dX5_noteLosses_40 : decode cX5_noteLosses 40 = .ok (.goto (-37), 3) := by decide +kernel
theorem dX5_noteLosses_43 : decode cX5_noteLosses 43 = .ok (.return_, 1) := by decide +kernel
theorem dX5_noteFar_0 : decode cX5_noteFar 0 = .ok (.iload_n 2, 1) := by decide +kernel
theorem dX5_noteFar_1 : decode cX5_noteFar 1 = .ok (.aload_n 0, 1) := by decide +kernel
theorem dX5_noteFar_2 : decode cX5_noteFar 2 = .ok (.getfield 80, 3) := by decide +kernel
theorem dX5_noteFar_5 : decode cX5_noteFar 5 = .ok (.if_icmp .ge 13, 3) := by decide +kernel
theorem dX5_noteFar_8 : decode cX5_noteFar 8 = .ok (.aload_n 0, 1) := by decide +kernel
theorem dX5_noteFar_9 : decode cX5_noteFar 9 = .ok (.iload_n 2, 1) := by decide +kernel
theorem dX5_noteFar_10 : decode cX5_noteFar 10 = .ok (.putfield 80, 3) := by decide +kernel
theorem dX5_noteFar_13 : decode cX5_noteFar 13 = .ok (.aload_n 0, 1) := by decide +kernel
theorem dX5_noteFar_14 : decode cX5_noteFar 14 = .ok (.iload_n 1, 1) := by decide +kernel
theorem dX5_noteFar_15 : decode cX5_noteFar 15 = .ok (.putfield 83, 3) := by decide +kernel
theorem dX5_noteFar_18 : decode cX5_noteFar 18 = .ok (.return_, 1) := by decide +kernel
theorem dX5_dearestLoss_0 : decode cX5_dearestLoss 0 = .ok (.bipush (-4), 2) := by decide +kernel
theorem dX5_dearestLoss_2 : decode cX5_dearestLoss 2 = .ok (.istore_n 2, 1) := by decide +kernel
theorem dX5_dearestLoss_3 : decode cX5_dearestLoss 3 = .ok (.ldc2_w 96, 3) := by decide +kernel
theorem dX5_dearestLoss_6 : decode cX5_dearestLoss 6 = .ok (.lstore_n 3, 1) := by decide +kernel
theorem dX5_dearestLoss_7 : decode cX5_dearestLoss 7 = .ok (.iconst 0, 1) := by decide +kernel
theorem dX5_dearestLoss_8 : decode cX5_dearestLoss 8 = .ok (.istore 5, 2) := by decide +kernel
theorem dX5_dearestLoss_10 : decode cX5_dearestLoss 10 = .ok (.iload 5, 2) := by decide +kernel
theorem dX5_dearestLoss_12 : decode cX5_dearestLoss 12 = .ok (.aload_n 1, 1) := by decide +kernel
theorem dX5_dearestLoss_13 : decode cX5_dearestLoss 13 = .ok (.getfield 24, 3) := by decide +kernel
theorem dX5_dearestLoss_16 : decode cX5_dearestLoss 16 = .ok (.if_icmp .ge 43, 3) := by decide +kernel
theorem dX5_dearestLoss_19 : decode cX5_dearestLoss 19 = .ok (.aload_n 1, 1) := by decide +kernel
theorem dX5_dearestLoss_20 : decode cX5_dearestLoss 20 = .ok (.getfield 98, 3) := by decide +kernel
theorem dX5_dearestLoss_23 : decode cX5_dearestLoss 23 = .ok (.iload 5, 2) := by decide +kernel
theorem dX5_dearestLoss_25 : decode cX5_dearestLoss 25 = .ok (.iaload, 1) := by decide +kernel
theorem dX5_dearestLoss_26 : decode cX5_dearestLoss 26 = .ok (.iconst 3, 1) := by decide +kernel
theorem dX5_dearestLoss_27 : decode cX5_dearestLoss 27 = .ok (.if_icmp .eq 26, 3) := by decide +kernel
theorem dX5_dearestLoss_30 : decode cX5_dearestLoss 30 = .ok (.aload_n 0, 1) := by decide +kernel
theorem dX5_dearestLoss_31 : decode cX5_dearestLoss 31 = .ok (.getfield 9, 3) := by decide +kernel
theorem dX5_dearestLoss_34 : decode cX5_dearestLoss 34 = .ok (.iload 5, 2) := by decide +kernel
theorem dX5_dearestLoss_36 : decode cX5_dearestLoss 36 = .ok (.laload, 1) := by decide +kernel
theorem dX5_dearestLoss_37 : decode cX5_dearestLoss 37 = .ok (.lload_n 3, 1) := by decide +kernel
theorem dX5_dearestLoss_38 : decode cX5_dearestLoss 38 = .ok (.lcmp, 1) := by decide +kernel
theorem dX5_dearestLoss_39 : decode cX5_dearestLoss 39 = .ok (.ifCond .le 14, 3) := by decide +kernel
theorem dX5_dearestLoss_42 : decode cX5_dearestLoss 42 = .ok (.iload 5, 2) := by decide +kernel
theorem dX5_dearestLoss_44 : decode cX5_dearestLoss 44 = .ok (.istore_n 2, 1) := by decide +kernel
theorem dX5_dearestLoss_45 : decode cX5_dearestLoss 45 = .ok (.aload_n 0, 1) := by decide +kernel
theorem dX5_dearestLoss_46 : decode cX5_dearestLoss 46 = .ok (.getfield 9, 3) := by decide +kernel
theorem dX5_dearestLoss_49 : decode cX5_dearestLoss 49 = .ok (.iload 5, 2) := by decide +kernel
theorem dX5_dearestLoss_51 : decode cX5_dearestLoss 51 = .ok (.laload, 1) := by decide +kernel
theorem dX5_dearestLoss_52 : decode cX5_dearestLoss 52 = .ok (.lstore_n 3, 1) := by decide +kernel
theorem dX5_dearestLoss_53 : decode cX5_dearestLoss 53 = .ok (.iinc 5 1, 3) := by decide +kernel
theorem dX5_dearestLoss_56 : decode cX5_dearestLoss 56 = .ok (.goto (-46), 3) := by decide +kernel
theorem dX5_dearestLoss_59 : decode cX5_dearestLoss 59 = .ok (.iload_n 2, 1) := by decide +kernel
theorem dX5_dearestLoss_60 : decode cX5_dearestLoss 60 = .ok (.ireturn, 1) := by decide +kernel
theorem dX6_init_0 : decode cX6_init 0 = .ok (.aload_n 0, 1) := by decide +kernel
theorem dX6_init_1 : decode cX6_init 1 = .ok (.invokespecial 3, 3) := by decide +kernel
theorem dX6_init_4 : decode cX6_init 4 = .ok (.aload_n 0, 1) := by decide +kernel
theorem dX6_init_5 : decode cX6_init 5 = .ok (.iconst 0, 1) := by decide +kernel
theorem dX6_init_6 : decode cX6_init 6 = .ok (.putfield 9, 3) := by decide +kernel
theorem dX6_init_9 : decode cX6_init 9 = .ok (.aload_n 0, 1) := by decide +kernel
theorem dX6_init_10 : decode cX6_init 10 = .ok (.iconst 0, 1) := by decide +kernel
theorem dX6_init_11 : decode cX6_init 11 = .ok (.putfield 15, 3) := by decide +kernel
theorem dX6_init_14 : decode cX6_init 14 = .ok (.aload_n 0, 1) := by decide +kernel
theorem dX6_init_15 : decode cX6_init 15 = .ok (.iconst 3, 1) := by decide +kernel
theorem dX6_init_16 : decode cX6_init 16 = .ok (.putfield 18, 3) := by decide +kernel
theorem dX6_init_19 : decode cX6_init 19 = .ok (.aload_n 0, 1) := by decide +kernel
theorem dX6_init_20 : decode cX6_init 20 = .ok (.bipush 12, 2) := by decide +kernel
theorem dX6_init_22 : decode cX6_init 22 = .ok (.newarray .int, 2) := by decide +kernel
theorem dX6_init_24 : decode cX6_init 24 = .ok (.putfield 21, 3) := by decide +kernel
theorem dX6_init_27 : decode cX6_init 27 = .ok (.aload_n 0, 1) := by decide +kernel
theorem dX6_init_28 : decode cX6_init 28 = .ok (.sipush 144, 3) := by decide +kernel
theorem dX6_init_31 : decode cX6_init 31 = .ok (.newarray .int, 2) := by decide +kernel
theorem dX6_init_33 : decode cX6_init 33 = .ok (.putfield 25, 3) := by decide +kernel
theorem dX6_init_36 : decode cX6_init 36 = .ok (.aload_n 0, 1) := by decide +kernel
theorem dX6_init_37 : decode cX6_init 37 = .ok (.bipush 10, 2) := by decide +kernel
theorem dX6_init_39 : decode cX6_init 39 = .ok (.newarray .int, 2) := by decide +kernel
theorem dX6_init_41 : decode cX6_init 41 = .ok (.putfield 28, 3) := by decide +kernel
theorem dX6_init_44 : decode cX6_init 44 = .ok (.aload_n 0, 1) := by decide +kernel
theorem dX6_init_45 : decode cX6_init 45 = .ok (.bipush 10, 2) := by decide +kernel
theorem dX6_init_47 : decode cX6_init 47 = .ok (.newarray .int, 2) := by decide +kernel
theorem dX6_init_49 : decode cX6_init 49 = .ok (.putfield 31, 3) := by decide +kernel
theorem dX6_init_52 : decode cX6_init 52 = .ok (.aload_n 0, 1) := by decide +kernel
theorem dX6_init_53 : decode cX6_init 53 = .ok (.bipush 10, 2) := by decide +kernel
theorem dX6_init_55 : decode cX6_init 55 = .ok (.newarray .int, 2) := by decide +kernel
theorem dX6_init_57 : decode cX6_init 57 = .ok (.putfield 34, 3) := by decide +kernel
theorem dX6_init_60 : decode cX6_init 60 = .ok (.aload_n 0, 1) := by decide +kernel
theorem dX6_init_61 : decode cX6_init 61 = .ok (.bipush 10, 2) := by decide +kernel
theorem dX6_init_63 : decode cX6_init 63 = .ok (.newarray .int, 2) := by decide +kernel
theorem dX6_init_65 : decode cX6_init 65 = .ok (.putfield 37, 3) := by decide +kernel
theorem dX6_init_68 : decode cX6_init 68 = .ok (.return_, 1) := by decide +kernel
theorem dX6_hasVillage_0 : decode cX6_hasVillage 0 = .ok (.lload_n 1, 1) := by decide +kernel
theorem dX6_hasVillage_1 : decode cX6_hasVillage 1 = .ok (.lconst 0, 1) := by decide +kernel
theorem dX6_hasVillage_2 : decode cX6_hasVillage 2 = .ok (.aload_n 0, 1) := by decide +kernel
theorem dX6_hasVillage_3 : decode cX6_hasVillage 3 = .ok (.getfield 9, 3) := by decide +kernel
theorem dX6_hasVillage_6 : decode cX6_hasVillage 6 = .ok (.iconst 1, 1) := by decide +kernel
theorem dX6_hasVillage_7 : decode cX6_hasVillage 7 = .ok (.isub, 1) := by decide +kernel
theorem dX6_hasVillage_8 : decode cX6_hasVillage 8 = .ok (.i2l, 1) := by decide +kernel
theorem dX6_hasVillage_9 : decode cX6_hasVillage 9 = .ok (.invokestatic 40, 3) := by decide +kernel
theorem dX6_hasVillage_12 : decode cX6_hasVillage 12 = .ok (.ireturn, 1) := by decide +kernel
theorem dX6_hasPlace_0 : decode cX6_hasPlace 0 = .ok (.iload_n 1, 1) := by decide +kernel
theorem dX6_hasPlace_1 : decode cX6_hasPlace 1 = .ok (.i2l, 1) := by decide +kernel
theorem dX6_hasPlace_2 : decode cX6_hasPlace 2 = .ok (.lconst 0, 1) := by decide +kernel
theorem dX6_hasPlace_3 : decode cX6_hasPlace 3 = .ok (.aload_n 0, 1) := by decide +kernel
theorem dX6_hasPlace_4 : decode cX6_hasPlace 4 = .ok (.getfield 15, 3) := by decide +kernel
theorem dX6_hasPlace_7 : decode cX6_hasPlace 7 = .ok (.iconst 1, 1) := by decide +kernel
theorem dX6_hasPlace_8 : decode cX6_hasPlace 8 = .ok (.isub, 1) := by decide +kernel
theorem dX6_hasPlace_9 : decode cX6_hasPlace 9 = .ok (.i2l, 1) := by decide +kernel
theorem dX6_hasPlace_10 : decode cX6_hasPlace 10 = .ok (.invokestatic 40, 3) := by decide +kernel
theorem dX6_hasPlace_13 : decode cX6_hasPlace 13 = .ok (.ireturn, 1) := by decide +kernel
theorem dX6_takesRoad_0 : decode cX6_takesRoad 0 = .ok (.aload_n 0, 1) := by decide +kernel
theorem dX6_takesRoad_1 : decode cX6_takesRoad 1 = .ok (.lload_n 1, 1) := by decide +kernel
theorem dX6_takesRoad_2 : decode cX6_takesRoad 2 = .ok (.invokevirtual 44, 3) := by decide +kernel
theorem dX6_takesRoad_5 : decode cX6_takesRoad 5 = .ok (.ifCond .eq 33, 3) := by decide +kernel
theorem dX6_takesRoad_8 : decode cX6_takesRoad 8 = .ok (.aload_n 0, 1) := by decide +kernel
theorem dX6_takesRoad_9 : decode cX6_takesRoad 9 = .ok (.lload_n 3, 1) := by decide +kernel
theorem dX6_takesRoad_10 : decode cX6_takesRoad 10 = .ok (.invokevirtual 44, 3) := by decide +kernel
theorem dX6_takesRoad_13 : decode cX6_takesRoad 13 = .ok (.ifCond .eq 25, 3) := by decide +kernel
theorem dX6_takesRoad_16 : decode cX6_takesRoad 16 = .ok (.lload_n 1, 1) := by decide +kernel
theorem dX6_takesRoad_17 : decode cX6_takesRoad 17 = .ok (.lload_n 3, 1) := by decide +kernel
theorem dX6_takesRoad_18 : decode cX6_takesRoad 18 = .ok (.lcmp, 1) := by decide +kernel
theorem dX6_takesRoad_19 : decode cX6_takesRoad 19 = .ok (.ifCond .eq 19, 3) := by decide +kernel
theorem dX6_takesRoad_22 : decode cX6_takesRoad 22 = .ok (.lload 5, 2) := by decide +kernel
theorem dX6_takesRoad_24 : decode cX6_takesRoad 24 = .ok (.lconst 0, 1) := by decide +kernel
theorem dX6_takesRoad_25 : decode cX6_takesRoad 25 = .ok (.ldc2_w 48, 3) := by decide +kernel
theorem dX6_takesRoad_28 : decode cX6_takesRoad 28 = .ok (.invokestatic 40, 3) := by decide +kernel
theorem dX6_takesRoad_31 : decode cX6_takesRoad 31 = .ok (.ifCond .eq 7, 3) := by decide +kernel
theorem dX6_takesRoad_34 : decode cX6_takesRoad 34 = .ok (.iconst 1, 1) := by decide +kernel
theorem dX6_takesRoad_35 : decode cX6_takesRoad 35 = .ok (.goto 4, 3) := by decide +kernel
theorem dX6_takesRoad_38 : decode cX6_takesRoad 38 = .ok (.iconst 0, 1) := by decide +kernel
theorem dX6_takesRoad_39 : decode cX6_takesRoad 39 = .ok (.ireturn, 1) := by decide +kernel
theorem dX6_settle_0 : decode cX6_settle 0 = .ok (.aload_n 0, 1) := by decide +kernel
theorem dX6_settle_1 : decode cX6_settle 1 = .ok (.getfield 21, 3) := by decide +kernel
theorem dX6_settle_4 : decode cX6_settle 4 = .ok (.aload_n 0, 1) := by decide +kernel
theorem dX6_settle_5 : decode cX6_settle 5 = .ok (.getfield 9, 3) := by decide +kernel
theorem dX6_settle_8 : decode cX6_settle 8 = .ok (.iload_n 1, 1) := by decide +kernel
theorem dX6_settle_9 : decode cX6_settle 9 = .ok (.iastore, 1) := by decide +kernel
theorem dX6_settle_10 : decode cX6_settle 10 = .ok (.aload_n 0, 1) := by decide +kernel
theorem dX6_settle_11 : decode cX6_settle 11 = .ok (.dup, 1) := by decide +kernel
theorem dX6_settle_12 : decode cX6_settle 12 = .ok (.getfield 9, 3) := by decide +kernel
theorem dX6_settle_15 : decode cX6_settle 15 = .ok (.iconst 1, 1) := by decide +kernel
theorem dX6_settle_16 : decode cX6_settle 16 = .ok (.iadd, 1) := by decide +kernel
theorem dX6_settle_17 : decode cX6_settle 17 = .ok (.putfield 9, 3) := by decide +kernel
theorem dX6_settle_20 : decode cX6_settle 20 = .ok (.aload_n 0, 1) := by decide +kernel
theorem dX6_settle_21 : decode cX6_settle 21 = .ok (.getfield 9, 3) := by decide +kernel
theorem dX6_settle_24 : decode cX6_settle 24 = .ok (.iconst 1, 1) := by decide +kernel
theorem dX6_settle_25 : decode cX6_settle 25 = .ok (.isub, 1) := by decide +kernel
theorem dX6_settle_26 : decode cX6_settle 26 = .ok (.ireturn, 1) := by decide +kernel
theorem dX6_stake_0 : decode cX6_stake 0 = .ok (.aload_n 0, 1) := by decide +kernel
theorem dX6_stake_1 : decode cX6_stake 1 = .ok (.getfield 28, 3) := by decide +kernel
theorem dX6_stake_4 : decode cX6_stake 4 = .ok (.aload_n 0, 1) := by decide +kernel
theorem dX6_stake_5 : decode cX6_stake 5 = .ok (.getfield 15, 3) := by decide +kernel
theorem dX6_stake_8 : decode cX6_stake 8 = .ok (.iload_n 1, 1) := by decide +kernel
theorem dX6_stake_9 : decode cX6_stake 9 = .ok (.iastore, 1) := by decide +kernel
theorem dX6_stake_10 : decode cX6_stake 10 = .ok (.aload_n 0, 1) := by decide +kernel
theorem dX6_stake_11 : decode cX6_stake 11 = .ok (.getfield 31, 3) := by decide +kernel
theorem dX6_stake_14 : decode cX6_stake 14 = .ok (.aload_n 0, 1) := by decide +kernel
theorem dX6_stake_15 : decode cX6_stake 15 = .ok (.getfield 15, 3) := by decide +kernel
theorem dX6_stake_18 : decode cX6_stake 18 = .ok (.iload_n 2, 1) := by decide +kernel
theorem dX6_stake_19 : decode cX6_stake 19 = .ok (.iastore, 1) := by decide +kernel
theorem dX6_stake_20 : decode cX6_stake 20 = .ok (.aload_n 0, 1) := by decide +kernel
theorem dX6_stake_21 : decode cX6_stake 21 = .ok (.getfield 34, 3) := by decide +kernel
theorem dX6_stake_24 : decode cX6_stake 24 = .ok (.aload_n 0, 1) := by decide +kernel
theorem dX6_stake_25 : decode cX6_stake 25 = .ok (.getfield 15, 3) := by decide +kernel
theorem dX6_stake_28 : decode cX6_stake 28 = .ok (.iload_n 3, 1) := by decide +kernel
theorem dX6_stake_29 : decode cX6_stake 29 = .ok (.iastore, 1) := by decide +kernel
theorem dX6_stake_30 : decode cX6_stake 30 = .ok (.aload_n 0, 1) := by decide +kernel
theorem dX6_stake_31 : decode cX6_stake 31 = .ok (.getfield 37, 3) := by decide +kernel
theorem dX6_stake_34 : decode cX6_stake 34 = .ok (.aload_n 0, 1) := by decide +kernel
theorem dX6_stake_35 : decode cX6_stake 35 = .ok (.getfield 15, 3) := by decide +kernel
theorem dX6_stake_38 : decode cX6_stake 38 = .ok (.bipush 20, 2) := by decide +kernel
theorem dX6_stake_40 : decode cX6_stake 40 = .ok (.iastore, 1) := by decide +kernel
theorem dX6_stake_41 : decode cX6_stake 41 = .ok (.aload_n 0, 1) := by decide +kernel
theorem dX6_stake_42 : decode cX6_stake 42 = .ok (.dup, 1) := by decide +kernel
theorem dX6_stake_43 : decode cX6_stake 43 = .ok (.getfield 15, 3) := by decide +kernel
theorem dX6_stake_46 : decode cX6_stake 46 = .ok (.iconst 1, 1) := by decide +kernel
theorem dX6_stake_47 : decode cX6_stake 47 = .ok (.iadd, 1) := by decide +kernel
theorem dX6_stake_48 : decode cX6_stake 48 = .ok (.putfield 15, 3) := by decide +kernel
theorem dX6_stake_51 : decode cX6_stake 51 = .ok (.aload_n 0, 1) := by decide +kernel
theorem dX6_stake_52 : decode cX6_stake 52 = .ok (.getfield 15, 3) := by decide +kernel
theorem dX6_stake_55 : decode cX6_stake 55 = .ok (.iconst 1, 1) := by decide +kernel
theorem dX6_stake_56 : decode cX6_stake 56 = .ok (.isub, 1) := by decide +kernel
theorem dX6_stake_57 : decode cX6_stake 57 = .ok (.ireturn, 1) := by decide +kernel
theorem dX6_lengthOf_0 : decode cX6_lengthOf 0 = .ok (.aload_n 0, 1) := by decide +kernel
theorem dX6_lengthOf_1 : decode cX6_lengthOf 1 = .ok (.getfield 25, 3) := by decide +kernel
theorem dX6_lengthOf_4 : decode cX6_lengthOf 4 = .ok (.iload_n 1, 1) := by decide +kernel
theorem dX6_lengthOf_5 : decode cX6_lengthOf 5 = .ok (.bipush 12, 2) := by decide +kernel
theorem dX6_lengthOf_7 : decode cX6_lengthOf 7 = .ok (.imul, 1) := by decide +kernel
theorem dX6_lengthOf_8 : decode cX6_lengthOf 8 = .ok (.iload_n 2, 1) := by decide +kernel
theorem dX6_lengthOf_9 : decode cX6_lengthOf 9 = .ok (.iadd, 1) := by decide +kernel
theorem dX6_lengthOf_10 : decode cX6_lengthOf 10 = .ok (.iaload, 1) := by decide +kernel
theorem dX6_lengthOf_11 : decode cX6_lengthOf 11 = .ok (.ireturn, 1) := by decide +kernel
theorem dX6_pave_0 : decode cX6_pave 0 = .ok (.aload_n 0, 1) := by decide +kernel
theorem dX6_pave_1 : decode cX6_pave 1 = .ok (.getfield 25, 3) := by decide +kernel
theorem dX6_pave_4 : decode cX6_pave 4 = .ok (.iload_n 1, 1) := by decide +kernel
theorem dX6_pave_5 : decode cX6_pave 5 = .ok (.bipush 12, 2) := by decide +kernel
theorem dX6_pave_7 : decode cX6_pave 7 = .ok (.imul, 1) := by decide +kernel
theorem dX6_pave_8 : decode cX6_pave 8 = .ok (.iload_n 2, 1) := by decide +kernel
theorem dX6_pave_9 : decode cX6_pave 9 = .ok (.iadd, 1) := by decide +kernel
theorem dX6_pave_10 : decode cX6_pave 10 = .ok (.iload_n 3, 1) := by decide +kernel
theorem dX6_pave_11 : decode cX6_pave 11 = .ok (.iastore, 1) := by decide +kernel
theorem dX6_pave_12 : decode cX6_pave 12 = .ok (.aload_n 0, 1) := by decide +kernel
theorem dX6_pave_13 : decode cX6_pave 13 = .ok (.getfield 25, 3) := by decide +kernel
theorem dX6_pave_16 : decode cX6_pave 16 = .ok (.iload_n 2, 1) := by decide +kernel
theorem dX6_pave_17 : decode cX6_pave 17 = .ok (.bipush 12, 2) := by decide +kernel
theorem dX6_pave_19 : decode cX6_pave 19 = .ok (.imul, 1) := by decide +kernel
theorem dX6_pave_20 : decode cX6_pave 20 = .ok (.iload_n 1, 1) := by decide +kernel
theorem dX6_pave_21 : decode cX6_pave 21 = .ok (.iadd, 1) := by decide +kernel
theorem dX6_pave_22 : decode cX6_pave 22 = .ok (.iload_n 3, 1) := by decide +kernel
theorem dX6_pave_23 : decode cX6_pave 23 = .ok (.iastore, 1) := by decide +kernel
theorem dX6_pave_24 : decode cX6_pave 24 = .ok (.return_, 1) := by decide +kernel
theorem dX6_roads_0 : decode cX6_roads 0 = .ok (.iconst 0, 1) := by decide +kernel
theorem dX6_roads_1 : decode cX6_roads 1 = .ok (.istore_n 1, 1) := by decide +kernel
theorem dX6_roads_2 : decode cX6_roads 2 = .ok (.iconst 0, 1) := by decide +kernel
theorem dX6_roads_3 : decode cX6_roads 3 = .ok (.istore_n 2, 1) := by decide +kernel
theorem dX6_roads_4 : decode cX6_roads 4 = .ok (.iload_n 2, 1) := by decide +kernel
theorem dX6_roads_5 : decode cX6_roads 5 = .ok (.aload_n 0, 1) := by decide +kernel
theorem dX6_roads_6 : decode cX6_roads 6 = .ok (.getfield 9, 3) := by decide +kernel
theorem dX6_roads_9 : decode cX6_roads 9 = .ok (.if_icmp .ge 39, 3) := by decide +kernel
theorem dX6_roads_12 : decode cX6_roads 12 = .ok (.iconst 0, 1) := by decide +kernel
theorem dX6_roads_13 : decode cX6_roads 13 = .ok (.istore_n 3, 1) := by decide +kernel
theorem dX6_roads_14 : decode cX6_roads 14 = .ok (.iload_n 3, 1) := by decide +kernel
theorem dX6_roads_15 : decode cX6_roads 15 = .ok (.iload_n 2, 1) := by decide +kernel
theorem dX6_roads_16 : decode cX6_roads 16 = .ok (.if_icmp .ge 26, 3) := by decide +kernel
theorem dX6_roads_19 : decode cX6_roads 19 = .ok (.iload_n 1, 1) := by decide +kernel
theorem dX6_roads_20 : decode cX6_roads 20 = .ok (.aload_n 0, 1) := by decide +kernel
theorem dX6_roads_21 : decode cX6_roads 21 = .ok (.iload_n 2, 1) := by decide +kernel
theorem dX6_roads_22 : decode cX6_roads 22 = .ok (.iload_n 3, 1) := by decide +kernel
theorem dX6_roads_23 : decode cX6_roads 23 = .ok (.invokevirtual 50, 3) := by decide +kernel
theorem dX6_roads_26 : decode cX6_roads 26 = .ok (.ifCond .le 7, 3) := by decide +kernel
theorem dX6_roads_29 : decode cX6_roads 29 = .ok (.iconst 1, 1) := by decide +kernel
theorem dX6_roads_30 : decode cX6_roads 30 = .ok (.goto 4, 3) := by decide +kernel
theorem dX6_roads_33 : decode cX6_roads 33 = .ok (.iconst 0, 1) := by decide +kernel
theorem dX6_roads_34 : decode cX6_roads 34 = .ok (.iadd, 1) := by decide +kernel
theorem dX6_roads_35 : decode cX6_roads 35 = .ok (.istore_n 1, 1) := by decide +kernel
theorem dX6_roads_36 : decode cX6_roads 36 = .ok (.iinc 3 1, 3) := by decide +kernel
theorem dX6_roads_39 : decode cX6_roads 39 = .ok (.goto (-25), 3) := by decide +kernel
theorem dX6_roads_42 : decode cX6_roads 42 = .ok (.iinc 2 1, 3) := by decide +kernel
theorem dX6_roads_45 : decode cX6_roads 45 = .ok (.goto (-41), 3) := by decide +kernel
theorem dX6_roads_48 : decode cX6_roads 48 = .ok (.iload_n 1, 1) := by decide +kernel
theorem dX6_roads_49 : decode cX6_roads 49 = .ok (.ireturn, 1) := by decide +kernel
theorem dX6_allLoaves_0 : decode cX6_allLoaves 0 = .ok (.iconst 0, 1) := by decide +kernel
theorem dX6_allLoaves_1 : decode cX6_allLoaves 1 = .ok (.istore_n 1, 1) := by decide +kernel
theorem dX6_allLoaves_2 : decode cX6_allLoaves 2 = .ok (.iconst 0, 1) := by decide +kernel
theorem dX6_allLoaves_3 : decode cX6_allLoaves 3 = .ok (.istore_n 2, 1) := by decide +kernel
theorem dX6_allLoaves_4 : decode cX6_allLoaves 4 = .ok (.iload_n 2, 1) := by decide +kernel
theorem dX6_allLoaves_5 : decode cX6_allLoaves 5 = .ok (.aload_n 0, 1) := by decide +kernel
theorem dX6_allLoaves_6 : decode cX6_allLoaves 6 = .ok (.getfield 9, 3) := by decide +kernel
theorem dX6_allLoaves_9 : decode cX6_allLoaves 9 = .ok (.if_icmp .ge 18, 3) := by decide +kernel
theorem dX6_allLoaves_12 : decode cX6_allLoaves 12 = .ok (.iload_n 1, 1) := by decide +kernel
theorem dX6_allLoaves_13 : decode cX6_allLoaves 13 = .ok (.aload_n 0, 1) := by decide +kernel
theorem dX6_allLoaves_14 : decode cX6_allLoaves 14 = .ok (.getfield 21, 3) := by decide +kernel
theorem dX6_allLoaves_17 : decode cX6_allLoaves 17 = .ok (.iload_n 2, 1) := by decide +kernel
theorem dX6_allLoaves_18 : decode cX6_allLoaves 18 = .ok (.iaload, 1) := by decide +kernel
theorem dX6_allLoaves_19 : decode cX6_allLoaves 19 = .ok (.iadd, 1) := by decide +kernel
theorem dX6_allLoaves_20 : decode cX6_allLoaves 20 = .ok (.istore_n 1, 1) := by decide +kernel
theorem dX6_allLoaves_21 : decode cX6_allLoaves 21 = .ok (.iinc 2 1, 3) := by decide +kernel
theorem dX6_allLoaves_24 : decode cX6_allLoaves 24 = .ok (.goto (-20), 3) := by decide +kernel
theorem dX6_allLoaves_27 : decode cX6_allLoaves 27 = .ok (.iload_n 1, 1) := by decide +kernel
theorem dX6_allLoaves_28 : decode cX6_allLoaves 28 = .ok (.ireturn, 1) := by decide +kernel
theorem dX6_placesOfKind_0 : decode cX6_placesOfKind 0 = .ok (.iconst 0, 1) := by decide +kernel
theorem dX6_placesOfKind_1 : decode cX6_placesOfKind 1 = .ok (.istore_n 2, 1) := by decide +kernel
theorem dX6_placesOfKind_2 : decode cX6_placesOfKind 2 = .ok (.iconst 0, 1) := by decide +kernel
theorem dX6_placesOfKind_3 : decode cX6_placesOfKind 3 = .ok (.istore_n 3, 1) := by decide +kernel
theorem dX6_placesOfKind_4 : decode cX6_placesOfKind 4 = .ok (.iload_n 3, 1) := by decide +kernel
theorem dX6_placesOfKind_5 : decode cX6_placesOfKind 5 = .ok (.aload_n 0, 1) := by decide +kernel
theorem dX6_placesOfKind_6 : decode cX6_placesOfKind 6 = .ok (.getfield 15, 3) := by decide +kernel
theorem dX6_placesOfKind_9 : decode cX6_placesOfKind 9 = .ok (.if_icmp .ge 29, 3) := by decide +kernel
theorem dX6_placesOfKind_12 : decode cX6_placesOfKind 12 = .ok (.iload_n 2, 1) := by decide +kernel
theorem dX6_placesOfKind_13 : decode cX6_placesOfKind 13 = .ok (.aload_n 0, 1) := by decide +kernel
theorem dX6_placesOfKind_14 : decode cX6_placesOfKind 14 = .ok (.getfield 31, 3) := by decide +kernel
theorem dX6_placesOfKind_17 : decode cX6_placesOfKind 17 = .ok (.iload_n 3, 1) := by decide +kernel
theorem dX6_placesOfKind_18 : decode cX6_placesOfKind 18 = .ok (.iaload, 1) := by decide +kernel
theorem dX6_placesOfKind_19 : decode cX6_placesOfKind 19 = .ok (.iload_n 1, 1) := by decide +kernel
theorem dX6_placesOfKind_20 : decode cX6_placesOfKind 20 = .ok (.if_icmp .ne 9, 3) := by decide +kernel
theorem dX6_placesOfKind_23 : decode cX6_placesOfKind 23 = .ok (.iconst 1, 1) := by decide +kernel
theorem dX6_placesOfKind_24 : decode cX6_placesOfKind 24 = .ok (.iload_n 3, 1) := by decide +kernel
theorem dX6_placesOfKind_25 : decode cX6_placesOfKind 25 = .ok (.ishl, 1) := by decide +kernel
theorem dX6_placesOfKind_26 : decode cX6_placesOfKind 26 = .ok (.goto 4, 3) := by decide +kernel
theorem dX6_placesOfKind_29 : decode cX6_placesOfKind 29 = .ok (.iconst 0, 1) := by decide +kernel
theorem dX6_placesOfKind_30 : decode cX6_placesOfKind 30 = .ok (.ior, 1) := by decide +kernel
theorem dX6_placesOfKind_31 : decode cX6_placesOfKind 31 = .ok (.istore_n 2, 1) := by decide +kernel
theorem dX6_placesOfKind_32 : decode cX6_placesOfKind 32 = .ok (.iinc 3 1, 3) := by decide +kernel
theorem dX6_placesOfKind_35 : decode cX6_placesOfKind 35 = .ok (.goto (-31), 3) := by decide +kernel
theorem dX6_placesOfKind_38 : decode cX6_placesOfKind 38 = .ok (.iload_n 2, 1) := by decide +kernel
theorem dX6_placesOfKind_39 : decode cX6_placesOfKind 39 = .ok (.ireturn, 1) := by decide +kernel
theorem dX6_ovenCost_0 : decode cX6_ovenCost 0 = .ok (.aload_n 0, 1) := by decide +kernel
theorem dX6_ovenCost_1 : decode cX6_ovenCost 1 = .ok (.getfield 31, 3) := by decide +kernel
theorem dX6_ovenCost_4 : decode cX6_ovenCost 4 = .ok (.iload_n 1, 1) := by decide +kernel
theorem dX6_ovenCost_5 : decode cX6_ovenCost 5 = .ok (.iaload, 1) := by decide +kernel
theorem dX6_ovenCost_6 : decode cX6_ovenCost 6 = .ok (.iconst 2, 1) := by decide +kernel
theorem dX6_ovenCost_7 : decode cX6_ovenCost 7 = .ok (.if_icmp .eq 13, 3) := by decide +kernel
theorem dX6_ovenCost_10 : decode cX6_ovenCost 10 = .ok (.aload_n 0, 1) := by decide +kernel
theorem dX6_ovenCost_11 : decode cX6_ovenCost 11 = .ok (.getfield 31, 3) := by decide +kernel
theorem dX6_ovenCost_14 : decode cX6_ovenCost 14 = .ok (.iload_n 1, 1) := by decide +kernel
theorem dX6_ovenCost_15 : decode cX6_ovenCost 15 = .ok (.iaload, 1) := by decide +kernel
theorem dX6_ovenCost_16 : decode cX6_ovenCost 16 = .ok (.iconst 3, 1) := by decide +kernel
theorem dX6_ovenCost_17 : decode cX6_ovenCost 17 = .ok (.if_icmp .ne 7, 3) := by decide +kernel
theorem dX6_ovenCost_20 : decode cX6_ovenCost 20 = .ok (.iconst 0, 1) := by decide +kernel
theorem dX6_ovenCost_21 : decode cX6_ovenCost 21 = .ok (.goto 9, 3) := by decide +kernel
theorem dX6_ovenCost_24 : decode cX6_ovenCost 24 = .ok (.aload_n 0, 1) := by decide +kernel
theorem dX6_ovenCost_25 : decode cX6_ovenCost 25 = .ok (.getfield 34, 3) := by decide +kernel
theorem dX6_ovenCost_28 : decode cX6_ovenCost 28 = .ok (.iload_n 1, 1) := by decide +kernel
theorem dX6_ovenCost_29 : decode cX6_ovenCost 29 = .ok (.iaload, 1) := by decide +kernel
theorem dX6_ovenCost_30 : decode cX6_ovenCost 30 = .ok (.ireturn, 1) := by decide +kernel
theorem dX6_copyFrom_0 : decode cX6_copyFrom 0 = .ok (.aload_n 0, 1) := by decide +kernel
theorem dX6_copyFrom_1 : decode cX6_copyFrom 1 = .ok (.aload_n 1, 1) := by decide +kernel
theorem dX6_copyFrom_2 : decode cX6_copyFrom 2 = .ok (.getfield 9, 3) := by decide +kernel
theorem dX6_copyFrom_5 : decode cX6_copyFrom 5 = .ok (.putfield 9, 3) := by decide +kernel
theorem dX6_copyFrom_8 : decode cX6_copyFrom 8 = .ok (.aload_n 0, 1) := by decide +kernel
theorem dX6_copyFrom_9 : decode cX6_copyFrom 9 = .ok (.aload_n 1, 1) := by decide +kernel
theorem dX6_copyFrom_10 : decode cX6_copyFrom 10 = .ok (.getfield 15, 3) := by decide +kernel
theorem dX6_copyFrom_13 : decode cX6_copyFrom 13 = .ok (.putfield 15, 3) := by decide +kernel
theorem dX6_copyFrom_16 : decode cX6_copyFrom 16 = .ok (.aload_n 0, 1) := by decide +kernel
theorem dX6_copyFrom_17 : decode cX6_copyFrom 17 = .ok (.aload_n 1, 1) := by decide +kernel
theorem dX6_copyFrom_18 : decode cX6_copyFrom 18 = .ok (.getfield 18, 3) := by decide +kernel
theorem dX6_copyFrom_21 : decode cX6_copyFrom 21 = .ok (.putfield 18, 3) := by decide +kernel
theorem dX6_copyFrom_24 : decode cX6_copyFrom 24 = .ok (.aload_n 1, 1) := by decide +kernel
theorem dX6_copyFrom_25 : decode cX6_copyFrom 25 = .ok (.getfield 21, 3) := by decide +kernel
theorem dX6_copyFrom_28 : decode cX6_copyFrom 28 = .ok (.iconst 0, 1) := by decide +kernel
theorem dX6_copyFrom_29 : decode cX6_copyFrom 29 = .ok (.aload_n 0, 1) := by decide +kernel
theorem dX6_copyFrom_30 : decode cX6_copyFrom 30 = .ok (.getfield 21, 3) := by decide +kernel
theorem dX6_copyFrom_33 : decode cX6_copyFrom 33 = .ok (.iconst 0, 1) := by decide +kernel
theorem dX6_copyFrom_34 : decode cX6_copyFrom 34 = .ok (.bipush 12, 2) := by decide +kernel
theorem dX6_copyFrom_36 : decode cX6_copyFrom 36 = .ok (.invokestatic 54, 3) := by decide +kernel
theorem dX6_copyFrom_39 : decode cX6_copyFrom 39 = .ok (.aload_n 1, 1) := by decide +kernel
theorem dX6_copyFrom_40 : decode cX6_copyFrom 40 = .ok (.getfield 25, 3) := by decide +kernel
theorem dX6_copyFrom_43 : decode cX6_copyFrom 43 = .ok (.iconst 0, 1) := by decide +kernel
theorem dX6_copyFrom_44 : decode cX6_copyFrom 44 = .ok (.aload_n 0, 1) := by decide +kernel
theorem dX6_copyFrom_45 : decode cX6_copyFrom 45 = .ok (.getfield 25, 3) := by decide +kernel
theorem dX6_copyFrom_48 : decode cX6_copyFrom 48 = .ok (.iconst 0, 1) := by decide +kernel
theorem dX6_copyFrom_49 : decode cX6_copyFrom 49 = .ok (.sipush 144, 3) := by decide +kernel
theorem dX6_copyFrom_52 : decode cX6_copyFrom 52 = .ok (.invokestatic 54, 3) := by decide +kernel
theorem dX6_copyFrom_55 : decode cX6_copyFrom 55 = .ok (.aload_n 1, 1) := by decide +kernel
theorem dX6_copyFrom_56 : decode cX6_copyFrom 56 = .ok (.getfield 28, 3) := by decide +kernel
theorem dX6_copyFrom_59 : decode cX6_copyFrom 59 = .ok (.iconst 0, 1) := by decide +kernel
theorem dX6_copyFrom_60 : decode cX6_copyFrom 60 = .ok (.aload_n 0, 1) := by decide +kernel
theorem dX6_copyFrom_61 : decode cX6_copyFrom 61 = .ok (.getfield 28, 3) := by decide +kernel
theorem dX6_copyFrom_64 : decode cX6_copyFrom 64 = .ok (.iconst 0, 1) := by decide +kernel
theorem dX6_copyFrom_65 : decode cX6_copyFrom 65 = .ok (.bipush 10, 2) := by decide +kernel
theorem dX6_copyFrom_67 : decode cX6_copyFrom 67 = .ok (.invokestatic 54, 3) := by decide +kernel
theorem dX6_copyFrom_70 : decode cX6_copyFrom 70 = .ok (.aload_n 1, 1) := by decide +kernel
theorem dX6_copyFrom_71 : decode cX6_copyFrom 71 = .ok (.getfield 31, 3) := by decide +kernel
theorem dX6_copyFrom_74 : decode cX6_copyFrom 74 = .ok (.iconst 0, 1) := by decide +kernel
theorem dX6_copyFrom_75 : decode cX6_copyFrom 75 = .ok (.aload_n 0, 1) := by decide +kernel
theorem dX6_copyFrom_76 : decode cX6_copyFrom 76 = .ok (.getfield 31, 3) := by decide +kernel
theorem dX6_copyFrom_79 : decode cX6_copyFrom 79 = .ok (.iconst 0, 1) := by decide +kernel
theorem dX6_copyFrom_80 : decode cX6_copyFrom 80 = .ok (.bipush 10, 2) := by decide +kernel
theorem dX6_copyFrom_82 : decode cX6_copyFrom 82 = .ok (.invokestatic 54, 3) := by decide +kernel
theorem dX6_copyFrom_85 : decode cX6_copyFrom 85 = .ok (.aload_n 1, 1) := by decide +kernel
theorem dX6_copyFrom_86 : decode cX6_copyFrom 86 = .ok (.getfield 34, 3) := by decide +kernel
theorem dX6_copyFrom_89 : decode cX6_copyFrom 89 = .ok (.iconst 0, 1) := by decide +kernel
theorem dX6_copyFrom_90 : decode cX6_copyFrom 90 = .ok (.aload_n 0, 1) := by decide +kernel
theorem dX6_copyFrom_91 : decode cX6_copyFrom 91 = .ok (.getfield 34, 3) := by decide +kernel
theorem dX6_copyFrom_94 : decode cX6_copyFrom 94 = .ok (.iconst 0, 1) := by decide +kernel
theorem dX6_copyFrom_95 : decode cX6_copyFrom 95 = .ok (.bipush 10, 2) := by decide +kernel
theorem dX6_copyFrom_97 : decode cX6_copyFrom 97 = .ok (.invokestatic 54, 3) := by decide +kernel
theorem dX6_copyFrom_100 : decode cX6_copyFrom 100 = .ok (.aload_n 1, 1) := by decide +kernel
theorem dX6_copyFrom_101 : decode cX6_copyFrom 101 = .ok (.getfield 37, 3) := by decide +kernel
theorem dX6_copyFrom_104 : decode cX6_copyFrom 104 = .ok (.iconst 0, 1) := by decide +kernel
theorem dX6_copyFrom_105 : decode cX6_copyFrom 105 = .ok (.aload_n 0, 1) := by decide +kernel
theorem dX6_copyFrom_106 : decode cX6_copyFrom 106 = .ok (.getfield 37, 3) := by decide +kernel
theorem dX6_copyFrom_109 : decode cX6_copyFrom 109 = .ok (.iconst 0, 1) := by decide +kernel
theorem dX6_copyFrom_110 : decode cX6_copyFrom 110 = .ok (.bipush 10, 2) := by decide +kernel
theorem dX6_copyFrom_112 : decode cX6_copyFrom 112 = .ok (.invokestatic 54, 3) := by decide +kernel
theorem dX6_copyFrom_115 : decode cX6_copyFrom 115 = .ok (.return_, 1) := by decide +kernel
theorem dX6_isLike_0 : decode cX6_isLike 0 = .ok (.aload_n 0, 1) := by decide +kernel
theorem dX6_isLike_1 : decode cX6_isLike 1 = .ok (.getfield 9, 3) := by decide +kernel
theorem dX6_isLike_4 : decode cX6_isLike 4 = .ok (.aload_n 1, 1) := by decide +kernel
theorem dX6_isLike_5 : decode cX6_isLike 5 = .ok (.getfield 9, 3) := by decide +kernel
theorem dX6_isLike_8 : decode cX6_isLike 8 = .ok (.if_icmp .ne 71, 3) := by decide +kernel
theorem dX6_isLike_11 : decode cX6_isLike 11 = .ok (.aload_n 0, 1) := by decide +kernel
theorem dX6_isLike_12 : decode cX6_isLike 12 = .ok (.getfield 15, 3) := by decide +kernel
theorem dX6_isLike_15 : decode cX6_isLike 15 = .ok (.aload_n 1, 1) := by decide +kernel
theorem dX6_isLike_16 : decode cX6_isLike 16 = .ok (.getfield 15, 3) := by decide +kernel
theorem dX6_isLike_19 : decode cX6_isLike 19 = .ok (.if_icmp .ne 60, 3) := by decide +kernel
theorem dX6_isLike_22 : decode cX6_isLike 22 = .ok (.aload_n 0, 1) := by decide +kernel
theorem dX6_isLike_23 : decode cX6_isLike 23 = .ok (.getfield 18, 3) := by decide +kernel
theorem dX6_isLike_26 : decode cX6_isLike 26 = .ok (.aload_n 1, 1) := by decide +kernel
theorem dX6_isLike_27 : decode cX6_isLike 27 = .ok (.getfield 18, 3) := by decide +kernel
theorem dX6_isLike_30 : decode cX6_isLike 30 = .ok (.if_icmp .ne 49, 3) := by decide +kernel
theorem dX6_isLike_33 : decode cX6_isLike 33 = .ok (.aload_n 0, 1) := by decide +kernel
theorem dX6_isLike_34 : decode cX6_isLike 34 = .ok (.getfield 21, 3) := by decide +kernel
theorem dX6_isLike_37 : decode cX6_isLike 37 = .ok (.aload_n 1, 1) := by decide +kernel
theorem dX6_isLike_38 : decode cX6_isLike 38 = .ok (.getfield 21, 3) := by decide +kernel
theorem dX6_isLike_41 : decode cX6_isLike 41 = .ok (.invokestatic 60, 3) := by decide +kernel
theorem dX6_isLike_44 : decode cX6_isLike 44 = .ok (.ifCond .eq 35, 3) := by decide +kernel
theorem dX6_isLike_47 : decode cX6_isLike 47 = .ok (.aload_n 0, 1) := by decide +kernel
theorem dX6_isLike_48 : decode cX6_isLike 48 = .ok (.getfield 25, 3) := by decide +kernel
theorem dX6_isLike_51 : decode cX6_isLike 51 = .ok (.aload_n 1, 1) := by decide +kernel
theorem dX6_isLike_52 : decode cX6_isLike 52 = .ok (.getfield 25, 3) := by decide +kernel
theorem dX6_isLike_55 : decode cX6_isLike 55 = .ok (.invokestatic 60, 3) := by decide +kernel
theorem dX6_isLike_58 : decode cX6_isLike 58 = .ok (.ifCond .eq 21, 3) := by decide +kernel
theorem dX6_isLike_61 : decode cX6_isLike 61 = .ok (.aload_n 0, 1) := by decide +kernel
theorem dX6_isLike_62 : decode cX6_isLike 62 = .ok (.getfield 37, 3) := by decide +kernel
theorem dX6_isLike_65 : decode cX6_isLike 65 = .ok (.aload_n 1, 1) := by decide +kernel
theorem dX6_isLike_66 : decode cX6_isLike 66 = .ok (.getfield 37, 3) := by decide +kernel
theorem dX6_isLike_69 : decode cX6_isLike 69 = .ok (.invokestatic 60, 3) := by decide +kernel
theorem dX6_isLike_72 : decode cX6_isLike 72 = .ok (.ifCond .eq 7, 3) := by decide +kernel
theorem dX6_isLike_75 : decode cX6_isLike 75 = .ok (.iconst 1, 1) := by decide +kernel
theorem dX6_isLike_76 : decode cX6_isLike 76 = .ok (.goto 4, 3) := by decide +kernel
theorem dX6_isLike_79 : decode cX6_isLike 79 = .ok (.iconst 0, 1) := by decide +kernel
theorem dX6_isLike_80 : decode cX6_isLike 80 = .ok (.ireturn, 1) := by decide +kernel
theorem dX6_sameRows_0 : decode cX6_sameRows 0 = .ok (.iconst 0, 1) := by decide +kernel
theorem dX6_sameRows_1 : decode cX6_sameRows 1 = .ok (.istore_n 2, 1) := by decide +kernel
theorem dX6_sameRows_2 : decode cX6_sameRows 2 = .ok (.iload_n 2, 1) := by decide +kernel
theorem dX6_sameRows_3 : decode cX6_sameRows 3 = .ok (.aload_n 0, 1) := by decide +kernel
theorem dX6_sameRows_4 : decode cX6_sameRows 4 = .ok (.arraylength, 1) := by decide +kernel
theorem dX6_sameRows_5 : decode cX6_sameRows 5 = .ok (.if_icmp .ge 26, 3) := by decide +kernel
theorem dX6_sameRows_8 : decode cX6_sameRows 8 = .ok (.iload_n 2, 1) := by decide +kernel
theorem dX6_sameRows_9 : decode cX6_sameRows 9 = .ok (.aload_n 1, 1) := by decide +kernel
theorem dX6_sameRows_10 : decode cX6_sameRows 10 = .ok (.arraylength, 1) := by decide +kernel
theorem dX6_sameRows_11 : decode cX6_sameRows 11 = .ok (.if_icmp .ge 20, 3) := by decide +kernel
theorem dX6_sameRows_14 : decode cX6_sameRows 14 = .ok (.aload_n 0, 1) := by decide +kernel
theorem dX6_sameRows_15 : decode cX6_sameRows 15 = .ok (.iload_n 2, 1) := by decide +kernel
theorem dX6_sameRows_16 : decode cX6_sameRows 16 = .ok (.iaload, 1) := by decide +kernel
theorem dX6_sameRows_17 : decode cX6_sameRows 17 = .ok (.aload_n 1, 1) := by decide +kernel
theorem dX6_sameRows_18 : decode cX6_sameRows 18 = .ok (.iload_n 2, 1) := by decide +kernel
theorem dX6_sameRows_19 : decode cX6_sameRows 19 = .ok (.iaload, 1) := by decide +kernel
theorem dX6_sameRows_20 : decode cX6_sameRows 20 = .ok (.if_icmp .eq 5, 3) := by decide +kernel
theorem dX6_sameRows_23 : decode cX6_sameRows 23 = .ok (.iconst 0, 1) := by decide +kernel
theorem dX6_sameRows_24 : decode cX6_sameRows 24 = .ok (.ireturn, 1) := by decide +kernel
theorem dX6_sameRows_25 : decode cX6_sameRows 25 = .ok (.iinc 2 1, 3) := by decide +kernel
theorem dX6_sameRows_28 : decode cX6_sameRows 28 = .ok (.goto (-26), 3) := by decide +kernel
theorem dX6_sameRows_31 : decode cX6_sameRows 31 = .ok (.aload_n 0, 1) := by decide +kernel
theorem dX6_sameRows_32 : decode cX6_sameRows 32 = .ok (.arraylength, 1) := by decide +kernel
theorem dX6_sameRows_33 : decode cX6_sameRows 33 = .ok (.aload_n 1, 1) := by decide +kernel
theorem dX6_sameRows_34 : decode cX6_sameRows 34 = .ok (.arraylength, 1) := by decide +kernel
theorem dX6_sameRows_35 : decode cX6_sameRows 35 = .ok (.if_icmp .ne 7, 3) := by decide +kernel
theorem dX6_sameRows_38 : decode cX6_sameRows 38 = .ok (.iconst 1, 1) := by decide +kernel
theorem dX6_sameRows_39 : decode cX6_sameRows 39 = .ok (.goto 4, 3) := by decide +kernel
theorem dX6_sameRows_42 : decode cX6_sameRows 42 = .ok (.iconst 0, 1) := by decide +kernel
theorem dX6_sameRows_43 : decode cX6_sameRows 43 = .ok (.ireturn, 1) := by decide +kernel
theorem dX7_init_0 : decode cX7_init 0 = .ok (.aload_n 0, 1) := by decide +kernel
theorem dX7_init_1 : decode cX7_init 1 = .ok (.invokespecial 3, 3) := by decide +kernel
theorem dX7_init_4 : decode cX7_init 4 = .ok (.aload_n 0, 1) := by decide +kernel
theorem dX7_init_5 : decode cX7_init 5 = .ok (.sipush 144, 3) := by decide +kernel
theorem dX7_init_8 : decode cX7_init 8 = .ok (.newarray .int, 2) := by decide +kernel
theorem dX7_init_10 : decode cX7_init 10 = .ok (.putfield 9, 3) := by decide +kernel
theorem dX7_init_13 : decode cX7_init 13 = .ok (.return_, 1) := by decide +kernel
theorem dX7_between_0 : decode cX7_between 0 = .ok (.aload_n 0, 1) := by decide +kernel
theorem dX7_between_1 : decode cX7_between 1 = .ok (.getfield 9, 3) := by decide +kernel
theorem dX7_between_4 : decode cX7_between 4 = .ok (.iload_n 1, 1) := by decide +kernel
theorem dX7_between_5 : decode cX7_between 5 = .ok (.bipush 12, 2) := by decide +kernel
theorem dX7_between_7 : decode cX7_between 7 = .ok (.imul, 1) := by decide +kernel
theorem dX7_between_8 : decode cX7_between 8 = .ok (.iload_n 2, 1) := by decide +kernel
theorem dX7_between_9 : decode cX7_between 9 = .ok (.iadd, 1) := by decide +kernel
theorem dX7_between_10 : decode cX7_between 10 = .ok (.iaload, 1) := by decide +kernel
theorem dX7_between_11 : decode cX7_between 11 = .ok (.ireturn, 1) := by decide +kernel
theorem dX7_measure_0 : decode cX7_measure 0 = .ok (.aload_n 0, 1) := by decide +kernel
theorem dX7_measure_1 : decode cX7_measure 1 = .ok (.aload_n 1, 1) := by decide +kernel
theorem dX7_measure_2 : decode cX7_measure 2 = .ok (.invokevirtual 15, 3) := by decide +kernel
theorem dX7_measure_5 : decode cX7_measure 5 = .ok (.iconst 0, 1) := by decide +kernel
theorem dX7_measure_6 : decode cX7_measure 6 = .ok (.istore_n 2, 1) := by decide +kernel
theorem dX7_measure_7 : decode cX7_measure 7 = .ok (.iload_n 2, 1) := by decide +kernel
theorem dX7_measure_8 : decode cX7_measure 8 = .ok (.aload_n 1, 1) := by decide +kernel
theorem dX7_measure_9 : decode cX7_measure 9 = .ok (.getfield 19, 3) := by decide +kernel
theorem dX7_measure_12 : decode cX7_measure 12 = .ok (.if_icmp .ge 35, 3) := by decide +kernel
theorem dX7_measure_15 : decode cX7_measure 15 = .ok (.iconst 0, 1) := by decide +kernel
theorem dX7_measure_16 : decode cX7_measure 16 = .ok (.istore_n 3, 1) := by decide +kernel
theorem dX7_measure_17 : decode cX7_measure 17 = .ok (.iload_n 3, 1) := by decide +kernel
theorem dX7_measure_18 : decode cX7_measure 18 = .ok (.aload_n 1, 1) := by decide +kernel
theorem dX7_measure_19 : decode cX7_measure 19 = .ok (.getfield 19, 3) := by decide +kernel
theorem dX7_measure_22 : decode cX7_measure 22 = .ok (.if_icmp .ge 19, 3) := by decide +kernel
theorem dX7_measure_25 : decode cX7_measure 25 = .ok (.aload_n 0, 1) := by decide +kernel
theorem dX7_measure_26 : decode cX7_measure 26 = .ok (.iload_n 3, 1) := by decide +kernel
theorem dX7_measure_27 : decode cX7_measure 27 = .ok (.iload_n 2, 1) := by decide +kernel
theorem dX7_measure_28 : decode cX7_measure 28 = .ok (.aload_n 1, 1) := by decide +kernel
theorem dX7_measure_29 : decode cX7_measure 29 = .ok (.getfield 19, 3) := by decide +kernel
theorem dX7_measure_32 : decode cX7_measure 32 = .ok (.invokevirtual 25, 3) := by decide +kernel
theorem dX7_measure_35 : decode cX7_measure 35 = .ok (.iinc 3 1, 3) := by decide +kernel
theorem dX7_measure_38 : decode cX7_measure 38 = .ok (.goto (-21), 3) := by decide +kernel
theorem dX7_measure_41 : decode cX7_measure 41 = .ok (.iinc 2 1, 3) := by decide +kernel
theorem dX7_measure_44 : decode cX7_measure 44 = .ok (.goto (-37), 3) := by decide +kernel
theorem dX7_measure_47 : decode cX7_measure 47 = .ok (.return_, 1) := by decide +kernel
theorem dX7_takeRoads_0 : decode cX7_takeRoads 0 = .ok (.iconst 0, 1) := by decide +kernel
theorem dX7_takeRoads_1 : decode cX7_takeRoads 1 = .ok (.istore_n 2, 1) := by decide +kernel
theorem dX7_takeRoads_2 : decode cX7_takeRoads 2 = .ok (.iload_n 2, 1) := by decide +kernel
theorem dX7_takeRoads_3 : decode cX7_takeRoads 3 = .ok (.aload_n 1, 1) := by decide +kernel
theorem dX7_takeRoads_4 : decode cX7_takeRoads 4 = .ok (.getfield 19, 3) := by decide +kernel
theorem dX7_takeRoads_7 : decode cX7_takeRoads 7 = .ok (.if_icmp .ge 68, 3) := by decide +kernel
theorem dX7_takeRoads_10 : decode cX7_takeRoads 10 = .ok (.iconst 0, 1) := by decide +kernel
theorem dX7_takeRoads_11 : decode cX7_takeRoads 11 = .ok (.istore_n 3, 1) := by decide +kernel
theorem dX7_takeRoads_12 : decode cX7_takeRoads 12 = .ok (.iload_n 3, 1) := by decide +kernel
theorem dX7_takeRoads_13 : decode cX7_takeRoads 13 = .ok (.aload_n 1, 1) := by decide +kernel
theorem dX7_takeRoads_14 : decode cX7_takeRoads 14 = .ok (.getfield 19, 3) := by decide +kernel
theorem dX7_takeRoads_17 : decode cX7_takeRoads 17 = .ok (.if_icmp .ge 40, 3) := by decide +kernel
theorem dX7_takeRoads_20 : decode cX7_takeRoads 20 = .ok (.aload_n 1, 1) := by decide +kernel
theorem dX7_takeRoads_21 : decode cX7_takeRoads 21 = .ok (.iload_n 2, 1) := by decide +kernel
theorem dX7_takeRoads_22 : decode cX7_takeRoads 22 = .ok (.iload_n 3, 1) := by decide +kernel
theorem dX7_takeRoads_23 : decode cX7_takeRoads 23 = .ok (.invokevirtual 29, 3) := by decide +kernel
theorem dX7_takeRoads_26 : decode cX7_takeRoads 26 = .ok (.istore 4, 2) := by decide +kernel
theorem dX7_takeRoads_28 : decode cX7_takeRoads 28 = .ok (.aload_n 0, 1) := by decide +kernel
theorem dX7_takeRoads_29 : decode cX7_takeRoads 29 = .ok (.getfield 9, 3) := by decide +kernel
theorem dX7_takeRoads_32 : decode cX7_takeRoads 32 = .ok (.iload_n 2, 1) := by decide +kernel
theorem dX7_takeRoads_33 : decode cX7_takeRoads 33 = .ok (.bipush 12, 2) := by decide +kernel
theorem dX7_takeRoads_35 : decode cX7_takeRoads 35 = .ok (.imul, 1) := by decide +kernel
theorem dX7_takeRoads_36 : decode cX7_takeRoads 36 = .ok (.iload_n 3, 1) := by decide +kernel
theorem dX7_takeRoads_37 : decode cX7_takeRoads 37 = .ok (.iadd, 1) := by decide +kernel
theorem dX7_takeRoads_38 : decode cX7_takeRoads 38 = .ok (.iload 4, 2) := by decide +kernel
theorem dX7_takeRoads_40 : decode cX7_takeRoads 40 = .ok (.ifCond .le 8, 3) := by decide +kernel
theorem dX7_takeRoads_43 : decode cX7_takeRoads 43 = .ok (.iload 4, 2) := by decide +kernel
theorem dX7_takeRoads_45 : decode cX7_takeRoads 45 = .ok (.goto 5, 3) := by decide +kernel
theorem dX7_takeRoads_48 : decode cX7_takeRoads 48 = .ok (.ldc 33, 2) := by decide +kernel
theorem dX7_takeRoads_50 : decode cX7_takeRoads 50 = .ok (.iastore, 1) := by decide +kernel
theorem dX7_takeRoads_51 : decode cX7_takeRoads 51 = .ok (.iinc 3 1, 3) := by decide +kernel
theorem dX7_takeRoads_54 : decode cX7_takeRoads 54 = .ok (.goto (-42), 3) := by decide +kernel
theorem dX7_takeRoads_57 : decode cX7_takeRoads 57 = .ok (.aload_n 0, 1) := by decide +kernel
theorem dX7_takeRoads_58 : decode cX7_takeRoads 58 = .ok (.getfield 9, 3) := by decide +kernel
theorem dX7_takeRoads_61 : decode cX7_takeRoads 61 = .ok (.iload_n 2, 1) := by decide +kernel
theorem dX7_takeRoads_62 : decode cX7_takeRoads 62 = .ok (.bipush 12, 2) := by decide +kernel
theorem dX7_takeRoads_64 : decode cX7_takeRoads 64 = .ok (.imul, 1) := by decide +kernel
theorem dX7_takeRoads_65 : decode cX7_takeRoads 65 = .ok (.iload_n 2, 1) := by decide +kernel
theorem dX7_takeRoads_66 : decode cX7_takeRoads 66 = .ok (.iadd, 1) := by decide +kernel
theorem dX7_takeRoads_67 : decode cX7_takeRoads 67 = .ok (.iconst 0, 1) := by decide +kernel
theorem dX7_takeRoads_68 : decode cX7_takeRoads 68 = .ok (.iastore, 1) := by decide +kernel
theorem dX7_takeRoads_69 : decode cX7_takeRoads 69 = .ok (.iinc 2 1, 3) := by decide +kernel
theorem dX7_takeRoads_72 : decode cX7_takeRoads 72 = .ok (.goto (-70), 3) := by decide +kernel
theorem dX7_takeRoads_75 : decode cX7_takeRoads 75 = .ok (.return_, 1) := by decide +kernel
theorem dX7_shorten_0 : decode cX7_shorten 0 = .ok (.aload_n 0, 1) := by decide +kernel
theorem dX7_shorten_1 : decode cX7_shorten 1 = .ok (.iload_n 1, 1) := by decide +kernel
theorem dX7_shorten_2 : decode cX7_shorten 2 = .ok (.iload_n 2, 1) := by decide +kernel
theorem dX7_shorten_3 : decode cX7_shorten 3 = .ok (.invokevirtual 34, 3) := by decide +kernel
theorem dX7_shorten_6 : decode cX7_shorten 6 = .ok (.istore 4, 2) := by decide +kernel
theorem dX7_shorten_8 : decode cX7_shorten 8 = .ok (.iload 4, 2) := by decide +kernel
theorem dX7_shorten_10 : decode cX7_shorten 10 = .ok (.ldc 33, 2) := by decide +kernel
theorem dX7_shorten_12 : decode cX7_shorten 12 = .ok (.if_icmp .ne 4, 3) := by decide +kernel
theorem dX7_shorten_15 : decode cX7_shorten 15 = .ok (.return_, 1) := by decide +kernel
theorem dX7_shorten_16 : decode cX7_shorten 16 = .ok (.iconst 0, 1) := by decide +kernel
theorem dX7_shorten_17 : decode cX7_shorten 17 = .ok (.istore 5, 2) := by decide +kernel
theorem dX7_shorten_19 : decode cX7_shorten 19 = .ok (.iload 5, 2) := by decide +kernel
theorem dX7_shorten_21 : decode cX7_shorten 21 = .ok (.iload_n 3, 1) := by decide +kernel
theorem dX7_shorten_22 : decode cX7_shorten 22 = .ok (.if_icmp .ge 47, 3) := by decide +kernel
theorem dX7_shorten_25 : decode cX7_shorten 25 = .ok (.iload 4, 2) := by decide +kernel
theorem dX7_shorten_27 : decode cX7_shorten 27 = .ok (.aload_n 0, 1) := by decide +kernel
theorem dX7_shorten_28 : decode cX7_shorten 28 = .ok (.iload_n 2, 1) := by decide +kernel
theorem dX7_shorten_29 : decode cX7_shorten 29 = .ok (.iload 5, 2) := by decide +kernel
theorem dX7_shorten_31 : decode cX7_shorten 31 = .ok (.invokevirtual 34, 3) := by decide +kernel
theorem dX7_shorten_34 : decode cX7_shorten 34 = .ok (.iadd, 1) := by decide +kernel
theorem dX7_shorten_35 : decode cX7_shorten 35 = .ok (.istore 6, 2) := by decide +kernel
theorem dX7_shorten_37 : decode cX7_shorten 37 = .ok (.iload 6, 2) := by decide +kernel
theorem dX7_shorten_39 : decode cX7_shorten 39 = .ok (.aload_n 0, 1) := by decide +kernel
theorem dX7_shorten_40 : decode cX7_shorten 40 = .ok (.iload_n 1, 1) := by decide +kernel
theorem dX7_shorten_41 : decode cX7_shorten 41 = .ok (.iload 5, 2) := by decide +kernel
theorem dX7_shorten_43 : decode cX7_shorten 43 = .ok (.invokevirtual 34, 3) := by decide +kernel
theorem dX7_shorten_46 : decode cX7_shorten 46 = .ok (.if_icmp .ge 17, 3) := by decide +kernel
theorem dX7_shorten_49 : decode cX7_shorten 49 = .ok (.aload_n 0, 1) := by decide +kernel
theorem dX7_shorten_50 : decode cX7_shorten 50 = .ok (.getfield 9, 3) := by decide +kernel
theorem dX7_shorten_53 : decode cX7_shorten 53 = .ok (.iload_n 1, 1) := by decide +kernel
theorem dX7_shorten_54 : decode cX7_shorten 54 = .ok (.bipush 12, 2) := by decide +kernel
theorem dX7_shorten_56 : decode cX7_shorten 56 = .ok (.imul, 1) := by decide +kernel
theorem dX7_shorten_57 : decode cX7_shorten 57 = .ok (.iload 5, 2) := by decide +kernel
theorem dX7_shorten_59 : decode cX7_shorten 59 = .ok (.iadd, 1) := by decide +kernel
theorem dX7_shorten_60 : decode cX7_shorten 60 = .ok (.iload 6, 2) := by decide +kernel
theorem dX7_shorten_62 : decode cX7_shorten 62 = .ok (.iastore, 1) := by decide +kernel
theorem dX7_shorten_63 : decode cX7_shorten 63 = .ok (.iinc 5 1, 3) := by decide +kernel
theorem dX7_shorten_66 : decode cX7_shorten 66 = .ok (.goto (-47), 3) := by decide +kernel
theorem dX7_shorten_69 : decode cX7_shorten 69 = .ok (.return_, 1) := by decide +kernel
theorem dX7_villageAt_0 : decode cX7_villageAt 0 = .ok (.iload_n 2, 1) := by decide +kernel
theorem dX7_villageAt_1 : decode cX7_villageAt 1 = .ok (.istore 5, 2) := by decide +kernel
theorem dX7_villageAt_3 : decode cX7_villageAt 3 = .ok (.iconst 0, 1) := by decide +kernel
theorem dX7_villageAt_4 : decode cX7_villageAt 4 = .ok (.istore 6, 2) := by decide +kernel
theorem dX7_villageAt_6 : decode cX7_villageAt 6 = .ok (.iload 6, 2) := by decide +kernel
theorem dX7_villageAt_8 : decode cX7_villageAt 8 = .ok (.iload 4, 2) := by decide +kernel
theorem dX7_villageAt_10 : decode cX7_villageAt 10 = .ok (.if_icmp .ge 47, 3) := by decide +kernel
theorem dX7_villageAt_13 : decode cX7_villageAt 13 = .ok (.iload 6, 2) := by decide +kernel
theorem dX7_villageAt_15 : decode cX7_villageAt 15 = .ok (.bipush 12, 2) := by decide +kernel
theorem dX7_villageAt_17 : decode cX7_villageAt 17 = .ok (.if_icmp .ge 40, 3) := by decide +kernel
theorem dX7_villageAt_20 : decode cX7_villageAt 20 = .ok (.iload 5, 2) := by decide +kernel
theorem dX7_villageAt_22 : decode cX7_villageAt 22 = .ok (.iload_n 3, 1) := by decide +kernel
theorem dX7_villageAt_23 : decode cX7_villageAt 23 = .ok (.if_icmp .ne 8, 3) := by decide +kernel
theorem dX7_villageAt_26 : decode cX7_villageAt 26 = .ok (.bipush (-4), 2) := by decide +kernel
theorem dX7_villageAt_28 : decode cX7_villageAt 28 = .ok (.goto 11, 3) := by decide +kernel
theorem dX7_villageAt_31 : decode cX7_villageAt 31 = .ok (.aload_n 0, 1) := by decide +kernel
theorem dX7_villageAt_32 : decode cX7_villageAt 32 = .ok (.aload_n 1, 1) := by decide +kernel
theorem dX7_villageAt_33 : decode cX7_villageAt 33 = .ok (.iload 5, 2) := by decide +kernel
theorem dX7_villageAt_35 : decode cX7_villageAt 35 = .ok (.iload_n 3, 1) := by decide +kernel
theorem dX7_villageAt_36 : decode cX7_villageAt 36 = .ok (.invokevirtual 37, 3) := by decide +kernel
theorem dX7_villageAt_39 : decode cX7_villageAt 39 = .ok (.istore 5, 2) := by decide +kernel
theorem dX7_villageAt_41 : decode cX7_villageAt 41 = .ok (.iload 5, 2) := by decide +kernel
theorem dX7_villageAt_43 : decode cX7_villageAt 43 = .ok (.bipush (-4), 2) := by decide +kernel
theorem dX7_villageAt_45 : decode cX7_villageAt 45 = .ok (.if_icmp .ne 6, 3) := by decide +kernel
theorem dX7_villageAt_48 : decode cX7_villageAt 48 = .ok (.bipush (-4), 2) := by decide +kernel
theorem dX7_villageAt_50 : decode cX7_villageAt 50 = .ok (.ireturn, 1) := by decide +kernel
theorem dX7_villageAt_51 : decode cX7_villageAt 51 = .ok (.iinc 6 1, 3) := by decide +kernel
theorem dX7_villageAt_54 : decode cX7_villageAt 54 = .ok (.goto (-48), 3) := by decide +kernel
theorem dX7_villageAt_57 : decode cX7_villageAt 57 = .ok (.iload 5, 2) := by decide +kernel
theorem dX7_villageAt_59 : decode cX7_villageAt 59 = .ok (.ireturn, 1) := by decide +kernel
theorem dX7_nextOf_0 : decode cX7_nextOf 0 = .ok (.iconst 0, 1) := by decide +kernel
theorem dX7_nextOf_1 : decode cX7_nextOf 1 = .ok (.istore 4, 2) := by decide +kernel
theorem dX7_nextOf_3 : decode cX7_nextOf 3 = .ok (.iload 4, 2) := by decide +kernel
theorem dX7_nextOf_5 : decode cX7_nextOf 5 = .ok (.aload_n 1, 1) := by decide +kernel
theorem dX7_nextOf_6 : decode cX7_nextOf 6 = .ok (.getfield 19, 3) := by decide +kernel
theorem dX7_nextOf_9 : decode cX7_nextOf 9 = .ok (.if_icmp .ge 45, 3) := by decide +kernel
theorem dX7_nextOf_12 : decode cX7_nextOf 12 = .ok (.aload_n 1, 1) := by decide +kernel
theorem dX7_nextOf_13 : decode cX7_nextOf 13 = .ok (.iload_n 2, 1) := by decide +kernel
theorem dX7_nextOf_14 : decode cX7_nextOf 14 = .ok (.iload 4, 2) := by decide +kernel
theorem dX7_nextOf_16 : decode cX7_nextOf 16 = .ok (.invokevirtual 29, 3) := by decide +kernel
theorem dX7_nextOf_19 : decode cX7_nextOf 19 = .ok (.istore 5, 2) := by decide +kernel
theorem dX7_nextOf_21 : decode cX7_nextOf 21 = .ok (.iload 5, 2) := by decide +kernel
theorem dX7_nextOf_23 : decode cX7_nextOf 23 = .ok (.ifCond .le 25, 3) := by decide +kernel
theorem dX7_nextOf_26 : decode cX7_nextOf 26 = .ok (.iload 5, 2) := by decide +kernel
theorem dX7_nextOf_28 : decode cX7_nextOf 28 = .ok (.aload_n 0, 1) := by decide +kernel
theorem dX7_nextOf_29 : decode cX7_nextOf 29 = .ok (.iload 4, 2) := by decide +kernel
theorem dX7_nextOf_31 : decode cX7_nextOf 31 = .ok (.iload_n 3, 1) := by decide +kernel
theorem dX7_nextOf_32 : decode cX7_nextOf 32 = .ok (.invokevirtual 34, 3) := by decide +kernel
theorem dX7_nextOf_35 : decode cX7_nextOf 35 = .ok (.iadd, 1) := by decide +kernel
theorem dX7_nextOf_36 : decode cX7_nextOf 36 = .ok (.aload_n 0, 1) := by decide +kernel
theorem dX7_nextOf_37 : decode cX7_nextOf 37 = .ok (.iload_n 2, 1) := by decide +kernel
theorem dX7_nextOf_38 : decode cX7_nextOf 38 = .ok (.iload_n 3, 1) := by decide +kernel
theorem dX7_nextOf_39 : decode cX7_nextOf 39 = .ok (.invokevirtual 34, 3) := by decide +kernel
theorem dX7_nextOf_42 : decode cX7_nextOf 42 = .ok (.if_icmp .ne 6, 3) := by decide +kernel
theorem dX7_nextOf_45 : decode cX7_nextOf 45 = .ok (.iload 4, 2) := by decide +kernel
theorem dX7_nextOf_47 : decode cX7_nextOf 47 = .ok (.ireturn, 1) := by decide +kernel
theorem dX7_nextOf_48 : decode cX7_nextOf 48 = .ok (.iinc 4 1, 3) := by decide +kernel
theorem dX7_nextOf_51 : decode cX7_nextOf 51 = .ok (.goto (-48), 3) := by decide +kernel
theorem dX7_nextOf_54 : decode cX7_nextOf 54 = .ok (.bipush (-4), 2) := by decide +kernel
theorem dX7_nextOf_56 : decode cX7_nextOf 56 = .ok (.ireturn, 1) := by decide +kernel
theorem dJ6_bitCount_0f7a4_0 : decode cJ6_bitCount_0f7a4 0 = .ok (.iload_n 0, 1) := by decide +kernel
theorem dJ6_bitCount_0f7a4_1 : decode cJ6_bitCount_0f7a4 1 = .ok (.iload_n 0, 1) := by decide +kernel
theorem dJ6_bitCount_0f7a4_2 : decode cJ6_bitCount_0f7a4 2 = .ok (.iconst 1, 1) := by decide +kernel
theorem dJ6_bitCount_0f7a4_3 : decode cJ6_bitCount_0f7a4 3 = .ok (.iushr, 1) := by decide +kernel
theorem dJ6_bitCount_0f7a4_4 : decode cJ6_bitCount_0f7a4 4 = .ok (.ldc_w 265, 3) := by decide +kernel
theorem dJ6_bitCount_0f7a4_7 : decode cJ6_bitCount_0f7a4 7 = .ok (.iand, 1) := by decide +kernel
theorem dJ6_bitCount_0f7a4_8 : decode cJ6_bitCount_0f7a4 8 = .ok (.isub, 1) := by decide +kernel
theorem dJ6_bitCount_0f7a4_9 : decode cJ6_bitCount_0f7a4 9 = .ok (.istore_n 0, 1) := by decide +kernel
theorem dJ6_bitCount_0f7a4_10 : decode cJ6_bitCount_0f7a4 10 = .ok (.iload_n 0, 1) := by decide +kernel
theorem dJ6_bitCount_0f7a4_11 : decode cJ6_bitCount_0f7a4 11 = .ok (.ldc_w 266, 3) := by decide +kernel
theorem dJ6_bitCount_0f7a4_14 : decode cJ6_bitCount_0f7a4 14 = .ok (.iand, 1) := by decide +kernel
theorem dJ6_bitCount_0f7a4_15 : decode cJ6_bitCount_0f7a4 15 = .ok (.iload_n 0, 1) := by decide +kernel
theorem dJ6_bitCount_0f7a4_16 : decode cJ6_bitCount_0f7a4 16 = .ok (.iconst 2, 1) := by decide +kernel
theorem dJ6_bitCount_0f7a4_17 : decode cJ6_bitCount_0f7a4 17 = .ok (.iushr, 1) := by decide +kernel
theorem dJ6_bitCount_0f7a4_18 : decode cJ6_bitCount_0f7a4 18 = .ok (.ldc_w 266, 3) := by decide +kernel
theorem dJ6_bitCount_0f7a4_21 : decode cJ6_bitCount_0f7a4 21 = .ok (.iand, 1) := by decide +kernel
theorem dJ6_bitCount_0f7a4_22 : decode cJ6_bitCount_0f7a4 22 = .ok (.iadd, 1) := by decide +kernel
theorem dJ6_bitCount_0f7a4_23 : decode cJ6_bitCount_0f7a4 23 = .ok (.istore_n 0, 1) := by decide +kernel
theorem dJ6_bitCount_0f7a4_24 : decode cJ6_bitCount_0f7a4 24 = .ok (.iload_n 0, 1) := by decide +kernel
theorem dJ6_bitCount_0f7a4_25 : decode cJ6_bitCount_0f7a4 25 = .ok (.iload_n 0, 1) := by decide +kernel
theorem dJ6_bitCount_0f7a4_26 : decode cJ6_bitCount_0f7a4 26 = .ok (.iconst 4, 1) := by decide +kernel
theorem dJ6_bitCount_0f7a4_27 : decode cJ6_bitCount_0f7a4 27 = .ok (.iushr, 1) := by decide +kernel
theorem dJ6_bitCount_0f7a4_28 : decode cJ6_bitCount_0f7a4 28 = .ok (.iadd, 1) := by decide +kernel
theorem dJ6_bitCount_0f7a4_29 : decode cJ6_bitCount_0f7a4 29 = .ok (.ldc_w 267, 3) := by decide +kernel
theorem dJ6_bitCount_0f7a4_32 : decode cJ6_bitCount_0f7a4 32 = .ok (.iand, 1) := by decide +kernel
theorem dJ6_bitCount_0f7a4_33 : decode cJ6_bitCount_0f7a4 33 = .ok (.istore_n 0, 1) := by decide +kernel
theorem dJ6_bitCount_0f7a4_34 : decode cJ6_bitCount_0f7a4 34 = .ok (.iload_n 0, 1) := by decide +kernel
theorem dJ6_bitCount_0f7a4_35 : decode cJ6_bitCount_0f7a4 35 = .ok (.iload_n 0, 1) := by decide +kernel
theorem dJ6_bitCount_0f7a4_36 : decode cJ6_bitCount_0f7a4 36 = .ok (.bipush 8, 2) := by decide +kernel
theorem dJ6_bitCount_0f7a4_38 : decode cJ6_bitCount_0f7a4 38 = .ok (.iushr, 1) := by decide +kernel
theorem dJ6_bitCount_0f7a4_39 : decode cJ6_bitCount_0f7a4 39 = .ok (.iadd, 1) := by decide +kernel
theorem dJ6_bitCount_0f7a4_40 : decode cJ6_bitCount_0f7a4 40 = .ok (.istore_n 0, 1) := by decide +kernel
theorem dJ6_bitCount_0f7a4_41 : decode cJ6_bitCount_0f7a4 41 = .ok (.iload_n 0, 1) := by decide +kernel
theorem dJ6_bitCount_0f7a4_42 : decode cJ6_bitCount_0f7a4 42 = .ok (.iload_n 0, 1) := by decide +kernel
theorem dJ6_bitCount_0f7a4_43 : decode cJ6_bitCount_0f7a4 43 = .ok (.bipush 16, 2) := by decide +kernel
theorem dJ6_bitCount_0f7a4_45 : decode cJ6_bitCount_0f7a4 45 = .ok (.iushr, 1) := by decide +kernel
theorem dJ6_bitCount_0f7a4_46 : decode cJ6_bitCount_0f7a4 46 = .ok (.iadd, 1) := by decide +kernel
theorem dJ6_bitCount_0f7a4_47 : decode cJ6_bitCount_0f7a4 47 = .ok (.istore_n 0, 1) := by decide +kernel
theorem dJ6_bitCount_0f7a4_48 : decode cJ6_bitCount_0f7a4 48 = .ok (.iload_n 0, 1) := by decide +kernel
theorem dJ6_bitCount_0f7a4_49 : decode cJ6_bitCount_0f7a4 49 = .ok (.bipush 63, 2) := by decide +kernel
theorem dJ6_bitCount_0f7a4_51 : decode cJ6_bitCount_0f7a4 51 = .ok (.iand, 1) := by decide +kernel
theorem dJ6_bitCount_0f7a4_52 : decode cJ6_bitCount_0f7a4 52 = .ok (.ireturn, 1) := by decide +kernel
theorem dJ9_max_7cf53_0 : decode cJ9_max_7cf53 0 = .ok (.iload_n 0, 1) := by decide +kernel
theorem dJ9_max_7cf53_1 : decode cJ9_max_7cf53 1 = .ok (.iload_n 1, 1) := by decide +kernel
theorem dJ9_max_7cf53_2 : decode cJ9_max_7cf53 2 = .ok (.if_icmp .lt 7, 3) := by decide +kernel
theorem dJ9_max_7cf53_5 : decode cJ9_max_7cf53 5 = .ok (.iload_n 0, 1) := by decide +kernel
theorem dJ9_max_7cf53_6 : decode cJ9_max_7cf53 6 = .ok (.goto 4, 3) := by decide +kernel
theorem dJ9_max_7cf53_9 : decode cJ9_max_7cf53 9 = .ok (.iload_n 1, 1) := by decide +kernel
theorem dJ9_max_7cf53_10 : decode cJ9_max_7cf53 10 = .ok (.ireturn, 1) := by decide +kernel
theorem dJ9_max_f86c9_0 : decode cJ9_max_f86c9 0 = .ok (.lload_n 0, 1) := by decide +kernel
theorem dJ9_max_f86c9_1 : decode cJ9_max_f86c9 1 = .ok (.lload_n 2, 1) := by decide +kernel
theorem dJ9_max_f86c9_2 : decode cJ9_max_f86c9 2 = .ok (.lcmp, 1) := by decide +kernel
theorem dJ9_max_f86c9_3 : decode cJ9_max_f86c9 3 = .ok (.ifCond .lt 7, 3) := by decide +kernel
theorem dJ9_max_f86c9_6 : decode cJ9_max_f86c9 6 = .ok (.lload_n 0, 1) := by decide +kernel
theorem dJ9_max_f86c9_7 : decode cJ9_max_f86c9 7 = .ok (.goto 4, 3) := by decide +kernel
theorem dJ9_max_f86c9_10 : decode cJ9_max_f86c9 10 = .ok (.lload_n 2, 1) := by decide +kernel
theorem dJ9_max_f86c9_11 : decode cJ9_max_f86c9 11 = .ok (.lreturn, 1) := by decide +kernel
theorem dJ9_min_7cf53_0 : decode cJ9_min_7cf53 0 = .ok (.iload_n 0, 1) := by decide +kernel
theorem dJ9_min_7cf53_1 : decode cJ9_min_7cf53 1 = .ok (.iload_n 1, 1) := by decide +kernel
theorem dJ9_min_7cf53_2 : decode cJ9_min_7cf53 2 = .ok (.if_icmp .gt 7, 3) := by decide +kernel
theorem dJ9_min_7cf53_5 : decode cJ9_min_7cf53 5 = .ok (.iload_n 0, 1) := by decide +kernel
theorem dJ9_min_7cf53_6 : decode cJ9_min_7cf53 6 = .ok (.goto 4, 3) := by decide +kernel
theorem dJ9_min_7cf53_9 : decode cJ9_min_7cf53 9 = .ok (.iload_n 1, 1) := by decide +kernel
theorem dJ9_min_7cf53_10 : decode cJ9_min_7cf53 10 = .ok (.ireturn, 1) := by decide +kernel
theorem dJ9_min_f86c9_0 : decode cJ9_min_f86c9 0 = .ok (.lload_n 0, 1) := by decide +kernel
theorem dJ9_min_f86c9_1 : decode cJ9_min_f86c9 1 = .ok (.lload_n 2, 1) := by decide +kernel
theorem dJ9_min_f86c9_2 : decode cJ9_min_f86c9 2 = .ok (.lcmp, 1) := by decide +kernel
theorem dJ9_min_f86c9_3 : decode cJ9_min_f86c9 3 = .ok (.ifCond .gt 7, 3) := by decide +kernel
theorem dJ9_min_f86c9_6 : decode cJ9_min_f86c9 6 = .ok (.lload_n 0, 1) := by decide +kernel
theorem dJ9_min_f86c9_7 : decode cJ9_min_f86c9 7 = .ok (.goto 4, 3) := by decide +kernel
theorem dJ9_min_f86c9_10 : decode cJ9_min_f86c9 10 = .ok (.lload_n 2, 1) := by decide +kernel
theorem dJ9_min_f86c9_11 : decode cJ9_min_f86c9 11 = .ok (.lreturn, 1) := by decide +kernel
