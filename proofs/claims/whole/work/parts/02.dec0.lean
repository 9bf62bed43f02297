theorem dX0_init_0 : decode cX0_init 0 = .ok (.aload_n 0, 1) := by decide +kernel
theorem dX0_init_1 : decode cX0_init 1 = .ok (.invokespecial 3, 3) := by decide +kernel
theorem dX0_init_4 : decode cX0_init 4 = .ok (.aload_n 0, 1) := by decide +kernel
theorem dX0_init_5 : decode cX0_init 5 = .ok (.bipush 30, 2) := by decide +kernel
theorem dX0_init_7 : decode cX0_init 7 = .ok (.newarray .int, 2) := by decide +kernel
theorem dX0_init_9 : decode cX0_init 9 = .ok (.putfield 9, 3) := by decide +kernel
theorem dX0_init_12 : decode cX0_init 12 = .ok (.return_, 1) := by decide +kernel
theorem dX0_begin_0 : decode cX0_begin 0 = .ok (.aload_n 0, 1) := by decide +kernel
theorem dX0_begin_1 : decode cX0_begin 1 = .ok (.iload_n 1, 1) := by decide +kernel
theorem dX0_begin_2 : decode cX0_begin 2 = .ok (.putfield 15, 3) := by decide +kernel
theorem dX0_begin_5 : decode cX0_begin 5 = .ok (.aload_n 0, 1) := by decide +kernel
theorem dX0_begin_6 : decode cX0_begin 6 = .ok (.iconst 0, 1) := by decide +kernel
theorem dX0_begin_7 : decode cX0_begin 7 = .ok (.putfield 19, 3) := by decide +kernel
theorem dX0_begin_10 : decode cX0_begin 10 = .ok (.aload_n 0, 1) := by decide +kernel
theorem dX0_begin_11 : decode cX0_begin 11 = .ok (.iconst 0, 1) := by decide +kernel
theorem dX0_begin_12 : decode cX0_begin 12 = .ok (.putfield 23, 3) := by decide +kernel
theorem dX0_begin_15 : decode cX0_begin 15 = .ok (.aload_n 0, 1) := by decide +kernel
theorem dX0_begin_16 : decode cX0_begin 16 = .ok (.iconst 0, 1) := by decide +kernel
theorem dX0_begin_17 : decode cX0_begin 17 = .ok (.putfield 26, 3) := by decide +kernel
theorem dX0_begin_20 : decode cX0_begin 20 = .ok (.aload_n 0, 1) := by decide +kernel
theorem dX0_begin_21 : decode cX0_begin 21 = .ok (.iconst 4, 1) := by decide +kernel
theorem dX0_begin_22 : decode cX0_begin 22 = .ok (.bipush (-100), 2) := by decide +kernel
theorem dX0_begin_24 : decode cX0_begin 24 = .ok (.invokevirtual 29, 3) := by decide +kernel
theorem dX0_begin_27 : decode cX0_begin 27 = .ok (.return_, 1) := by decide +kernel
theorem dX0_put_0 : decode cX0_put 0 = .ok (.aload_n 0, 1) := by decide +kernel
theorem dX0_put_1 : decode cX0_put 1 = .ok (.iload_n 1, 1) := by decide +kernel
theorem dX0_put_2 : decode cX0_put 2 = .ok (.putfield 33, 3) := by decide +kernel
theorem dX0_put_5 : decode cX0_put 5 = .ok (.aload_n 0, 1) := by decide +kernel
theorem dX0_put_6 : decode cX0_put 6 = .ok (.iload_n 2, 1) := by decide +kernel
theorem dX0_put_7 : decode cX0_put 7 = .ok (.putfield 36, 3) := by decide +kernel
theorem dX0_put_10 : decode cX0_put 10 = .ok (.return_, 1) := by decide +kernel
theorem dX0_addStep_0 : decode cX0_addStep 0 = .ok (.aload_n 0, 1) := by decide +kernel
theorem dX0_addStep_1 : decode cX0_addStep 1 = .ok (.getfield 23, 3) := by decide +kernel
theorem dX0_addStep_4 : decode cX0_addStep 4 = .ok (.ifCond .lt 30, 3) := by decide +kernel
theorem dX0_addStep_7 : decode cX0_addStep 7 = .ok (.aload_n 0, 1) := by decide +kernel
theorem dX0_addStep_8 : decode cX0_addStep 8 = .ok (.getfield 23, 3) := by decide +kernel
theorem dX0_addStep_11 : decode cX0_addStep 11 = .ok (.aload_n 0, 1) := by decide +kernel
theorem dX0_addStep_12 : decode cX0_addStep 12 = .ok (.getfield 9, 3) := by decide +kernel
theorem dX0_addStep_15 : decode cX0_addStep 15 = .ok (.arraylength, 1) := by decide +kernel
theorem dX0_addStep_16 : decode cX0_addStep 16 = .ok (.if_icmp .ge 18, 3) := by decide +kernel
theorem dX0_addStep_19 : decode cX0_addStep 19 = .ok (.aload_n 0, 1) := by decide +kernel
theorem dX0_addStep_20 : decode cX0_addStep 20 = .ok (.getfield 9, 3) := by decide +kernel
theorem dX0_addStep_23 : decode cX0_addStep 23 = .ok (.aload_n 0, 1) := by decide +kernel
theorem dX0_addStep_24 : decode cX0_addStep 24 = .ok (.getfield 23, 3) := by decide +kernel
theorem dX0_addStep_27 : decode cX0_addStep 27 = .ok (.iload_n 1, 1) := by decide +kernel
theorem dX0_addStep_28 : decode cX0_addStep 28 = .ok (.bipush 12, 2) := by decide +kernel
theorem dX0_addStep_30 : decode cX0_addStep 30 = .ok (.imul, 1) := by decide +kernel
theorem dX0_addStep_31 : decode cX0_addStep 31 = .ok (.iload_n 2, 1) := by decide +kernel
theorem dX0_addStep_32 : decode cX0_addStep 32 = .ok (.iadd, 1) := by decide +kernel
theorem dX0_addStep_33 : decode cX0_addStep 33 = .ok (.iastore, 1) := by decide +kernel
theorem dX0_addStep_34 : decode cX0_addStep 34 = .ok (.aload_n 0, 1) := by decide +kernel
theorem dX0_addStep_35 : decode cX0_addStep 35 = .ok (.dup, 1) := by decide +kernel
theorem dX0_addStep_36 : decode cX0_addStep 36 = .ok (.getfield 23, 3) := by decide +kernel
theorem dX0_addStep_39 : decode cX0_addStep 39 = .ok (.iconst 1, 1) := by decide +kernel
theorem dX0_addStep_40 : decode cX0_addStep 40 = .ok (.iadd, 1) := by decide +kernel
theorem dX0_addStep_41 : decode cX0_addStep 41 = .ok (.putfield 23, 3) := by decide +kernel
theorem dX0_addStep_44 : decode cX0_addStep 44 = .ok (.return_, 1) := by decide +kernel
theorem dX0_keepsStep_0 : decode cX0_keepsStep 0 = .ok (.iload_n 1, 1) := by decide +kernel
theorem dX0_keepsStep_1 : decode cX0_keepsStep 1 = .ok (.ifCond .lt 24, 3) := by decide +kernel
theorem dX0_keepsStep_4 : decode cX0_keepsStep 4 = .ok (.iload_n 1, 1) := by decide +kernel
theorem dX0_keepsStep_5 : decode cX0_keepsStep 5 = .ok (.aload_n 0, 1) := by decide +kernel
theorem dX0_keepsStep_6 : decode cX0_keepsStep 6 = .ok (.getfield 23, 3) := by decide +kernel
theorem dX0_keepsStep_9 : decode cX0_keepsStep 9 = .ok (.if_icmp .ge 16, 3) := by decide +kernel
theorem dX0_keepsStep_12 : decode cX0_keepsStep 12 = .ok (.iload_n 1, 1) := by decide +kernel
theorem dX0_keepsStep_13 : decode cX0_keepsStep 13 = .ok (.aload_n 0, 1) := by decide +kernel
theorem dX0_keepsStep_14 : decode cX0_keepsStep 14 = .ok (.getfield 9, 3) := by decide +kernel
theorem dX0_keepsStep_17 : decode cX0_keepsStep 17 = .ok (.arraylength, 1) := by decide +kernel
theorem dX0_keepsStep_18 : decode cX0_keepsStep 18 = .ok (.if_icmp .ge 7, 3) := by decide +kernel
theorem dX0_keepsStep_21 : decode cX0_keepsStep 21 = .ok (.iconst 1, 1) := by decide +kernel
theorem dX0_keepsStep_22 : decode cX0_keepsStep 22 = .ok (.goto 4, 3) := by decide +kernel
theorem dX0_keepsStep_25 : decode cX0_keepsStep 25 = .ok (.iconst 0, 1) := by decide +kernel
theorem dX0_keepsStep_26 : decode cX0_keepsStep 26 = .ok (.ireturn, 1) := by decide +kernel
theorem dX0_stepTick_0 : decode cX0_stepTick 0 = .ok (.aload_n 0, 1) := by decide +kernel
theorem dX0_stepTick_1 : decode cX0_stepTick 1 = .ok (.iload_n 1, 1) := by decide +kernel
theorem dX0_stepTick_2 : decode cX0_stepTick 2 = .ok (.invokevirtual 39, 3) := by decide +kernel
theorem dX0_stepTick_5 : decode cX0_stepTick 5 = .ok (.ifCond .eq 15, 3) := by decide +kernel
theorem dX0_stepTick_8 : decode cX0_stepTick 8 = .ok (.aload_n 0, 1) := by decide +kernel
theorem dX0_stepTick_9 : decode cX0_stepTick 9 = .ok (.getfield 9, 3) := by decide +kernel
theorem dX0_stepTick_12 : decode cX0_stepTick 12 = .ok (.iload_n 1, 1) := by decide +kernel
theorem dX0_stepTick_13 : decode cX0_stepTick 13 = .ok (.iaload, 1) := by decide +kernel
theorem dX0_stepTick_14 : decode cX0_stepTick 14 = .ok (.bipush 12, 2) := by decide +kernel
theorem dX0_stepTick_16 : decode cX0_stepTick 16 = .ok (.idiv, 1) := by decide +kernel
theorem dX0_stepTick_17 : decode cX0_stepTick 17 = .ok (.goto 4, 3) := by decide +kernel
theorem dX0_stepTick_20 : decode cX0_stepTick 20 = .ok (.iconst (-1), 1) := by decide +kernel
theorem dX0_stepTick_21 : decode cX0_stepTick 21 = .ok (.ireturn, 1) := by decide +kernel
theorem dX0_stepPoint_0 : decode cX0_stepPoint 0 = .ok (.aload_n 0, 1) := by decide +kernel
theorem dX0_stepPoint_1 : decode cX0_stepPoint 1 = .ok (.iload_n 1, 1) := by decide +kernel
theorem dX0_stepPoint_2 : decode cX0_stepPoint 2 = .ok (.invokevirtual 39, 3) := by decide +kernel
theorem dX0_stepPoint_5 : decode cX0_stepPoint 5 = .ok (.ifCond .eq 15, 3) := by decide +kernel
theorem dX0_stepPoint_8 : decode cX0_stepPoint 8 = .ok (.aload_n 0, 1) := by decide +kernel
theorem dX0_stepPoint_9 : decode cX0_stepPoint 9 = .ok (.getfield 9, 3) := by decide +kernel
theorem dX0_stepPoint_12 : decode cX0_stepPoint 12 = .ok (.iload_n 1, 1) := by decide +kernel
theorem dX0_stepPoint_13 : decode cX0_stepPoint 13 = .ok (.iaload, 1) := by decide +kernel
theorem dX0_stepPoint_14 : decode cX0_stepPoint 14 = .ok (.bipush 12, 2) := by decide +kernel
theorem dX0_stepPoint_16 : decode cX0_stepPoint 16 = .ok (.irem, 1) := by decide +kernel
theorem dX0_stepPoint_17 : decode cX0_stepPoint 17 = .ok (.goto 4, 3) := by decide +kernel
theorem dX0_stepPoint_20 : decode cX0_stepPoint 20 = .ok (.iconst (-1), 1) := by decide +kernel
theorem dX0_stepPoint_21 : decode cX0_stepPoint 21 = .ok (.ireturn, 1) := by decide +kernel
theorem dX0_copyFrom_0 : decode cX0_copyFrom 0 = .ok (.aload_n 0, 1) := by decide +kernel
theorem dX0_copyFrom_1 : decode cX0_copyFrom 1 = .ok (.aload_n 1, 1) := by decide +kernel
theorem dX0_copyFrom_2 : decode cX0_copyFrom 2 = .ok (.getfield 15, 3) := by decide +kernel
theorem dX0_copyFrom_5 : decode cX0_copyFrom 5 = .ok (.putfield 15, 3) := by decide +kernel
theorem dX0_copyFrom_8 : decode cX0_copyFrom 8 = .ok (.aload_n 0, 1) := by decide +kernel
theorem dX0_copyFrom_9 : decode cX0_copyFrom 9 = .ok (.aload_n 1, 1) := by decide +kernel
theorem dX0_copyFrom_10 : decode cX0_copyFrom 10 = .ok (.getfield 19, 3) := by decide +kernel
theorem dX0_copyFrom_13 : decode cX0_copyFrom 13 = .ok (.putfield 19, 3) := by decide +kernel
theorem dX0_copyFrom_16 : decode cX0_copyFrom 16 = .ok (.aload_n 0, 1) := by decide +kernel
theorem dX0_copyFrom_17 : decode cX0_copyFrom 17 = .ok (.aload_n 1, 1) := by decide +kernel
theorem dX0_copyFrom_18 : decode cX0_copyFrom 18 = .ok (.getfield 33, 3) := by decide +kernel
theorem dX0_copyFrom_21 : decode cX0_copyFrom 21 = .ok (.putfield 33, 3) := by decide +kernel
theorem dX0_copyFrom_24 : decode cX0_copyFrom 24 = .ok (.aload_n 0, 1) := by decide +kernel
theorem dX0_copyFrom_25 : decode cX0_copyFrom 25 = .ok (.aload_n 1, 1) := by decide +kernel
theorem dX0_copyFrom_26 : decode cX0_copyFrom 26 = .ok (.getfield 36, 3) := by decide +kernel
theorem dX0_copyFrom_29 : decode cX0_copyFrom 29 = .ok (.putfield 36, 3) := by decide +kernel
theorem dX0_copyFrom_32 : decode cX0_copyFrom 32 = .ok (.aload_n 0, 1) := by decide +kernel
theorem dX0_copyFrom_33 : decode cX0_copyFrom 33 = .ok (.aload_n 1, 1) := by decide +kernel
theorem dX0_copyFrom_34 : decode cX0_copyFrom 34 = .ok (.getfield 26, 3) := by decide +kernel
theorem dX0_copyFrom_37 : decode cX0_copyFrom 37 = .ok (.putfield 26, 3) := by decide +kernel
theorem dX0_copyFrom_40 : decode cX0_copyFrom 40 = .ok (.aload_n 0, 1) := by decide +kernel
theorem dX0_copyFrom_41 : decode cX0_copyFrom 41 = .ok (.aload_n 1, 1) := by decide +kernel
theorem dX0_copyFrom_42 : decode cX0_copyFrom 42 = .ok (.getfield 23, 3) := by decide +kernel
theorem dX0_copyFrom_45 : decode cX0_copyFrom 45 = .ok (.putfield 23, 3) := by decide +kernel
theorem dX0_copyFrom_48 : decode cX0_copyFrom 48 = .ok (.aload_n 1, 1) := by decide +kernel
theorem dX0_copyFrom_49 : decode cX0_copyFrom 49 = .ok (.getfield 9, 3) := by decide +kernel
theorem dX0_copyFrom_52 : decode cX0_copyFrom 52 = .ok (.iconst 0, 1) := by decide +kernel
theorem dX0_copyFrom_53 : decode cX0_copyFrom 53 = .ok (.aload_n 0, 1) := by decide +kernel
theorem dX0_copyFrom_54 : decode cX0_copyFrom 54 = .ok (.getfield 9, 3) := by decide +kernel
theorem dX0_copyFrom_57 : decode cX0_copyFrom 57 = .ok (.iconst 0, 1) := by decide +kernel
theorem dX0_copyFrom_58 : decode cX0_copyFrom 58 = .ok (.aload_n 0, 1) := by decide +kernel
theorem dX0_copyFrom_59 : decode cX0_copyFrom 59 = .ok (.getfield 9, 3) := by decide +kernel
theorem dX0_copyFrom_62 : decode cX0_copyFrom 62 = .ok (.arraylength, 1) := by decide +kernel
theorem dX0_copyFrom_63 : decode cX0_copyFrom 63 = .ok (.invokestatic 43, 3) := by decide +kernel
theorem dX0_copyFrom_66 : decode cX0_copyFrom 66 = .ok (.return_, 1) := by decide +kernel
theorem dX1_init_0 : decode cX1_init 0 = .ok (.aload_n 0, 1) := by decide +kernel
theorem dX1_init_1 : decode cX1_init 1 = .ok (.invokespecial 3, 3) := by decide +kernel
theorem dX1_init_4 : decode cX1_init 4 = .ok (.aload_n 0, 1) := by decide +kernel
theorem dX1_init_5 : decode cX1_init 5 = .ok (.bipush 12, 2) := by decide +kernel
theorem dX1_init_7 : decode cX1_init 7 = .ok (.newarray .int, 2) := by decide +kernel
theorem dX1_init_9 : decode cX1_init 9 = .ok (.putfield 9, 3) := by decide +kernel
theorem dX1_init_12 : decode cX1_init 12 = .ok (.return_, 1) := by decide +kernel
theorem dX1_begin_0 : decode cX1_begin 0 = .ok (.aload_n 0, 1) := by decide +kernel
theorem dX1_begin_1 : decode cX1_begin 1 = .ok (.iload_n 1, 1) := by decide +kernel
theorem dX1_begin_2 : decode cX1_begin 2 = .ok (.putfield 15, 3) := by decide +kernel
theorem dX1_begin_5 : decode cX1_begin 5 = .ok (.aload_n 0, 1) := by decide +kernel
theorem dX1_begin_6 : decode cX1_begin 6 = .ok (.iload_n 2, 1) := by decide +kernel
theorem dX1_begin_7 : decode cX1_begin 7 = .ok (.putfield 19, 3) := by decide +kernel
theorem dX1_begin_10 : decode cX1_begin 10 = .ok (.aload_n 0, 1) := by decide +kernel
theorem dX1_begin_11 : decode cX1_begin 11 = .ok (.iload_n 3, 1) := by decide +kernel
theorem dX1_begin_12 : decode cX1_begin 12 = .ok (.putfield 22, 3) := by decide +kernel
theorem dX1_begin_15 : decode cX1_begin 15 = .ok (.aload_n 0, 1) := by decide +kernel
theorem dX1_begin_16 : decode cX1_begin 16 = .ok (.iconst 1, 1) := by decide +kernel
theorem dX1_begin_17 : decode cX1_begin 17 = .ok (.putfield 25, 3) := by decide +kernel
theorem dX1_begin_20 : decode cX1_begin 20 = .ok (.aload_n 0, 1) := by decide +kernel
theorem dX1_begin_21 : decode cX1_begin 21 = .ok (.iconst 0, 1) := by decide +kernel
theorem dX1_begin_22 : decode cX1_begin 22 = .ok (.putfield 28, 3) := by decide +kernel
theorem dX1_begin_25 : decode cX1_begin 25 = .ok (.aload_n 0, 1) := by decide +kernel
theorem dX1_begin_26 : decode cX1_begin 26 = .ok (.iconst 0, 1) := by decide +kernel
theorem dX1_begin_27 : decode cX1_begin 27 = .ok (.putfield 32, 3) := by decide +kernel
theorem dX1_begin_30 : decode cX1_begin 30 = .ok (.iconst 0, 1) := by decide +kernel
theorem dX1_begin_31 : decode cX1_begin 31 = .ok (.istore 4, 2) := by decide +kernel
theorem dX1_begin_33 : decode cX1_begin 33 = .ok (.iload 4, 2) := by decide +kernel
theorem dX1_begin_35 : decode cX1_begin 35 = .ok (.aload_n 0, 1) := by decide +kernel
theorem dX1_begin_36 : decode cX1_begin 36 = .ok (.getfield 9, 3) := by decide +kernel
theorem dX1_begin_39 : decode cX1_begin 39 = .ok (.arraylength, 1) := by decide +kernel
theorem dX1_begin_40 : decode cX1_begin 40 = .ok (.if_icmp .ge 17, 3) := by decide +kernel
theorem dX1_begin_43 : decode cX1_begin 43 = .ok (.aload_n 0, 1) := by decide +kernel
theorem dX1_begin_44 : decode cX1_begin 44 = .ok (.getfield 9, 3) := by decide +kernel
theorem dX1_begin_47 : decode cX1_begin 47 = .ok (.iload 4, 2) := by decide +kernel
theorem dX1_begin_49 : decode cX1_begin 49 = .ok (.iconst (-1), 1) := by decide +kernel
theorem dX1_begin_50 : decode cX1_begin 50 = .ok (.iastore, 1) := by decide +kernel
theorem dX1_begin_51 : decode cX1_begin 51 = .ok (.iinc 4 1, 3) := by decide +kernel
theorem dX1_begin_54 : decode cX1_begin 54 = .ok (.goto (-21), 3) := by decide +kernel
theorem dX1_begin_57 : decode cX1_begin 57 = .ok (.return_, 1) := by decide +kernel
theorem dX1_canEnter_0 : decode cX1_canEnter 0 = .ok (.aload_n 0, 1) := by decide +kernel
theorem dX1_canEnter_1 : decode cX1_canEnter 1 = .ok (.getfield 28, 3) := by decide +kernel
theorem dX1_canEnter_4 : decode cX1_canEnter 4 = .ok (.ifCond .ne 17, 3) := by decide +kernel
theorem dX1_canEnter_7 : decode cX1_canEnter 7 = .ok (.aload_n 0, 1) := by decide +kernel
theorem dX1_canEnter_8 : decode cX1_canEnter 8 = .ok (.getfield 9, 3) := by decide +kernel
theorem dX1_canEnter_11 : decode cX1_canEnter 11 = .ok (.iconst 0, 1) := by decide +kernel
theorem dX1_canEnter_12 : decode cX1_canEnter 12 = .ok (.iaload, 1) := by decide +kernel
theorem dX1_canEnter_13 : decode cX1_canEnter 13 = .ok (.iconst (-1), 1) := by decide +kernel
theorem dX1_canEnter_14 : decode cX1_canEnter 14 = .ok (.if_icmp .ne 7, 3) := by decide +kernel
theorem dX1_canEnter_17 : decode cX1_canEnter 17 = .ok (.iconst 1, 1) := by decide +kernel
theorem dX1_canEnter_18 : decode cX1_canEnter 18 = .ok (.goto 4, 3) := by decide +kernel
theorem dX1_canEnter_21 : decode cX1_canEnter 21 = .ok (.iconst 0, 1) := by decide +kernel
theorem dX1_canEnter_22 : decode cX1_canEnter 22 = .ok (.ireturn, 1) := by decide +kernel
theorem dX1_enter_0 : decode cX1_enter 0 = .ok (.aload_n 0, 1) := by decide +kernel
theorem dX1_enter_1 : decode cX1_enter 1 = .ok (.getfield 9, 3) := by decide +kernel
theorem dX1_enter_4 : decode cX1_enter 4 = .ok (.iconst 0, 1) := by decide +kernel
theorem dX1_enter_5 : decode cX1_enter 5 = .ok (.iload_n 1, 1) := by decide +kernel
theorem dX1_enter_6 : decode cX1_enter 6 = .ok (.iastore, 1) := by decide +kernel
theorem dX1_enter_7 : decode cX1_enter 7 = .ok (.aload_n 0, 1) := by decide +kernel
theorem dX1_enter_8 : decode cX1_enter 8 = .ok (.iconst 1, 1) := by decide +kernel
theorem dX1_enter_9 : decode cX1_enter 9 = .ok (.putfield 32, 3) := by decide +kernel
theorem dX1_enter_12 : decode cX1_enter 12 = .ok (.return_, 1) := by decide +kernel
theorem dX1_moveOn_0 : decode cX1_moveOn 0 = .ok (.aload_n 0, 1) := by decide +kernel
theorem dX1_moveOn_1 : decode cX1_moveOn 1 = .ok (.getfield 28, 3) := by decide +kernel
theorem dX1_moveOn_4 : decode cX1_moveOn 4 = .ok (.ifCond .eq 4, 3) := by decide +kernel
theorem dX1_moveOn_7 : decode cX1_moveOn 7 = .ok (.return_, 1) := by decide +kernel
theorem dX1_moveOn_8 : decode cX1_moveOn 8 = .ok (.aload_n 0, 1) := by decide +kernel
theorem dX1_moveOn_9 : decode cX1_moveOn 9 = .ok (.getfield 32, 3) := by decide +kernel
theorem dX1_moveOn_12 : decode cX1_moveOn 12 = .ok (.ifCond .eq 7, 3) := by decide +kernel
theorem dX1_moveOn_15 : decode cX1_moveOn 15 = .ok (.iconst 1, 1) := by decide +kernel
theorem dX1_moveOn_16 : decode cX1_moveOn 16 = .ok (.goto 4, 3) := by decide +kernel
theorem dX1_moveOn_19 : decode cX1_moveOn 19 = .ok (.iconst 0, 1) := by decide +kernel
theorem dX1_moveOn_20 : decode cX1_moveOn 20 = .ok (.istore_n 1, 1) := by decide +kernel
theorem dX1_moveOn_21 : decode cX1_moveOn 21 = .ok (.aload_n 0, 1) := by decide +kernel
theorem dX1_moveOn_22 : decode cX1_moveOn 22 = .ok (.getfield 22, 3) := by decide +kernel
theorem dX1_moveOn_25 : decode cX1_moveOn 25 = .ok (.iconst 2, 1) := by decide +kernel
theorem dX1_moveOn_26 : decode cX1_moveOn 26 = .ok (.isub, 1) := by decide +kernel
theorem dX1_moveOn_27 : decode cX1_moveOn 27 = .ok (.istore_n 2, 1) := by decide +kernel
theorem dX1_moveOn_28 : decode cX1_moveOn 28 = .ok (.iload_n 2, 1) := by decide +kernel
theorem dX1_moveOn_29 : decode cX1_moveOn 29 = .ok (.iload_n 1, 1) := by decide +kernel
theorem dX1_moveOn_30 : decode cX1_moveOn 30 = .ok (.if_icmp .lt 42, 3) := by decide +kernel
theorem dX1_moveOn_33 : decode cX1_moveOn 33 = .ok (.aload_n 0, 1) := by decide +kernel
theorem dX1_moveOn_34 : decode cX1_moveOn 34 = .ok (.getfield 9, 3) := by decide +kernel
theorem dX1_moveOn_37 : decode cX1_moveOn 37 = .ok (.iload_n 2, 1) := by decide +kernel
theorem dX1_moveOn_38 : decode cX1_moveOn 38 = .ok (.iconst 1, 1) := by decide +kernel
theorem dX1_moveOn_39 : decode cX1_moveOn 39 = .ok (.iadd, 1) := by decide +kernel
theorem dX1_moveOn_40 : decode cX1_moveOn 40 = .ok (.iaload, 1) := by decide +kernel
theorem dX1_moveOn_41 : decode cX1_moveOn 41 = .ok (.iconst (-1), 1) := by decide +kernel
theorem dX1_moveOn_42 : decode cX1_moveOn 42 = .ok (.if_icmp .ne 24, 3) := by decide +kernel
theorem dX1_moveOn_45 : decode cX1_moveOn 45 = .ok (.aload_n 0, 1) := by decide +kernel
theorem dX1_moveOn_46 : decode cX1_moveOn 46 = .ok (.getfield 9, 3) := by decide +kernel
theorem dX1_moveOn_49 : decode cX1_moveOn 49 = .ok (.iload_n 2, 1) := by decide +kernel
theorem dX1_moveOn_50 : decode cX1_moveOn 50 = .ok (.iconst 1, 1) := by decide +kernel
theorem dX1_moveOn_51 : decode cX1_moveOn 51 = .ok (.iadd, 1) := by decide +kernel
theorem dX1_moveOn_52 : decode cX1_moveOn 52 = .ok (.aload_n 0, 1) := by decide +kernel
theorem dX1_moveOn_53 : decode cX1_moveOn 53 = .ok (.getfield 9, 3) := by decide +kernel
theorem dX1_moveOn_56 : decode cX1_moveOn 56 = .ok (.iload_n 2, 1) := by decide +kernel
theorem dX1_moveOn_57 : decode cX1_moveOn 57 = .ok (.iaload, 1) := by decide +kernel
theorem dX1_moveOn_58 : decode cX1_moveOn 58 = .ok (.iastore, 1) := by decide +kernel
theorem dX1_moveOn_59 : decode cX1_moveOn 59 = .ok (.aload_n 0, 1) := by decide +kernel
theorem dX1_moveOn_60 : decode cX1_moveOn 60 = .ok (.getfield 9, 3) := by decide +kernel
theorem dX1_moveOn_63 : decode cX1_moveOn 63 = .ok (.iload_n 2, 1) := by decide +kernel
theorem dX1_moveOn_64 : decode cX1_moveOn 64 = .ok (.iconst (-1), 1) := by decide +kernel
theorem dX1_moveOn_65 : decode cX1_moveOn 65 = .ok (.iastore, 1) := by decide +kernel
theorem dX1_moveOn_66 : decode cX1_moveOn 66 = .ok (.iinc 2 (-1), 3) := by decide +kernel
theorem dX1_moveOn_69 : decode cX1_moveOn 69 = .ok (.goto (-41), 3) := by decide +kernel
theorem dX1_moveOn_72 : decode cX1_moveOn 72 = .ok (.return_, 1) := by decide +kernel
theorem dX1_readyBag_0 : decode cX1_readyBag 0 = .ok (.aload_n 0, 1) := by decide +kernel
theorem dX1_readyBag_1 : decode cX1_readyBag 1 = .ok (.getfield 32, 3) := by decide +kernel
theorem dX1_readyBag_4 : decode cX1_readyBag 4 = .ok (.ifCond .eq 15, 3) := by decide +kernel
theorem dX1_readyBag_7 : decode cX1_readyBag 7 = .ok (.aload_n 0, 1) := by decide +kernel
theorem dX1_readyBag_8 : decode cX1_readyBag 8 = .ok (.getfield 22, 3) := by decide +kernel
theorem dX1_readyBag_11 : decode cX1_readyBag 11 = .ok (.iconst 1, 1) := by decide +kernel
theorem dX1_readyBag_12 : decode cX1_readyBag 12 = .ok (.if_icmp .ne 7, 3) := by decide +kernel
theorem dX1_readyBag_15 : decode cX1_readyBag 15 = .ok (.iconst 1, 1) := by decide +kernel
theorem dX1_readyBag_16 : decode cX1_readyBag 16 = .ok (.goto 4, 3) := by decide +kernel
theorem dX1_readyBag_19 : decode cX1_readyBag 19 = .ok (.iconst 0, 1) := by decide +kernel
theorem dX1_readyBag_20 : decode cX1_readyBag 20 = .ok (.istore_n 1, 1) := by decide +kernel
theorem dX1_readyBag_21 : decode cX1_readyBag 21 = .ok (.aload_n 0, 1) := by decide +kernel
theorem dX1_readyBag_22 : decode cX1_readyBag 22 = .ok (.getfield 28, 3) := by decide +kernel
theorem dX1_readyBag_25 : decode cX1_readyBag 25 = .ok (.ifCond .ne 15, 3) := by decide +kernel
theorem dX1_readyBag_28 : decode cX1_readyBag 28 = .ok (.iload_n 1, 1) := by decide +kernel
theorem dX1_readyBag_29 : decode cX1_readyBag 29 = .ok (.ifCond .ne 11, 3) := by decide +kernel
theorem dX1_readyBag_32 : decode cX1_readyBag 32 = .ok (.aload_n 0, 1) := by decide +kernel
theorem dX1_readyBag_33 : decode cX1_readyBag 33 = .ok (.getfield 22, 3) := by decide +kernel
theorem dX1_readyBag_36 : decode cX1_readyBag 36 = .ok (.iconst 1, 1) := by decide +kernel
theorem dX1_readyBag_37 : decode cX1_readyBag 37 = .ok (.if_icmp .ge 7, 3) := by decide +kernel
theorem dX1_readyBag_40 : decode cX1_readyBag 40 = .ok (.iconst (-1), 1) := by decide +kernel
theorem dX1_readyBag_41 : decode cX1_readyBag 41 = .ok (.goto 14, 3) := by decide +kernel
theorem dX1_readyBag_44 : decode cX1_readyBag 44 = .ok (.aload_n 0, 1) := by decide +kernel
theorem dX1_readyBag_45 : decode cX1_readyBag 45 = .ok (.getfield 9, 3) := by decide +kernel
theorem dX1_readyBag_48 : decode cX1_readyBag 48 = .ok (.aload_n 0, 1) := by decide +kernel
theorem dX1_readyBag_49 : decode cX1_readyBag 49 = .ok (.getfield 22, 3) := by decide +kernel
theorem dX1_readyBag_52 : decode cX1_readyBag 52 = .ok (.iconst 1, 1) := by decide +kernel
theorem dX1_readyBag_53 : decode cX1_readyBag 53 = .ok (.isub, 1) := by decide +kernel
theorem dX1_readyBag_54 : decode cX1_readyBag 54 = .ok (.iaload, 1) := by decide +kernel
theorem dX1_readyBag_55 : decode cX1_readyBag 55 = .ok (.ireturn, 1) := by decide +kernel
theorem dX1_cellOf_0 : decode cX1_cellOf 0 = .ok (.iconst 0, 1) := by decide +kernel
theorem dX1_cellOf_1 : decode cX1_cellOf 1 = .ok (.istore_n 2, 1) := by decide +kernel
theorem dX1_cellOf_2 : decode cX1_cellOf 2 = .ok (.iload_n 2, 1) := by decide +kernel
theorem dX1_cellOf_3 : decode cX1_cellOf 3 = .ok (.aload_n 0, 1) := by decide +kernel
theorem dX1_cellOf_4 : decode cX1_cellOf 4 = .ok (.getfield 22, 3) := by decide +kernel
theorem dX1_cellOf_7 : decode cX1_cellOf 7 = .ok (.if_icmp .ge 21, 3) := by decide +kernel
theorem dX1_cellOf_10 : decode cX1_cellOf 10 = .ok (.aload_n 0, 1) := by decide +kernel
theorem dX1_cellOf_11 : decode cX1_cellOf 11 = .ok (.getfield 9, 3) := by decide +kernel
theorem dX1_cellOf_14 : decode cX1_cellOf 14 = .ok (.iload_n 2, 1) := by decide +kernel
theorem dX1_cellOf_15 : decode cX1_cellOf 15 = .ok (.iaload, 1) := by decide +kernel
theorem dX1_cellOf_16 : decode cX1_cellOf 16 = .ok (.iload_n 1, 1) := by decide +kernel
theorem dX1_cellOf_17 : decode cX1_cellOf 17 = .ok (.if_icmp .ne 5, 3) := by decide +kernel
theorem dX1_cellOf_20 : decode cX1_cellOf 20 = .ok (.iload_n 2, 1) := by decide +kernel
theorem dX1_cellOf_21 : decode cX1_cellOf 21 = .ok (.ireturn, 1) := by decide +kernel
theorem dX1_cellOf_22 : decode cX1_cellOf 22 = .ok (.iinc 2 1, 3) := by decide +kernel
theorem dX1_cellOf_25 : decode cX1_cellOf 25 = .ok (.goto (-23), 3) := by decide +kernel
theorem dX1_cellOf_28 : decode cX1_cellOf 28 = .ok (.iconst (-1), 1) := by decide +kernel
theorem dX1_cellOf_29 : decode cX1_cellOf 29 = .ok (.ireturn, 1) := by decide +kernel
theorem dX1_leave_0 : decode cX1_leave 0 = .ok (.aload_n 0, 1) := by decide +kernel
theorem dX1_leave_1 : decode cX1_leave 1 = .ok (.iload_n 1, 1) := by decide +kernel
theorem dX1_leave_2 : decode cX1_leave 2 = .ok (.invokevirtual 35, 3) := by decide +kernel
theorem dX1_leave_5 : decode cX1_leave 5 = .ok (.istore_n 2, 1) := by decide +kernel
theorem dX1_leave_6 : decode cX1_leave 6 = .ok (.iload_n 2, 1) := by decide +kernel
theorem dX1_leave_7 : decode cX1_leave 7 = .ok (.iconst (-1), 1) := by decide +kernel
theorem dX1_leave_8 : decode cX1_leave 8 = .ok (.if_icmp .eq 10, 3) := by decide +kernel
theorem dX1_leave_11 : decode cX1_leave 11 = .ok (.aload_n 0, 1) := by decide +kernel
theorem dX1_leave_12 : decode cX1_leave 12 = .ok (.getfield 9, 3) := by decide +kernel
theorem dX1_leave_15 : decode cX1_leave 15 = .ok (.iload_n 2, 1) := by decide +kernel
theorem dX1_leave_16 : decode cX1_leave 16 = .ok (.iconst (-1), 1) := by decide +kernel
theorem dX1_leave_17 : decode cX1_leave 17 = .ok (.iastore, 1) := by decide +kernel
theorem dX1_leave_18 : decode cX1_leave 18 = .ok (.return_, 1) := by decide +kernel
theorem dX1_copyFrom_0 : decode cX1_copyFrom 0 = .ok (.aload_n 0, 1) := by decide +kernel
theorem dX1_copyFrom_1 : decode cX1_copyFrom 1 = .ok (.aload_n 1, 1) := by decide +kernel
theorem dX1_copyFrom_2 : decode cX1_copyFrom 2 = .ok (.getfield 15, 3) := by decide +kernel
theorem dX1_copyFrom_5 : decode cX1_copyFrom 5 = .ok (.putfield 15, 3) := by decide +kernel
theorem dX1_copyFrom_8 : decode cX1_copyFrom 8 = .ok (.aload_n 0, 1) := by decide +kernel
theorem dX1_copyFrom_9 : decode cX1_copyFrom 9 = .ok (.aload_n 1, 1) := by decide +kernel
theorem dX1_copyFrom_10 : decode cX1_copyFrom 10 = .ok (.getfield 19, 3) := by decide +kernel
theorem dX1_copyFrom_13 : decode cX1_copyFrom 13 = .ok (.putfield 19, 3) := by decide +kernel
theorem dX1_copyFrom_16 : decode cX1_copyFrom 16 = .ok (.aload_n 0, 1) := by decide +kernel
theorem dX1_copyFrom_17 : decode cX1_copyFrom 17 = .ok (.aload_n 1, 1) := by decide +kernel
theorem dX1_copyFrom_18 : decode cX1_copyFrom 18 = .ok (.getfield 22, 3) := by decide +kernel
theorem dX1_copyFrom_21 : decode cX1_copyFrom 21 = .ok (.putfield 22, 3) := by decide +kernel
theorem dX1_copyFrom_24 : decode cX1_copyFrom 24 = .ok (.aload_n 0, 1) := by decide +kernel
theorem dX1_copyFrom_25 : decode cX1_copyFrom 25 = .ok (.aload_n 1, 1) := by decide +kernel
theorem dX1_copyFrom_26 : decode cX1_copyFrom 26 = .ok (.getfield 25, 3) := by decide +kernel
theorem dX1_copyFrom_29 : decode cX1_copyFrom 29 = .ok (.putfield 25, 3) := by decide +kernel
theorem dX1_copyFrom_32 : decode cX1_copyFrom 32 = .ok (.aload_n 0, 1) := by decide +kernel
theorem dX1_copyFrom_33 : decode cX1_copyFrom 33 = .ok (.aload_n 1, 1) := by decide +kernel
theorem dX1_copyFrom_34 : decode cX1_copyFrom 34 = .ok (.getfield 28, 3) := by decide +kernel
theorem dX1_copyFrom_37 : decode cX1_copyFrom 37 = .ok (.putfield 28, 3) := by decide +kernel
theorem dX1_copyFrom_40 : decode cX1_copyFrom 40 = .ok (.aload_n 0, 1) := by decide +kernel
theorem dX1_copyFrom_41 : decode cX1_copyFrom 41 = .ok (.aload_n 1, 1) := by decide +kernel
theorem dX1_copyFrom_42 : decode cX1_copyFrom 42 = .ok (.getfield 32, 3) := by decide +kernel
theorem dX1_copyFrom_45 : decode cX1_copyFrom 45 = .ok (.putfield 32, 3) := by decide +kernel
theorem dX1_copyFrom_48 : decode cX1_copyFrom 48 = .ok (.aload_n 1, 1) := by decide +kernel
theorem dX1_copyFrom_49 : decode cX1_copyFrom 49 = .ok (.getfield 9, 3) := by decide +kernel
theorem dX1_copyFrom_52 : decode cX1_copyFrom 52 = .ok (.iconst 0, 1) := by decide +kernel
theorem dX1_copyFrom_53 : decode cX1_copyFrom 53 = .ok (.aload_n 0, 1) := by decide +kernel
theorem dX1_copyFrom_54 : decode cX1_copyFrom 54 = .ok (.getfield 9, 3) := by decide +kernel
theorem dX1_copyFrom_57 : decode cX1_copyFrom 57 = .ok (.iconst 0, 1) := by decide +kernel
theorem dX1_copyFrom_58 : decode cX1_copyFrom 58 = .ok (.aload_n 0, 1) := by decide +kernel
theorem dX1_copyFrom_59 : decode cX1_copyFrom 59 = .ok (.getfield 9, 3) := by decide +kernel
theorem dX1_copyFrom_62 : decode cX1_copyFrom 62 = .ok (.arraylength, 1) := by decide +kernel
theorem dX1_copyFrom_63 : decode cX1_copyFrom 63 = .ok (.invokestatic 39, 3) := by decide +kernel
theorem dX1_copyFrom_66 : decode cX1_copyFrom 66 = .ok (.return_, 1) := by decide +kernel
theorem dX2_init_0 : decode cX2_init 0 = .ok (.aload_n 0, 1) := by decide +kernel
theorem dX2_init_1 : decode cX2_init 1 = .ok (.invokespecial 1, 3) := by decide +kernel
theorem dX2_init_4 : decode cX2_init 4 = .ok (.return_, 1) := by decide +kernel
theorem dX2_begin_0 : decode cX2_begin 0 = .ok (.aload_n 0, 1) := by decide +kernel
theorem dX2_begin_1 : decode cX2_begin 1 = .ok (.iload_n 1, 1) := by decide +kernel
theorem dX2_begin_2 : decode cX2_begin 2 = .ok (.putfield 7, 3) := by decide +kernel
theorem dX2_begin_5 : decode cX2_begin 5 = .ok (.aload_n 0, 1) := by decide +kernel
theorem dX2_begin_6 : decode cX2_begin 6 = .ok (.iload_n 2, 1) := by decide +kernel
theorem dX2_begin_7 : decode cX2_begin 7 = .ok (.putfield 13, 3) := by decide +kernel
theorem dX2_begin_10 : decode cX2_begin 10 = .ok (.aload_n 0, 1) := by decide +kernel
theorem dX2_begin_11 : decode cX2_begin 11 = .ok (.iload_n 3, 1) := by decide +kernel
theorem dX2_begin_12 : decode cX2_begin 12 = .ok (.putfield 16, 3) := by decide +kernel
theorem dX2_begin_15 : decode cX2_begin 15 = .ok (.return_, 1) := by decide +kernel
theorem dX2_copyFrom_0 : decode cX2_copyFrom 0 = .ok (.aload_n 0, 1) := by decide +kernel
theorem dX2_copyFrom_1 : decode cX2_copyFrom 1 = .ok (.aload_n 1, 1) := by decide +kernel
theorem dX2_copyFrom_2 : decode cX2_copyFrom 2 = .ok (.getfield 7, 3) := by decide +kernel
theorem dX2_copyFrom_5 : decode cX2_copyFrom 5 = .ok (.aload_n 1, 1) := by decide +kernel
theorem dX2_copyFrom_6 : decode cX2_copyFrom 6 = .ok (.getfield 13, 3) := by decide +kernel
theorem dX2_copyFrom_9 : decode cX2_copyFrom 9 = .ok (.aload_n 1, 1) := by decide +kernel
theorem dX2_copyFrom_10 : decode cX2_copyFrom 10 = .ok (.getfield 16, 3) := by decide +kernel
theorem dX2_copyFrom_13 : decode cX2_copyFrom 13 = .ok (.invokevirtual 19, 3) := by decide +kernel
theorem dX2_copyFrom_16 : decode cX2_copyFrom 16 = .ok (.return_, 1) := by decide +kernel
theorem dX3_init_0 : decode cX3_init 0 = .ok (.aload_n 0, 1) := by decide +kernel
theorem dX3_init_1 : decode cX3_init 1 = .ok (.invokespecial 3, 3) := by decide +kernel
theorem dX3_init_4 : decode cX3_init 4 = .ok (.aload_n 0, 1) := by decide +kernel
theorem dX3_init_5 : decode cX3_init 5 = .ok (.bipush 12, 2) := by decide +kernel
theorem dX3_init_7 : decode cX3_init 7 = .ok (.anewarray 9, 3) := by decide +kernel
theorem dX3_init_10 : decode cX3_init 10 = .ok (.putfield 11, 3) := by decide +kernel
theorem dX3_init_13 : decode cX3_init 13 = .ok (.aload_n 0, 1) := by decide +kernel
theorem dX3_init_14 : decode cX3_init 14 = .ok (.bipush 16, 2) := by decide +kernel
theorem dX3_init_16 : decode cX3_init 16 = .ok (.anewarray 17, 3) := by decide +kernel
theorem dX3_init_19 : decode cX3_init 19 = .ok (.putfield 19, 3) := by decide +kernel
theorem dX3_init_22 : decode cX3_init 22 = .ok (.aload_n 0, 1) := by decide +kernel
theorem dX3_init_23 : decode cX3_init 23 = .ok (.bipush 8, 2) := by decide +kernel
theorem dX3_init_25 : decode cX3_init 25 = .ok (.anewarray 23, 3) := by decide +kernel
theorem dX3_init_28 : decode cX3_init 28 = .ok (.putfield 25, 3) := by decide +kernel
theorem dX3_init_31 : decode cX3_init 31 = .ok (.aload_n 0, 1) := by decide +kernel
theorem dX3_init_32 : decode cX3_init 32 = .ok (.bipush 60, 2) := by decide +kernel
theorem dX3_init_34 : decode cX3_init 34 = .ok (.anewarray 29, 3) := by decide +kernel
theorem dX3_init_37 : decode cX3_init 37 = .ok (.putfield 31, 3) := by decide +kernel
theorem dX3_init_40 : decode cX3_init 40 = .ok (.iconst 0, 1) := by decide +kernel
theorem dX3_init_41 : decode cX3_init 41 = .ok (.istore_n 1, 1) := by decide +kernel
theorem dX3_init_42 : decode cX3_init 42 = .ok (.iload_n 1, 1) := by decide +kernel
theorem dX3_init_43 : decode cX3_init 43 = .ok (.aload_n 0, 1) := by decide +kernel
theorem dX3_init_44 : decode cX3_init 44 = .ok (.getfield 11, 3) := by decide +kernel
theorem dX3_init_47 : decode cX3_init 47 = .ok (.arraylength, 1) := by decide +kernel
theorem dX3_init_48 : decode cX3_init 48 = .ok (.if_icmp .ge 22, 3) := by decide +kernel
theorem dX3_init_51 : decode cX3_init 51 = .ok (.aload_n 0, 1) := by decide +kernel
theorem dX3_init_52 : decode cX3_init 52 = .ok (.getfield 11, 3) := by decide +kernel
theorem dX3_init_55 : decode cX3_init 55 = .ok (.iload_n 1, 1) := by decide +kernel
theorem dX3_init_56 : decode cX3_init 56 = .ok (.new 9, 3) := by decide +kernel
theorem dX3_init_59 : decode cX3_init 59 = .ok (.dup, 1) := by decide +kernel
theorem dX3_init_60 : decode cX3_init 60 = .ok (.invokespecial 35, 3) := by decide +kernel
theorem dX3_init_63 : decode cX3_init 63 = .ok (.aastore, 1) := by decide +kernel
theorem dX3_init_64 : decode cX3_init 64 = .ok (.iinc 1 1, 3) := by decide +kernel
theorem dX3_init_67 : decode cX3_init 67 = .ok (.goto (-25), 3) := by decide +kernel
theorem dX3_init_70 : decode cX3_init 70 = .ok (.iconst 0, 1) := by decide +kernel
theorem dX3_init_71 : decode cX3_init 71 = .ok (.istore_n 1, 1) := by decide +kernel
theorem dX3_init_72 : decode cX3_init 72 = .ok (.iload_n 1, 1) := by decide +kernel
theorem dX3_init_73 : decode cX3_init 73 = .ok (.aload_n 0, 1) := by decide +kernel
theorem dX3_init_74 : decode cX3_init 74 = .ok (.getfield 19, 3) := by decide +kernel
theorem dX3_init_77 : decode cX3_init 77 = .ok (.arraylength, 1) := by decide +kernel
theorem dX3_init_78 : decode cX3_init 78 = .ok (.if_icmp .ge 22, 3) := by decide +kernel
theorem dX3_init_81 : decode cX3_init 81 = .ok (.aload_n 0, 1) := by decide +kernel
theorem dX3_init_82 : decode cX3_init 82 = .ok (.getfield 19, 3) := by decide +kernel
theorem dX3_init_85 : decode cX3_init 85 = .ok (.iload_n 1, 1) := by decide +kernel
theorem dX3_init_86 : decode cX3_init 86 = .ok (.new 17, 3) := by decide +kernel
theorem dX3_init_89 : decode cX3_init 89 = .ok (.dup, 1) := by decide +kernel
theorem dX3_init_90 : decode cX3_init 90 = .ok (.invokespecial 36, 3) := by decide +kernel
theorem dX3_init_93 : decode cX3_init 93 = .ok (.aastore, 1) := by decide +kernel
theorem dX3_init_94 : decode cX3_init 94 = .ok (.iinc 1 1, 3) := by decide +kernel
theorem dX3_init_97 : decode cX3_init 97 = .ok (.goto (-25), 3) := by decide +kernel
theorem dX3_init_100 : decode cX3_init 100 = .ok (.iconst 0, 1) := by decide +kernel
theorem dX3_init_101 : decode cX3_init 101 = .ok (.istore_n 1, 1) := by decide +kernel
theorem dX3_init_102 : decode cX3_init 102 = .ok (.iload_n 1, 1) := by decide +kernel
theorem dX3_init_103 : decode cX3_init 103 = .ok (.aload_n 0, 1) := by decide +kernel
theorem dX3_init_104 : decode cX3_init 104 = .ok (.getfield 25, 3) := by decide +kernel
theorem dX3_init_107 : decode cX3_init 107 = .ok (.arraylength, 1) := by decide +kernel
theorem dX3_init_108 : decode cX3_init 108 = .ok (.if_icmp .ge 22, 3) := by decide +kernel
theorem dX3_init_111 : decode cX3_init 111 = .ok (.aload_n 0, 1) := by decide +kernel
theorem dX3_init_112 : decode cX3_init 112 = .ok (.getfield 25, 3) := by decide +kernel
theorem dX3_init_115 : decode cX3_init 115 = .ok (.iload_n 1, 1) := by decide +kernel
theorem dX3_init_116 : decode cX3_init 116 = .ok (.new 23, 3) := by decide +kernel
theorem dX3_init_119 : decode cX3_init 119 = .ok (.dup, 1) := by decide +kernel
theorem dX3_init_120 : decode cX3_init 120 = .ok (.invokespecial 37, 3) := by decide +kernel
theorem dX3_init_123 : decode cX3_init 123 = .ok (.aastore, 1) := by decide +kernel
theorem dX3_init_124 : decode cX3_init 124 = .ok (.iinc 1 1, 3) := by decide +kernel
theorem dX3_init_127 : decode cX3_init 127 = .ok (.goto (-25), 3) := by decide +kernel
theorem dX3_init_130 : decode cX3_init 130 = .ok (.iconst 0, 1) := by decide +kernel
theorem dX3_init_131 : decode cX3_init 131 = .ok (.istore_n 1, 1) := by decide +kernel
theorem dX3_init_132 : decode cX3_init 132 = .ok (.iload_n 1, 1) := by decide +kernel
theorem dX3_init_133 : decode cX3_init 133 = .ok (.aload_n 0, 1) := by decide +kernel
theorem dX3_init_134 : decode cX3_init 134 = .ok (.getfield 31, 3) := by decide +kernel
theorem dX3_init_137 : decode cX3_init 137 = .ok (.arraylength, 1) := by decide +kernel
theorem dX3_init_138 : decode cX3_init 138 = .ok (.if_icmp .ge 22, 3) := by decide +kernel
theorem dX3_init_141 : decode cX3_init 141 = .ok (.aload_n 0, 1) := by decide +kernel
theorem dX3_init_142 : decode cX3_init 142 = .ok (.getfield 31, 3) := by decide +kernel
theorem dX3_init_145 : decode cX3_init 145 = .ok (.iload_n 1, 1) := by decide +kernel
theorem dX3_init_146 : decode cX3_init 146 = .ok (.new 29, 3) := by decide +kernel
theorem dX3_init_149 : decode cX3_init 149 = .ok (.dup, 1) := by decide +kernel
theorem dX3_init_150 : decode cX3_init 150 = .ok (.invokespecial 38, 3) := by decide +kernel
theorem dX3_init_153 : decode cX3_init 153 = .ok (.aastore, 1) := by decide +kernel
theorem dX3_init_154 : decode cX3_init 154 = .ok (.iinc 1 1, 3) := by decide +kernel
theorem dX3_init_157 : decode cX3_init 157 = .ok (.goto (-25), 3) := by decide +kernel
theorem dX3_init_160 : decode cX3_init 160 = .ok (.return_, 1) := by decide +kernel
theorem dX3_hasPoint_0 : decode cX3_hasPoint 0 = .ok (.iload_n 1, 1) := by decide +kernel
theorem dX3_hasPoint_1 : decode cX3_hasPoint 1 = .ok (.ifCond .lt 15, 3) := by decide +kernel
theorem dX3_hasPoint_4 : decode cX3_hasPoint 4 = .ok (.iload_n 1, 1) := by decide +kernel
theorem dX3_hasPoint_5 : decode cX3_hasPoint 5 = .ok (.aload_n 0, 1) := by decide +kernel
theorem dX3_hasPoint_6 : decode cX3_hasPoint 6 = .ok (.getfield 39, 3) := by decide +kernel
theorem dX3_hasPoint_9 : decode cX3_hasPoint 9 = .ok (.if_icmp .ge 7, 3) := by decide +kernel
theorem dX3_hasPoint_12 : decode cX3_hasPoint 12 = .ok (.iconst 1, 1) := by decide +kernel
theorem dX3_hasPoint_13 : decode cX3_hasPoint 13 = .ok (.goto 4, 3) := by decide +kernel
theorem dX3_hasPoint_16 : decode cX3_hasPoint 16 = .ok (.iconst 0, 1) := by decide +kernel
theorem dX3_hasPoint_17 : decode cX3_hasPoint 17 = .ok (.ireturn, 1) := by decide +kernel
theorem dX3_hasBelt_0 : decode cX3_hasBelt 0 = .ok (.iload_n 1, 1) := by decide +kernel
theorem dX3_hasBelt_1 : decode cX3_hasBelt 1 = .ok (.ifCond .lt 15, 3) := by decide +kernel
theorem dX3_hasBelt_4 : decode cX3_hasBelt 4 = .ok (.iload_n 1, 1) := by decide +kernel
theorem dX3_hasBelt_5 : decode cX3_hasBelt 5 = .ok (.aload_n 0, 1) := by decide +kernel
theorem dX3_hasBelt_6 : decode cX3_hasBelt 6 = .ok (.getfield 43, 3) := by decide +kernel
theorem dX3_hasBelt_9 : decode cX3_hasBelt 9 = .ok (.if_icmp .ge 7, 3) := by decide +kernel
theorem dX3_hasBelt_12 : decode cX3_hasBelt 12 = .ok (.iconst 1, 1) := by decide +kernel
theorem dX3_hasBelt_13 : decode cX3_hasBelt 13 = .ok (.goto 4, 3) := by decide +kernel
theorem dX3_hasBelt_16 : decode cX3_hasBelt 16 = .ok (.iconst 0, 1) := by decide +kernel
theorem dX3_hasBelt_17 : decode cX3_hasBelt 17 = .ok (.ireturn, 1) := by decide +kernel
theorem dX3_hasFlight_0 : decode cX3_hasFlight 0 = .ok (.iload_n 1, 1) := by decide +kernel
theorem dX3_hasFlight_1 : decode cX3_hasFlight 1 = .ok (.ifCond .lt 15, 3) := by decide +kernel
theorem dX3_hasFlight_4 : decode cX3_hasFlight 4 = .ok (.iload_n 1, 1) := by decide +kernel
theorem dX3_hasFlight_5 : decode cX3_hasFlight 5 = .ok (.aload_n 0, 1) := by decide +kernel
theorem dX3_hasFlight_6 : decode cX3_hasFlight 6 = .ok (.getfield 46, 3) := by decide +kernel
theorem dX3_hasFlight_9 : decode cX3_hasFlight 9 = .ok (.if_icmp .ge 7, 3) := by decide +kernel
theorem dX3_hasFlight_12 : decode cX3_hasFlight 12 = .ok (.iconst 1, 1) := by decide +kernel
theorem dX3_hasFlight_13 : decode cX3_hasFlight 13 = .ok (.goto 4, 3) := by decide +kernel
theorem dX3_hasFlight_16 : decode cX3_hasFlight 16 = .ok (.iconst 0, 1) := by decide +kernel
theorem dX3_hasFlight_17 : decode cX3_hasFlight 17 = .ok (.ireturn, 1) := by decide +kernel
theorem dX3_hasBag_0 : decode cX3_hasBag 0 = .ok (.iload_n 1, 1) := by decide +kernel
theorem dX3_hasBag_1 : decode cX3_hasBag 1 = .ok (.ifCond .lt 15, 3) := by decide +kernel
theorem dX3_hasBag_4 : decode cX3_hasBag 4 = .ok (.iload_n 1, 1) := by decide +kernel
theorem dX3_hasBag_5 : decode cX3_hasBag 5 = .ok (.aload_n 0, 1) := by decide +kernel
theorem dX3_hasBag_6 : decode cX3_hasBag 6 = .ok (.getfield 49, 3) := by decide +kernel
theorem dX3_hasBag_9 : decode cX3_hasBag 9 = .ok (.if_icmp .ge 7, 3) := by decide +kernel
theorem dX3_hasBag_12 : decode cX3_hasBag 12 = .ok (.iconst 1, 1) := by decide +kernel
theorem dX3_hasBag_13 : decode cX3_hasBag 13 = .ok (.goto 4, 3) := by decide +kernel
theorem dX3_hasBag_16 : decode cX3_hasBag 16 = .ok (.iconst 0, 1) := by decide +kernel
theorem dX3_hasBag_17 : decode cX3_hasBag 17 = .ok (.ireturn, 1) := by decide +kernel
theorem dX3_isOfKind_0 : decode cX3_isOfKind 0 = .ok (.aload_n 0, 1) := by decide +kernel
theorem dX3_isOfKind_1 : decode cX3_isOfKind 1 = .ok (.iload_n 1, 1) := by decide +kernel
theorem dX3_isOfKind_2 : decode cX3_isOfKind 2 = .ok (.invokevirtual 52, 3) := by decide +kernel
theorem dX3_isOfKind_5 : decode cX3_isOfKind 5 = .ok (.ifCond .eq 20, 3) := by decide +kernel
theorem dX3_isOfKind_8 : decode cX3_isOfKind 8 = .ok (.aload_n 0, 1) := by decide +kernel
theorem dX3_isOfKind_9 : decode cX3_isOfKind 9 = .ok (.getfield 11, 3) := by decide +kernel
theorem dX3_isOfKind_12 : decode cX3_isOfKind 12 = .ok (.iload_n 1, 1) := by decide +kernel
theorem dX3_isOfKind_13 : decode cX3_isOfKind 13 = .ok (.aaload, 1) := by decide +kernel
theorem dX3_isOfKind_14 : decode cX3_isOfKind 14 = .ok (.getfield 56, 3) := by decide +kernel
theorem dX3_isOfKind_17 : decode cX3_isOfKind 17 = .ok (.iload_n 2, 1) := by decide +kernel
theorem dX3_isOfKind_18 : decode cX3_isOfKind 18 = .ok (.if_icmp .ne 7, 3) := by decide +kernel
theorem dX3_isOfKind_21 : decode cX3_isOfKind 21 = .ok (.iconst 1, 1) := by decide +kernel
theorem dX3_isOfKind_22 : decode cX3_isOfKind 22 = .ok (.goto 4, 3) := by decide +kernel
theorem dX3_isOfKind_25 : decode cX3_isOfKind 25 = .ok (.iconst 0, 1) := by decide +kernel
theorem dX3_isOfKind_26 : decode cX3_isOfKind 26 = .ok (.ireturn, 1) := by decide +kernel
theorem dX3_queue_0 : decode cX3_queue 0 = .ok (.aload_n 0, 1) := by decide +kernel
theorem dX3_queue_1 : decode cX3_queue 1 = .ok (.iload_n 1, 1) := by decide +kernel
theorem dX3_queue_2 : decode cX3_queue 2 = .ok (.invokevirtual 59, 3) := by decide +kernel
theorem dX3_queue_5 : decode cX3_queue 5 = .ok (.ifCond .eq 42, 3) := by decide +kernel
theorem dX3_queue_8 : decode cX3_queue 8 = .ok (.aload_n 0, 1) := by decide +kernel
theorem dX3_queue_9 : decode cX3_queue 9 = .ok (.iload_n 2, 1) := by decide +kernel
theorem dX3_queue_10 : decode cX3_queue 10 = .ok (.invokevirtual 52, 3) := by decide +kernel
theorem dX3_queue_13 : decode cX3_queue 13 = .ok (.ifCond .eq 34, 3) := by decide +kernel
theorem dX3_queue_16 : decode cX3_queue 16 = .ok (.aload_n 0, 1) := by decide +kernel
theorem dX3_queue_17 : decode cX3_queue 17 = .ok (.getfield 31, 3) := by decide +kernel
theorem dX3_queue_20 : decode cX3_queue 20 = .ok (.iload_n 1, 1) := by decide +kernel
theorem dX3_queue_21 : decode cX3_queue 21 = .ok (.aaload, 1) := by decide +kernel
theorem dX3_queue_22 : decode cX3_queue 22 = .ok (.iload_n 3, 1) := by decide +kernel
theorem dX3_queue_23 : decode cX3_queue 23 = .ok (.putfield 62, 3) := by decide +kernel
theorem dX3_queue_26 : decode cX3_queue 26 = .ok (.aload_n 0, 1) := by decide +kernel
theorem dX3_queue_27 : decode cX3_queue 27 = .ok (.getfield 31, 3) := by decide +kernel
theorem dX3_queue_30 : decode cX3_queue 30 = .ok (.iload_n 1, 1) := by decide +kernel
theorem dX3_queue_31 : decode cX3_queue 31 = .ok (.aaload, 1) := by decide +kernel
theorem dX3_queue_32 : decode cX3_queue 32 = .ok (.iconst 0, 1) := by decide +kernel
theorem dX3_queue_33 : decode cX3_queue 33 = .ok (.iload_n 2, 1) := by decide +kernel
theorem dX3_queue_34 : decode cX3_queue 34 = .ok (.invokevirtual 66, 3) := by decide +kernel
theorem dX3_queue_37 : decode cX3_queue 37 = .ok (.aload_n 0, 1) := by decide +kernel
theorem dX3_queue_38 : decode cX3_queue 38 = .ok (.getfield 11, 3) := by decide +kernel
theorem dX3_queue_41 : decode cX3_queue 41 = .ok (.iload_n 2, 1) := by decide +kernel
theorem dX3_queue_42 : decode cX3_queue 42 = .ok (.aaload, 1) := by decide +kernel
theorem dX3_queue_43 : decode cX3_queue 43 = .ok (.iload_n 1, 1) := by decide +kernel
theorem dX3_queue_44 : decode cX3_queue 44 = .ok (.invokevirtual 70, 3) := by decide +kernel
theorem dX3_queue_47 : decode cX3_queue 47 = .ok (.return_, 1) := by decide +kernel
theorem dX3_lift_0 : decode cX3_lift 0 = .ok (.aload_n 0, 1) := by decide +kernel
theorem dX3_lift_1 : decode cX3_lift 1 = .ok (.iload_n 1, 1) := by decide +kernel
theorem dX3_lift_2 : decode cX3_lift 2 = .ok (.invokevirtual 59, 3) := by decide +kernel
theorem dX3_lift_5 : decode cX3_lift 5 = .ok (.ifCond .ne 4, 3) := by decide +kernel
theorem dX3_lift_8 : decode cX3_lift 8 = .ok (.return_, 1) := by decide +kernel
theorem dX3_lift_9 : decode cX3_lift 9 = .ok (.aload_n 0, 1) := by decide +kernel
theorem dX3_lift_10 : decode cX3_lift 10 = .ok (.getfield 31, 3) := by decide +kernel
theorem dX3_lift_13 : decode cX3_lift 13 = .ok (.iload_n 1, 1) := by decide +kernel
theorem dX3_lift_14 : decode cX3_lift 14 = .ok (.aaload, 1) := by decide +kernel
theorem dX3_lift_15 : decode cX3_lift 15 = .ok (.astore_n 2, 1) := by decide +kernel
theorem dX3_lift_16 : decode cX3_lift 16 = .ok (.aload_n 2, 1) := by decide +kernel
theorem dX3_lift_17 : decode cX3_lift 17 = .ok (.getfield 74, 3) := by decide +kernel
theorem dX3_lift_20 : decode cX3_lift 20 = .ok (.iconst 1, 1) := by decide +kernel
theorem dX3_lift_21 : decode cX3_lift 21 = .ok (.if_icmp .ne 30, 3) := by decide +kernel
theorem dX3_lift_24 : decode cX3_lift 24 = .ok (.aload_n 0, 1) := by decide +kernel
theorem dX3_lift_25 : decode cX3_lift 25 = .ok (.aload_n 2, 1) := by decide +kernel
theorem dX3_lift_26 : decode cX3_lift 26 = .ok (.getfield 77, 3) := by decide +kernel
theorem dX3_lift_29 : decode cX3_lift 29 = .ok (.invokevirtual 80, 3) := by decide +kernel
theorem dX3_lift_32 : decode cX3_lift 32 = .ok (.ifCond .eq 43, 3) := by decide +kernel
theorem dX3_lift_35 : decode cX3_lift 35 = .ok (.aload_n 0, 1) := by decide +kernel
theorem dX3_lift_36 : decode cX3_lift 36 = .ok (.getfield 19, 3) := by decide +kernel
theorem dX3_lift_39 : decode cX3_lift 39 = .ok (.aload_n 2, 1) := by decide +kernel
theorem dX3_lift_40 : decode cX3_lift 40 = .ok (.getfield 77, 3) := by decide +kernel
theorem dX3_lift_43 : decode cX3_lift 43 = .ok (.aaload, 1) := by decide +kernel
theorem dX3_lift_44 : decode cX3_lift 44 = .ok (.iload_n 1, 1) := by decide +kernel
theorem dX3_lift_45 : decode cX3_lift 45 = .ok (.invokevirtual 83, 3) := by decide +kernel
theorem dX3_lift_48 : decode cX3_lift 48 = .ok (.goto 27, 3) := by decide +kernel
theorem dX3_lift_51 : decode cX3_lift 51 = .ok (.aload_n 0, 1) := by decide +kernel
theorem dX3_lift_52 : decode cX3_lift 52 = .ok (.aload_n 2, 1) := by decide +kernel
theorem dX3_lift_53 : decode cX3_lift 53 = .ok (.getfield 77, 3) := by decide +kernel
theorem dX3_lift_56 : decode cX3_lift 56 = .ok (.invokevirtual 52, 3) := by decide +kernel
theorem dX3_lift_59 : decode cX3_lift 59 = .ok (.ifCond .eq 16, 3) := by decide +kernel
theorem dX3_lift_62 : decode cX3_lift 62 = .ok (.aload_n 0, 1) := by decide +kernel
theorem dX3_lift_63 : decode cX3_lift 63 = .ok (.getfield 11, 3) := by decide +kernel
theorem dX3_lift_66 : decode cX3_lift 66 = .ok (.aload_n 2, 1) := by decide +kernel
theorem dX3_lift_67 : decode cX3_lift 67 = .ok (.getfield 77, 3) := by decide +kernel
theorem dX3_lift_70 : decode cX3_lift 70 = .ok (.aaload, 1) := by decide +kernel
theorem dX3_lift_71 : decode cX3_lift 71 = .ok (.iload_n 1, 1) := by decide +kernel
theorem dX3_lift_72 : decode cX3_lift 72 = .ok (.invokevirtual 86, 3) := by decide +kernel
theorem dX3_lift_75 : decode cX3_lift 75 = .ok (.aload_n 2, 1) := by decide +kernel
theorem dX3_lift_76 : decode cX3_lift 76 = .ok (.iconst 4, 1) := by decide +kernel
theorem dX3_lift_77 : decode cX3_lift 77 = .ok (.bipush (-100), 2) := by decide +kernel
theorem dX3_lift_79 : decode cX3_lift 79 = .ok (.invokevirtual 66, 3) := by decide +kernel
theorem dX3_lift_82 : decode cX3_lift 82 = .ok (.return_, 1) := by decide +kernel
theorem dX3_inletsOf_0 : decode cX3_inletsOf 0 = .ok (.iconst 0, 1) := by decide +kernel
theorem dX3_inletsOf_1 : decode cX3_inletsOf 1 = .ok (.istore_n 2, 1) := by decide +kernel
theorem dX3_inletsOf_2 : decode cX3_inletsOf 2 = .ok (.iconst 0, 1) := by decide +kernel
theorem dX3_inletsOf_3 : decode cX3_inletsOf 3 = .ok (.istore_n 3, 1) := by decide +kernel
theorem dX3_inletsOf_4 : decode cX3_inletsOf 4 = .ok (.iload_n 3, 1) := by decide +kernel
theorem dX3_inletsOf_5 : decode cX3_inletsOf 5 = .ok (.aload_n 0, 1) := by decide +kernel
theorem dX3_inletsOf_6 : decode cX3_inletsOf 6 = .ok (.getfield 43, 3) := by decide +kernel
theorem dX3_inletsOf_9 : decode cX3_inletsOf 9 = .ok (.if_icmp .ge 25, 3) := by decide +kernel
theorem dX3_inletsOf_12 : decode cX3_inletsOf 12 = .ok (.aload_n 0, 1) := by decide +kernel
theorem dX3_inletsOf_13 : decode cX3_inletsOf 13 = .ok (.getfield 19, 3) := by decide +kernel
theorem dX3_inletsOf_16 : decode cX3_inletsOf 16 = .ok (.iload_n 3, 1) := by decide +kernel
theorem dX3_inletsOf_17 : decode cX3_inletsOf 17 = .ok (.aaload, 1) := by decide +kernel
theorem dX3_inletsOf_18 : decode cX3_inletsOf 18 = .ok (.getfield 87, 3) := by decide +kernel
theorem dX3_inletsOf_21 : decode cX3_inletsOf 21 = .ok (.iload_n 1, 1) := by decide +kernel
theorem dX3_inletsOf_22 : decode cX3_inletsOf 22 = .ok (.if_icmp .ne 6, 3) := by decide +kernel
theorem dX3_inletsOf_25 : decode cX3_inletsOf 25 = .ok (.iinc 2 1, 3) := by decide +kernel
theorem dX3_inletsOf_28 : decode cX3_inletsOf 28 = .ok (.iinc 3 1, 3) := by decide +kernel
theorem dX3_inletsOf_31 : decode cX3_inletsOf 31 = .ok (.goto (-27), 3) := by decide +kernel
theorem dX3_inletsOf_34 : decode cX3_inletsOf 34 = .ok (.iload_n 2, 1) := by decide +kernel
theorem dX3_inletsOf_35 : decode cX3_inletsOf 35 = .ok (.ireturn, 1) := by decide +kernel
theorem dX3_inletBehind_0 : decode cX3_inletBehind 0 = .ok (.iconst (-1), 1) := by decide +kernel
theorem dX3_inletBehind_1 : decode cX3_inletBehind 1 = .ok (.istore_n 3, 1) := by decide +kernel
theorem dX3_inletBehind_2 : decode cX3_inletBehind 2 = .ok (.iconst 0, 1) := by decide +kernel
theorem dX3_inletBehind_3 : decode cX3_inletBehind 3 = .ok (.istore 4, 2) := by decide +kernel
theorem dX3_inletBehind_5 : decode cX3_inletBehind 5 = .ok (.iload 4, 2) := by decide +kernel
theorem dX3_inletBehind_7 : decode cX3_inletBehind 7 = .ok (.aload_n 0, 1) := by decide +kernel
theorem dX3_inletBehind_8 : decode cX3_inletBehind 8 = .ok (.getfield 43, 3) := by decide +kernel
theorem dX3_inletBehind_11 : decode cX3_inletBehind 11 = .ok (.if_icmp .ge 40, 3) := by decide +kernel
theorem dX3_inletBehind_14 : decode cX3_inletBehind 14 = .ok (.aload_n 0, 1) := by decide +kernel
theorem dX3_inletBehind_15 : decode cX3_inletBehind 15 = .ok (.getfield 19, 3) := by decide +kernel
theorem dX3_inletBehind_18 : decode cX3_inletBehind 18 = .ok (.iload 4, 2) := by decide +kernel
theorem dX3_inletBehind_20 : decode cX3_inletBehind 20 = .ok (.aaload, 1) := by decide +kernel
theorem dX3_inletBehind_21 : decode cX3_inletBehind 21 = .ok (.getfield 87, 3) := by decide +kernel
theorem dX3_inletBehind_24 : decode cX3_inletBehind 24 = .ok (.iload_n 2, 1) := by decide +kernel
theorem dX3_inletBehind_25 : decode cX3_inletBehind 25 = .ok (.if_icmp .ne 20, 3) := by decide +kernel
theorem dX3_inletBehind_28 : decode cX3_inletBehind 28 = .ok (.iload 4, 2) := by decide +kernel
theorem dX3_inletBehind_30 : decode cX3_inletBehind 30 = .ok (.iload_n 1, 1) := by decide +kernel
theorem dX3_inletBehind_31 : decode cX3_inletBehind 31 = .ok (.if_icmp .le 6, 3) := by decide +kernel
theorem dX3_inletBehind_34 : decode cX3_inletBehind 34 = .ok (.iload 4, 2) := by decide +kernel
theorem dX3_inletBehind_36 : decode cX3_inletBehind 36 = .ok (.ireturn, 1) := by decide +kernel
theorem dX3_inletBehind_37 : decode cX3_inletBehind 37 = .ok (.iload_n 3, 1) := by decide +kernel
theorem dX3_inletBehind_38 : decode cX3_inletBehind 38 = .ok (.iconst (-1), 1) := by decide +kernel
theorem dX3_inletBehind_39 : decode cX3_inletBehind 39 = .ok (.if_icmp .ne 6, 3) := by decide +kernel
theorem dX3_inletBehind_42 : decode cX3_inletBehind 42 = .ok (.iload 4, 2) := by decide +kernel
theorem dX3_inletBehind_44 : decode cX3_inletBehind 44 = .ok (.istore_n 3, 1) := by decide +kernel
theorem dX3_inletBehind_45 : decode cX3_inletBehind 45 = .ok (.iinc 4 1, 3) := by decide +kernel
theorem dX3_inletBehind_48 : decode cX3_inletBehind 48 = .ok (.goto (-43), 3) := by decide +kernel
theorem dX3_inletBehind_51 : decode cX3_inletBehind 51 = .ok (.iload_n 3, 1) := by decide +kernel
theorem dX3_inletBehind_52 : decode cX3_inletBehind 52 = .ok (.ireturn, 1) := by decide +kernel
theorem dX3_lowestSoundOutlet_0 : decode cX3_lowestSoundOutlet 0 = .ok (.iconst 0, 1) := by decide +kernel
theorem dX3_lowestSoundOutlet_1 : decode cX3_lowestSoundOutlet 1 = .ok (.istore_n 2, 1) := by decide +kernel
theorem dX3_lowestSoundOutlet_2 : decode cX3_lowestSoundOutlet 2 = .ok (.iload_n 2, 1) := by decide +kernel
theorem dX3_lowestSoundOutlet_3 : decode cX3_lowestSoundOutlet 3 = .ok (.aload_n 0, 1) := by decide +kernel
theorem dX3_lowestSoundOutlet_4 : decode cX3_lowestSoundOutlet 4 = .ok (.getfield 43, 3) := by decide +kernel
theorem dX3_lowestSoundOutlet_7 : decode cX3_lowestSoundOutlet 7 = .ok (.if_icmp .ge 36, 3) := by decide +kernel
theorem dX3_lowestSoundOutlet_10 : decode cX3_lowestSoundOutlet 10 = .ok (.aload_n 0, 1) := by decide +kernel
theorem dX3_lowestSoundOutlet_11 : decode cX3_lowestSoundOutlet 11 = .ok (.getfield 19, 3) := by decide +kernel
theorem dX3_lowestSoundOutlet_14 : decode cX3_lowestSoundOutlet 14 = .ok (.iload_n 2, 1) := by decide +kernel
theorem dX3_lowestSoundOutlet_15 : decode cX3_lowestSoundOutlet 15 = .ok (.aaload, 1) := by decide +kernel
theorem dX3_lowestSoundOutlet_16 : decode cX3_lowestSoundOutlet 16 = .ok (.getfield 90, 3) := by decide +kernel
theorem dX3_lowestSoundOutlet_19 : decode cX3_lowestSoundOutlet 19 = .ok (.iload_n 1, 1) := by decide +kernel
theorem dX3_lowestSoundOutlet_20 : decode cX3_lowestSoundOutlet 20 = .ok (.if_icmp .ne 17, 3) := by decide +kernel
theorem dX3_lowestSoundOutlet_23 : decode cX3_lowestSoundOutlet 23 = .ok (.aload_n 0, 1) := by decide +kernel
theorem dX3_lowestSoundOutlet_24 : decode cX3_lowestSoundOutlet 24 = .ok (.getfield 19, 3) := by decide +kernel
theorem dX3_lowestSoundOutlet_27 : decode cX3_lowestSoundOutlet 27 = .ok (.iload_n 2, 1) := by decide +kernel
theorem dX3_lowestSoundOutlet_28 : decode cX3_lowestSoundOutlet 28 = .ok (.aaload, 1) := by decide +kernel
theorem dX3_lowestSoundOutlet_29 : decode cX3_lowestSoundOutlet 29 = .ok (.getfield 93, 3) := by decide +kernel
theorem dX3_lowestSoundOutlet_32 : decode cX3_lowestSoundOutlet 32 = .ok (.ifCond .ne 5, 3) := by decide +kernel
theorem dX3_lowestSoundOutlet_35 : decode cX3_lowestSoundOutlet 35 = .ok (.iload_n 2, 1) := by decide +kernel
theorem dX3_lowestSoundOutlet_36 : decode cX3_lowestSoundOutlet 36 = .ok (.ireturn, 1) := by decide +kernel
theorem dX3_lowestSoundOutlet_37 : decode cX3_lowestSoundOutlet 37 = .ok (.iinc 2 1, 3) := by decide +kernel
theorem dX3_lowestSoundOutlet_40 : decode cX3_lowestSoundOutlet 40 = .ok (.goto (-38), 3) := by decide +kernel
theorem dX3_lowestSoundOutlet_43 : decode cX3_lowestSoundOutlet 43 = .ok (.iconst (-1), 1) := by decide +kernel
theorem dX3_lowestSoundOutlet_44 : decode cX3_lowestSoundOutlet 44 = .ok (.ireturn, 1) := by decide +kernel
theorem dX3_screenOutlet_0 : decode cX3_screenOutlet 0 = .ok (.iconst (-1), 1) := by decide +kernel
theorem dX3_screenOutlet_1 : decode cX3_screenOutlet 1 = .ok (.istore_n 3, 1) := by decide +kernel
theorem dX3_screenOutlet_2 : decode cX3_screenOutlet 2 = .ok (.iconst 0, 1) := by decide +kernel
theorem dX3_screenOutlet_3 : decode cX3_screenOutlet 3 = .ok (.istore 4, 2) := by decide +kernel
theorem dX3_screenOutlet_5 : decode cX3_screenOutlet 5 = .ok (.iload 4, 2) := by decide +kernel
theorem dX3_screenOutlet_7 : decode cX3_screenOutlet 7 = .ok (.aload_n 0, 1) := by decide +kernel
theorem dX3_screenOutlet_8 : decode cX3_screenOutlet 8 = .ok (.getfield 43, 3) := by decide +kernel
theorem dX3_screenOutlet_11 : decode cX3_screenOutlet 11 = .ok (.if_icmp .ge 40, 3) := by decide +kernel
theorem dX3_screenOutlet_14 : decode cX3_screenOutlet 14 = .ok (.aload_n 0, 1) := by decide +kernel
theorem dX3_screenOutlet_15 : decode cX3_screenOutlet 15 = .ok (.getfield 19, 3) := by decide +kernel
theorem dX3_screenOutlet_18 : decode cX3_screenOutlet 18 = .ok (.iload 4, 2) := by decide +kernel
theorem dX3_screenOutlet_20 : decode cX3_screenOutlet 20 = .ok (.aaload, 1) := by decide +kernel
theorem dX3_screenOutlet_21 : decode cX3_screenOutlet 21 = .ok (.getfield 90, 3) := by decide +kernel
theorem dX3_screenOutlet_24 : decode cX3_screenOutlet 24 = .ok (.iload_n 1, 1) := by decide +kernel
theorem dX3_screenOutlet_25 : decode cX3_screenOutlet 25 = .ok (.if_icmp .ne 20, 3) := by decide +kernel
theorem dX3_screenOutlet_28 : decode cX3_screenOutlet 28 = .ok (.iload_n 3, 1) := by decide +kernel
theorem dX3_screenOutlet_29 : decode cX3_screenOutlet 29 = .ok (.iconst (-1), 1) := by decide +kernel
theorem dX3_screenOutlet_30 : decode cX3_screenOutlet 30 = .ok (.if_icmp .eq 6, 3) := by decide +kernel
theorem dX3_screenOutlet_33 : decode cX3_screenOutlet 33 = .ok (.iload 4, 2) := by decide +kernel
theorem dX3_screenOutlet_35 : decode cX3_screenOutlet 35 = .ok (.ireturn, 1) := by decide +kernel
theorem dX3_screenOutlet_36 : decode cX3_screenOutlet 36 = .ok (.iload 4, 2) := by decide +kernel
theorem dX3_screenOutlet_38 : decode cX3_screenOutlet 38 = .ok (.istore_n 3, 1) := by decide +kernel
theorem dX3_screenOutlet_39 : decode cX3_screenOutlet 39 = .ok (.iload_n 2, 1) := by decide +kernel
theorem dX3_screenOutlet_40 : decode cX3_screenOutlet 40 = .ok (.ifCond .ne 5, 3) := by decide +kernel
theorem dX3_screenOutlet_43 : decode cX3_screenOutlet 43 = .ok (.iload_n 3, 1) := by decide +kernel
theorem dX3_screenOutlet_44 : decode cX3_screenOutlet 44 = .ok (.ireturn, 1) := by decide +kernel
theorem dX3_screenOutlet_45 : decode cX3_screenOutlet 45 = .ok (.iinc 4 1, 3) := by decide +kernel
theorem dX3_screenOutlet_48 : decode cX3_screenOutlet 48 = .ok (.goto (-43), 3) := by decide +kernel
theorem dX3_screenOutlet_51 : decode cX3_screenOutlet 51 = .ok (.iload_n 3, 1) := by decide +kernel
theorem dX3_screenOutlet_52 : decode cX3_screenOutlet 52 = .ok (.ireturn, 1) := by decide +kernel
theorem dX3_bagsThatAre_0 : decode cX3_bagsThatAre 0 = .ok (.iconst 0, 1) := by decide +kernel
theorem dX3_bagsThatAre_1 : decode cX3_bagsThatAre 1 = .ok (.istore_n 2, 1) := by decide +kernel
theorem dX3_bagsThatAre_2 : decode cX3_bagsThatAre 2 = .ok (.iconst 0, 1) := by decide +kernel
theorem dX3_bagsThatAre_3 : decode cX3_bagsThatAre 3 = .ok (.istore_n 3, 1) := by decide +kernel
theorem dX3_bagsThatAre_4 : decode cX3_bagsThatAre 4 = .ok (.iload_n 3, 1) := by decide +kernel
theorem dX3_bagsThatAre_5 : decode cX3_bagsThatAre 5 = .ok (.aload_n 0, 1) := by decide +kernel
theorem dX3_bagsThatAre_6 : decode cX3_bagsThatAre 6 = .ok (.getfield 49, 3) := by decide +kernel
theorem dX3_bagsThatAre_9 : decode cX3_bagsThatAre 9 = .ok (.if_icmp .ge 25, 3) := by decide +kernel
theorem dX3_bagsThatAre_12 : decode cX3_bagsThatAre 12 = .ok (.aload_n 0, 1) := by decide +kernel
theorem dX3_bagsThatAre_13 : decode cX3_bagsThatAre 13 = .ok (.getfield 31, 3) := by decide +kernel
theorem dX3_bagsThatAre_16 : decode cX3_bagsThatAre 16 = .ok (.iload_n 3, 1) := by decide +kernel
theorem dX3_bagsThatAre_17 : decode cX3_bagsThatAre 17 = .ok (.aaload, 1) := by decide +kernel
theorem dX3_bagsThatAre_18 : decode cX3_bagsThatAre 18 = .ok (.getfield 74, 3) := by decide +kernel
theorem dX3_bagsThatAre_21 : decode cX3_bagsThatAre 21 = .ok (.iload_n 1, 1) := by decide +kernel
theorem dX3_bagsThatAre_22 : decode cX3_bagsThatAre 22 = .ok (.if_icmp .ne 6, 3) := by decide +kernel
theorem dX3_bagsThatAre_25 : decode cX3_bagsThatAre 25 = .ok (.iinc 2 1, 3) := by decide +kernel
theorem dX3_bagsThatAre_28 : decode cX3_bagsThatAre 28 = .ok (.iinc 3 1, 3) := by decide +kernel
theorem dX3_bagsThatAre_31 : decode cX3_bagsThatAre 31 = .ok (.goto (-27), 3) := by decide +kernel
theorem dX3_bagsThatAre_34 : decode cX3_bagsThatAre 34 = .ok (.iload_n 2, 1) := by decide +kernel
theorem dX3_bagsThatAre_35 : decode cX3_bagsThatAre 35 = .ok (.ireturn, 1) := by decide +kernel
theorem dX3_bagsOfFlight_0 : decode cX3_bagsOfFlight 0 = .ok (.iconst 0, 1) := by decide +kernel
theorem dX3_bagsOfFlight_1 : decode cX3_bagsOfFlight 1 = .ok (.istore_n 2, 1) := by decide +kernel
theorem dX3_bagsOfFlight_2 : decode cX3_bagsOfFlight 2 = .ok (.iconst 0, 1) := by decide +kernel
theorem dX3_bagsOfFlight_3 : decode cX3_bagsOfFlight 3 = .ok (.istore_n 3, 1) := by decide +kernel
theorem dX3_bagsOfFlight_4 : decode cX3_bagsOfFlight 4 = .ok (.iload_n 3, 1) := by decide +kernel
theorem dX3_bagsOfFlight_5 : decode cX3_bagsOfFlight 5 = .ok (.aload_n 0, 1) := by decide +kernel
theorem dX3_bagsOfFlight_6 : decode cX3_bagsOfFlight 6 = .ok (.getfield 49, 3) := by decide +kernel
theorem dX3_bagsOfFlight_9 : decode cX3_bagsOfFlight 9 = .ok (.if_icmp .ge 25, 3) := by decide +kernel
theorem dX3_bagsOfFlight_12 : decode cX3_bagsOfFlight 12 = .ok (.aload_n 0, 1) := by decide +kernel
theorem dX3_bagsOfFlight_13 : decode cX3_bagsOfFlight 13 = .ok (.getfield 31, 3) := by decide +kernel
theorem dX3_bagsOfFlight_16 : decode cX3_bagsOfFlight 16 = .ok (.iload_n 3, 1) := by decide +kernel
theorem dX3_bagsOfFlight_17 : decode cX3_bagsOfFlight 17 = .ok (.aaload, 1) := by decide +kernel
theorem dX3_bagsOfFlight_18 : decode cX3_bagsOfFlight 18 = .ok (.getfield 96, 3) := by decide +kernel
theorem dX3_bagsOfFlight_21 : decode cX3_bagsOfFlight 21 = .ok (.iload_n 1, 1) := by decide +kernel
theorem dX3_bagsOfFlight_22 : decode cX3_bagsOfFlight 22 = .ok (.if_icmp .ne 6, 3) := by decide +kernel
theorem dX3_bagsOfFlight_25 : decode cX3_bagsOfFlight 25 = .ok (.iinc 2 1, 3) := by decide +kernel
theorem dX3_bagsOfFlight_28 : decode cX3_bagsOfFlight 28 = .ok (.iinc 3 1, 3) := by decide +kernel
theorem dX3_bagsOfFlight_31 : decode cX3_bagsOfFlight 31 = .ok (.goto (-27), 3) := by decide +kernel
theorem dX3_bagsOfFlight_34 : decode cX3_bagsOfFlight 34 = .ok (.iload_n 2, 1) := by decide +kernel
theorem dX3_bagsOfFlight_35 : decode cX3_bagsOfFlight 35 = .ok (.ireturn, 1) := by decide +kernel
theorem dX3_bagsOfFlight__0 : decode cX3_bagsOfFlight_ 0 = .ok (.iconst 0, 1) := by decide +kernel
theorem dX3_bagsOfFlight__1 : decode cX3_bagsOfFlight_ 1 = .ok (.istore_n 3, 1) := by decide +kernel
theorem dX3_bagsOfFlight__2 : decode cX3_bagsOfFlight_ 2 = .ok (.iconst 0, 1) := by decide +kernel
theorem dX3_bagsOfFlight__3 : decode cX3_bagsOfFlight_ 3 = .ok (.istore 4, 2) := by decide +kernel
theorem dX3_bagsOfFlight__5 : decode cX3_bagsOfFlight_ 5 = .ok (.iload 4, 2) := by decide +kernel
theorem dX3_bagsOfFlight__7 : decode cX3_bagsOfFlight_ 7 = .ok (.aload_n 0, 1) := by decide +kernel
theorem dX3_bagsOfFlight__8 : decode cX3_bagsOfFlight_ 8 = .ok (.getfield 49, 3) := by decide +kernel
theorem dX3_bagsOfFlight__11 : decode cX3_bagsOfFlight_ 11 = .ok (.if_icmp .ge 40, 3) := by decide +kernel
theorem dX3_bagsOfFlight__14 : decode cX3_bagsOfFlight_ 14 = .ok (.aload_n 0, 1) := by decide +kernel
theorem dX3_bagsOfFlight__15 : decode cX3_bagsOfFlight_ 15 = .ok (.getfield 31, 3) := by decide +kernel
theorem dX3_bagsOfFlight__18 : decode cX3_bagsOfFlight_ 18 = .ok (.iload 4, 2) := by decide +kernel
theorem dX3_bagsOfFlight__20 : decode cX3_bagsOfFlight_ 20 = .ok (.aaload, 1) := by decide +kernel
theorem dX3_bagsOfFlight__21 : decode cX3_bagsOfFlight_ 21 = .ok (.getfield 96, 3) := by decide +kernel
theorem dX3_bagsOfFlight__24 : decode cX3_bagsOfFlight_ 24 = .ok (.iload_n 1, 1) := by decide +kernel
theorem dX3_bagsOfFlight__25 : decode cX3_bagsOfFlight_ 25 = .ok (.if_icmp .ne 20, 3) := by decide +kernel
theorem dX3_bagsOfFlight__28 : decode cX3_bagsOfFlight_ 28 = .ok (.aload_n 0, 1) := by decide +kernel
theorem dX3_bagsOfFlight__29 : decode cX3_bagsOfFlight_ 29 = .ok (.getfield 31, 3) := by decide +kernel
theorem dX3_bagsOfFlight__32 : decode cX3_bagsOfFlight_ 32 = .ok (.iload 4, 2) := by decide +kernel
theorem dX3_bagsOfFlight__34 : decode cX3_bagsOfFlight_ 34 = .ok (.aaload, 1) := by decide +kernel
theorem dX3_bagsOfFlight__35 : decode cX3_bagsOfFlight_ 35 = .ok (.getfield 74, 3) := by decide +kernel
theorem dX3_bagsOfFlight__38 : decode cX3_bagsOfFlight_ 38 = .ok (.iload_n 2, 1) := by decide +kernel
theorem dX3_bagsOfFlight__39 : decode cX3_bagsOfFlight_ 39 = .ok (.if_icmp .ne 6, 3) := by decide +kernel
theorem dX3_bagsOfFlight__42 : decode cX3_bagsOfFlight_ 42 = .ok (.iinc 3 1, 3) := by decide +kernel
theorem dX3_bagsOfFlight__45 : decode cX3_bagsOfFlight_ 45 = .ok (.iinc 4 1, 3) := by decide +kernel
theorem dX3_bagsOfFlight__48 : decode cX3_bagsOfFlight_ 48 = .ok (.goto (-43), 3) := by decide +kernel
theorem dX3_bagsOfFlight__51 : decode cX3_bagsOfFlight_ 51 = .ok (.iload_n 3, 1) := by decide +kernel
theorem dX3_bagsOfFlight__52 : decode cX3_bagsOfFlight_ 52 = .ok (.ireturn, 1) := by decide +kernel
theorem dX3_fallenBelts_0 : decode cX3_fallenBelts 0 = .ok (.iconst 0, 1) := by decide +kernel
theorem dX3_fallenBelts_1 : decode cX3_fallenBelts 1 = .ok (.istore_n 1, 1) := by decide +kernel
theorem dX3_fallenBelts_2 : decode cX3_fallenBelts 2 = .ok (.iconst 0, 1) := by decide +kernel
theorem dX3_fallenBelts_3 : decode cX3_fallenBelts 3 = .ok (.istore_n 2, 1) := by decide +kernel
theorem dX3_fallenBelts_4 : decode cX3_fallenBelts 4 = .ok (.iload_n 2, 1) := by decide +kernel
theorem dX3_fallenBelts_5 : decode cX3_fallenBelts 5 = .ok (.aload_n 0, 1) := by decide +kernel
theorem dX3_fallenBelts_6 : decode cX3_fallenBelts 6 = .ok (.getfield 43, 3) := by decide +kernel
theorem dX3_fallenBelts_9 : decode cX3_fallenBelts 9 = .ok (.if_icmp .ge 24, 3) := by decide +kernel
theorem dX3_fallenBelts_12 : decode cX3_fallenBelts 12 = .ok (.aload_n 0, 1) := by decide +kernel
theorem dX3_fallenBelts_13 : decode cX3_fallenBelts 13 = .ok (.getfield 19, 3) := by decide +kernel
theorem dX3_fallenBelts_16 : decode cX3_fallenBelts 16 = .ok (.iload_n 2, 1) := by decide +kernel
theorem dX3_fallenBelts_17 : decode cX3_fallenBelts 17 = .ok (.aaload, 1) := by decide +kernel
theorem dX3_fallenBelts_18 : decode cX3_fallenBelts 18 = .ok (.getfield 93, 3) := by decide +kernel
theorem dX3_fallenBelts_21 : decode cX3_fallenBelts 21 = .ok (.ifCond .eq 6, 3) := by decide +kernel
theorem dX3_fallenBelts_24 : decode cX3_fallenBelts 24 = .ok (.iinc 1 1, 3) := by decide +kernel
theorem dX3_fallenBelts_27 : decode cX3_fallenBelts 27 = .ok (.iinc 2 1, 3) := by decide +kernel
theorem dX3_fallenBelts_30 : decode cX3_fallenBelts 30 = .ok (.goto (-26), 3) := by decide +kernel
theorem dX3_fallenBelts_33 : decode cX3_fallenBelts 33 = .ok (.iload_n 1, 1) := by decide +kernel
theorem dX3_fallenBelts_34 : decode cX3_fallenBelts 34 = .ok (.ireturn, 1) := by decide +kernel
theorem dX3_copyFrom_0 : decode cX3_copyFrom 0 = .ok (.iconst 0, 1) := by decide +kernel
theorem dX3_copyFrom_1 : decode cX3_copyFrom 1 = .ok (.istore_n 2, 1) := by decide +kernel
theorem dX3_copyFrom_2 : decode cX3_copyFrom 2 = .ok (.iload_n 2, 1) := by decide +kernel
theorem dX3_copyFrom_3 : decode cX3_copyFrom 3 = .ok (.bipush 12, 2) := by decide +kernel
theorem dX3_copyFrom_5 : decode cX3_copyFrom 5 = .ok (.if_icmp .ge 24, 3) := by decide +kernel
theorem dX3_copyFrom_8 : decode cX3_copyFrom 8 = .ok (.aload_n 0, 1) := by decide +kernel
theorem dX3_copyFrom_9 : decode cX3_copyFrom 9 = .ok (.getfield 11, 3) := by decide +kernel
theorem dX3_copyFrom_12 : decode cX3_copyFrom 12 = .ok (.iload_n 2, 1) := by decide +kernel
theorem dX3_copyFrom_13 : decode cX3_copyFrom 13 = .ok (.aaload, 1) := by decide +kernel
theorem dX3_copyFrom_14 : decode cX3_copyFrom 14 = .ok (.aload_n 1, 1) := by decide +kernel
theorem dX3_copyFrom_15 : decode cX3_copyFrom 15 = .ok (.getfield 11, 3) := by decide +kernel
theorem dX3_copyFrom_18 : decode cX3_copyFrom 18 = .ok (.iload_n 2, 1) := by decide +kernel
theorem dX3_copyFrom_19 : decode cX3_copyFrom 19 = .ok (.aaload, 1) := by decide +kernel
theorem dX3_copyFrom_20 : decode cX3_copyFrom 20 = .ok (.invokevirtual 99, 3) := by decide +kernel
theorem dX3_copyFrom_23 : decode cX3_copyFrom 23 = .ok (.iinc 2 1, 3) := by decide +kernel
theorem dX3_copyFrom_26 : decode cX3_copyFrom 26 = .ok (.goto (-24), 3) := by decide +kernel
theorem dX3_copyFrom_29 : decode cX3_copyFrom 29 = .ok (.iconst 0, 1) := by decide +kernel
theorem dX3_copyFrom_30 : decode cX3_copyFrom 30 = .ok (.istore_n 2, 1) := by decide +kernel
theorem dX3_copyFrom_31 : decode cX3_copyFrom 31 = .ok (.iload_n 2, 1) := by decide +kernel
theorem dX3_copyFrom_32 : decode cX3_copyFrom 32 = .ok (.bipush 16, 2) := by decide +kernel
theorem dX3_copyFrom_34 : decode cX3_copyFrom 34 = .ok (.if_icmp .ge 24, 3) := by decide +kernel
theorem dX3_copyFrom_37 : decode cX3_copyFrom 37 = .ok (.aload_n 0, 1) := by decide +kernel
theorem dX3_copyFrom_38 : decode cX3_copyFrom 38 = .ok (.getfield 19, 3) := by decide +kernel
theorem dX3_copyFrom_41 : decode cX3_copyFrom 41 = .ok (.iload_n 2, 1) := by decide +kernel
theorem dX3_copyFrom_42 : decode cX3_copyFrom 42 = .ok (.aaload, 1) := by decide +kernel
theorem dX3_copyFrom_43 : decode cX3_copyFrom 43 = .ok (.aload_n 1, 1) := by decide +kernel
theorem dX3_copyFrom_44 : decode cX3_copyFrom 44 = .ok (.getfield 19, 3) := by decide +kernel
theorem dX3_copyFrom_47 : decode cX3_copyFrom 47 = .ok (.iload_n 2, 1) := by decide +kernel
theorem dX3_copyFrom_48 : decode cX3_copyFrom 48 = .ok (.aaload, 1) := by decide +kernel
theorem dX3_copyFrom_49 : decode cX3_copyFrom 49 = .ok (.invokevirtual 103, 3) := by decide +kernel
theorem dX3_copyFrom_52 : decode cX3_copyFrom 52 = .ok (.iinc 2 1, 3) := by decide +kernel
theorem dX3_copyFrom_55 : decode cX3_copyFrom 55 = .ok (.goto (-24), 3) := by decide +kernel
theorem dX3_copyFrom_58 : decode cX3_copyFrom 58 = .ok (.iconst 0, 1) := by decide +kernel
theorem dX3_copyFrom_59 : decode cX3_copyFrom 59 = .ok (.istore_n 2, 1) := by decide +kernel
theorem dX3_copyFrom_60 : decode cX3_copyFrom 60 = .ok (.iload_n 2, 1) := by decide +kernel
theorem dX3_copyFrom_61 : decode cX3_copyFrom 61 = .ok (.bipush 8, 2) := by decide +kernel
theorem dX3_copyFrom_63 : decode cX3_copyFrom 63 = .ok (.if_icmp .ge 24, 3) := by decide +kernel
theorem dX3_copyFrom_66 : decode cX3_copyFrom 66 = .ok (.aload_n 0, 1) := by decide +kernel
theorem dX3_copyFrom_67 : decode cX3_copyFrom 67 = .ok (.getfield 25, 3) := by decide +kernel
theorem dX3_copyFrom_70 : decode cX3_copyFrom 70 = .ok (.iload_n 2, 1) := by decide +kernel
theorem dX3_copyFrom_71 : decode cX3_copyFrom 71 = .ok (.aaload, 1) := by decide +kernel
theorem dX3_copyFrom_72 : decode cX3_copyFrom 72 = .ok (.aload_n 1, 1) := by decide +kernel
theorem dX3_copyFrom_73 : decode cX3_copyFrom 73 = .ok (.getfield 25, 3) := by decide +kernel
theorem dX3_copyFrom_76 : decode cX3_copyFrom 76 = .ok (.iload_n 2, 1) := by decide +kernel
theorem dX3_copyFrom_77 : decode cX3_copyFrom 77 = .ok (.aaload, 1) := by decide +kernel
theorem dX3_copyFrom_78 : decode cX3_copyFrom 78 = .ok (.invokevirtual 106, 3) := by decide +kernel
theorem dX3_copyFrom_81 : decode cX3_copyFrom 81 = .ok (.iinc 2 1, 3) := by decide +kernel
theorem dX3_copyFrom_84 : decode cX3_copyFrom 84 = .ok (.goto (-24), 3) := by decide +kernel
theorem dX3_copyFrom_87 : decode cX3_copyFrom 87 = .ok (.iconst 0, 1) := by decide +kernel
theorem dX3_copyFrom_88 : decode cX3_copyFrom 88 = .ok (.istore_n 2, 1) := by decide +kernel
theorem dX3_copyFrom_89 : decode cX3_copyFrom 89 = .ok (.iload_n 2, 1) := by decide +kernel
theorem dX3_copyFrom_90 : decode cX3_copyFrom 90 = .ok (.bipush 60, 2) := by decide +kernel
theorem dX3_copyFrom_92 : decode cX3_copyFrom 92 = .ok (.if_icmp .ge 24, 3) := by decide +kernel
theorem dX3_copyFrom_95 : decode cX3_copyFrom 95 = .ok (.aload_n 0, 1) := by decide +kernel
theorem dX3_copyFrom_96 : decode cX3_copyFrom 96 = .ok (.getfield 31, 3) := by decide +kernel
theorem dX3_copyFrom_99 : decode cX3_copyFrom 99 = .ok (.iload_n 2, 1) := by decide +kernel
theorem dX3_copyFrom_100 : decode cX3_copyFrom 100 = .ok (.aaload, 1) := by decide +kernel
theorem dX3_copyFrom_101 : decode cX3_copyFrom 101 = .ok (.aload_n 1, 1) := by decide +kernel
theorem dX3_copyFrom_102 : decode cX3_copyFrom 102 = .ok (.getfield 31, 3) := by decide +kernel
theorem dX3_copyFrom_105 : decode cX3_copyFrom 105 = .ok (.iload_n 2, 1) := by decide +kernel
theorem dX3_copyFrom_106 : decode cX3_copyFrom 106 = .ok (.aaload, 1) := by decide +kernel
theorem dX3_copyFrom_107 : decode cX3_copyFrom 107 = .ok (.invokevirtual 109, 3) := by decide +kernel
theorem dX3_copyFrom_110 : decode cX3_copyFrom 110 = .ok (.iinc 2 1, 3) := by decide +kernel
theorem dX3_copyFrom_113 : decode cX3_copyFrom 113 = .ok (.goto (-24), 3) := by decide +kernel
theorem dX3_copyFrom_116 : decode cX3_copyFrom 116 = .ok (.aload_n 0, 1) := by decide +kernel
theorem dX3_copyFrom_117 : decode cX3_copyFrom 117 = .ok (.aload_n 1, 1) := by decide +kernel
theorem dX3_copyFrom_118 : decode cX3_copyFrom 118 = .ok (.getfield 39, 3) := by decide +kernel
theorem dX3_copyFrom_121 : decode cX3_copyFrom 121 = .ok (.putfield 39, 3) := by decide +kernel
theorem dX3_copyFrom_124 : decode cX3_copyFrom 124 = .ok (.aload_n 0, 1) := by decide +kernel
theorem dX3_copyFrom_125 : decode cX3_copyFrom 125 = .ok (.aload_n 1, 1) := by decide +kernel
theorem dX3_copyFrom_126 : decode cX3_copyFrom 126 = .ok (.getfield 43, 3) := by decide +kernel
theorem dX3_copyFrom_129 : decode cX3_copyFrom 129 = .ok (.putfield 43, 3) := by decide +kernel
theorem dX3_copyFrom_132 : decode cX3_copyFrom 132 = .ok (.aload_n 0, 1) := by decide +kernel
theorem dX3_copyFrom_133 : decode cX3_copyFrom 133 = .ok (.aload_n 1, 1) := by decide +kernel
theorem dX3_copyFrom_134 : decode cX3_copyFrom 134 = .ok (.getfield 46, 3) := by decide +kernel
theorem dX3_copyFrom_137 : decode cX3_copyFrom 137 = .ok (.putfield 46, 3) := by decide +kernel
theorem dX3_copyFrom_140 : decode cX3_copyFrom 140 = .ok (.aload_n 0, 1) := by decide +kernel
theorem dX3_copyFrom_141 : decode cX3_copyFrom 141 = .ok (.aload_n 1, 1) := by decide +kernel
theorem dX3_copyFrom_142 : decode cX3_copyFrom 142 = .ok (.getfield 49, 3) := by decide +kernel
theorem dX3_copyFrom_145 : decode cX3_copyFrom 145 = .ok (.putfield 49, 3) := by decide +kernel
theorem dX3_copyFrom_148 : decode cX3_copyFrom 148 = .ok (.aload_n 0, 1) := by decide +kernel
theorem dX3_copyFrom_149 : decode cX3_copyFrom 149 = .ok (.aload_n 1, 1) := by decide +kernel
theorem dX3_copyFrom_150 : decode cX3_copyFrom 150 = .ok (.getfield 112, 3) := by decide +kernel
theorem dX3_copyFrom_153 : decode cX3_copyFrom 153 = .ok (.putfield 112, 3) := by decide +kernel
theorem dX3_copyFrom_156 : decode cX3_copyFrom 156 = .ok (.return_, 1) := by decide +kernel
theorem dX4_init_0 : decode cX4_init 0 = .ok (.aload_n 0, 1) := by decide +kernel
theorem dX4_init_1 : decode cX4_init 1 = .ok (.invokespecial 3, 3) := by decide +kernel
theorem dX4_init_4 : decode cX4_init 4 = .ok (.aload_n 0, 1) := by decide +kernel
theorem dX4_init_5 : decode cX4_init 5 = .ok (.bipush 60, 2) := by decide +kernel
theorem dX4_init_7 : decode cX4_init 7 = .ok (.newarray .int, 2) := by decide +kernel
theorem dX4_init_9 : decode cX4_init 9 = .ok (.putfield 9, 3) := by decide +kernel
theorem dX4_init_12 : decode cX4_init 12 = .ok (.return_, 1) := by decide +kernel
theorem dX4_begin_0 : decode cX4_begin 0 = .ok (.aload_n 0, 1) := by decide +kernel
theorem dX4_begin_1 : decode cX4_begin 1 = .ok (.iload_n 1, 1) := by decide +kernel
theorem dX4_begin_2 : decode cX4_begin 2 = .ok (.putfield 15, 3) := by decide +kernel
theorem dX4_begin_5 : decode cX4_begin 5 = .ok (.aload_n 0, 1) := by decide +kernel
theorem dX4_begin_6 : decode cX4_begin 6 = .ok (.iload_n 2, 1) := by decide +kernel
theorem dX4_begin_7 : decode cX4_begin 7 = .ok (.putfield 19, 3) := by decide +kernel
theorem dX4_begin_10 : decode cX4_begin 10 = .ok (.aload_n 0, 1) := by decide +kernel
theorem dX4_begin_11 : decode cX4_begin 11 = .ok (.iconst (-1), 1) := by decide +kernel
theorem dX4_begin_12 : decode cX4_begin 12 = .ok (.putfield 22, 3) := by decide +kernel
theorem dX4_begin_15 : decode cX4_begin 15 = .ok (.aload_n 0, 1) := by decide +kernel
theorem dX4_begin_16 : decode cX4_begin 16 = .ok (.iconst 0, 1) := by decide +kernel
theorem dX4_begin_17 : decode cX4_begin 17 = .ok (.putfield 25, 3) := by decide +kernel
theorem dX4_begin_20 : decode cX4_begin 20 = .ok (.aload_n 0, 1) := by decide +kernel
theorem dX4_begin_21 : decode cX4_begin 21 = .ok (.iconst 0, 1) := by decide +kernel
theorem dX4_begin_22 : decode cX4_begin 22 = .ok (.putfield 28, 3) := by decide +kernel
theorem dX4_begin_25 : decode cX4_begin 25 = .ok (.return_, 1) := by decide +kernel
theorem dX4_meetInlet_0 : decode cX4_meetInlet 0 = .ok (.aload_n 0, 1) := by decide +kernel
theorem dX4_meetInlet_1 : decode cX4_meetInlet 1 = .ok (.getfield 22, 3) := by decide +kernel
theorem dX4_meetInlet_4 : decode cX4_meetInlet 4 = .ok (.iconst (-1), 1) := by decide +kernel
theorem dX4_meetInlet_5 : decode cX4_meetInlet 5 = .ok (.if_icmp .ne 9, 3) := by decide +kernel
theorem dX4_meetInlet_8 : decode cX4_meetInlet 8 = .ok (.aload_n 0, 1) := by decide +kernel
theorem dX4_meetInlet_9 : decode cX4_meetInlet 9 = .ok (.iload_n 1, 1) := by decide +kernel
theorem dX4_meetInlet_10 : decode cX4_meetInlet 10 = .ok (.iconst 1, 1) := by decide +kernel
theorem dX4_meetInlet_11 : decode cX4_meetInlet 11 = .ok (.invokevirtual 31, 3) := by decide +kernel
theorem dX4_meetInlet_14 : decode cX4_meetInlet 14 = .ok (.return_, 1) := by decide +kernel
theorem dX4_putAtHand_0 : decode cX4_putAtHand 0 = .ok (.aload_n 0, 1) := by decide +kernel
theorem dX4_putAtHand_1 : decode cX4_putAtHand 1 = .ok (.iload_n 1, 1) := by decide +kernel
theorem dX4_putAtHand_2 : decode cX4_putAtHand 2 = .ok (.putfield 22, 3) := by decide +kernel
theorem dX4_putAtHand_5 : decode cX4_putAtHand 5 = .ok (.aload_n 0, 1) := by decide +kernel
theorem dX4_putAtHand_6 : decode cX4_putAtHand 6 = .ok (.iload_n 2, 1) := by decide +kernel
theorem dX4_putAtHand_7 : decode cX4_putAtHand 7 = .ok (.putfield 25, 3) := by decide +kernel
theorem dX4_putAtHand_10 : decode cX4_putAtHand 10 = .ok (.return_, 1) := by decide +kernel
theorem dX4_limitLeft_0 : decode cX4_limitLeft 0 = .ok (.aload_n 0, 1) := by decide +kernel
theorem dX4_limitLeft_1 : decode cX4_limitLeft 1 = .ok (.getfield 22, 3) := by decide +kernel
theorem dX4_limitLeft_4 : decode cX4_limitLeft 4 = .ok (.iload_n 1, 1) := by decide +kernel
theorem dX4_limitLeft_5 : decode cX4_limitLeft 5 = .ok (.if_icmp .ne 15, 3) := by decide +kernel
theorem dX4_limitLeft_8 : decode cX4_limitLeft 8 = .ok (.aload_n 0, 1) := by decide +kernel
theorem dX4_limitLeft_9 : decode cX4_limitLeft 9 = .ok (.aload_n 0, 1) := by decide +kernel
theorem dX4_limitLeft_10 : decode cX4_limitLeft 10 = .ok (.getfield 25, 3) := by decide +kernel
theorem dX4_limitLeft_13 : decode cX4_limitLeft 13 = .ok (.iload_n 2, 1) := by decide +kernel
theorem dX4_limitLeft_14 : decode cX4_limitLeft 14 = .ok (.invokestatic 35, 3) := by decide +kernel
theorem dX4_limitLeft_17 : decode cX4_limitLeft 17 = .ok (.putfield 25, 3) := by decide +kernel
theorem dX4_limitLeft_20 : decode cX4_limitLeft 20 = .ok (.return_, 1) := by decide +kernel
theorem dX4_hasRoom_0 : decode cX4_hasRoom 0 = .ok (.aload_n 0, 1) := by decide +kernel
theorem dX4_hasRoom_1 : decode cX4_hasRoom 1 = .ok (.getfield 15, 3) := by decide +kernel
theorem dX4_hasRoom_4 : decode cX4_hasRoom 4 = .ok (.lookupswitch 57 #[(0, 36), (4, 38), (5, 55)], 36) := by decide +kernel
theorem dX4_hasRoom_40 : decode cX4_hasRoom 40 = .ok (.iconst 0, 1) := by decide +kernel
theorem dX4_hasRoom_41 : decode cX4_hasRoom 41 = .ok (.ireturn, 1) := by decide +kernel
theorem dX4_hasRoom_42 : decode cX4_hasRoom 42 = .ok (.aload_n 0, 1) := by decide +kernel
theorem dX4_hasRoom_43 : decode cX4_hasRoom 43 = .ok (.getfield 28, 3) := by decide +kernel
theorem dX4_hasRoom_46 : decode cX4_hasRoom 46 = .ok (.aload_n 0, 1) := by decide +kernel
theorem dX4_hasRoom_47 : decode cX4_hasRoom 47 = .ok (.getfield 19, 3) := by decide +kernel
theorem dX4_hasRoom_50 : decode cX4_hasRoom 50 = .ok (.if_icmp .ge 7, 3) := by decide +kernel
theorem dX4_hasRoom_53 : decode cX4_hasRoom 53 = .ok (.iconst 1, 1) := by decide +kernel
theorem dX4_hasRoom_54 : decode cX4_hasRoom 54 = .ok (.goto 4, 3) := by decide +kernel
theorem dX4_hasRoom_57 : decode cX4_hasRoom 57 = .ok (.iconst 0, 1) := by decide +kernel
theorem dX4_hasRoom_58 : decode cX4_hasRoom 58 = .ok (.ireturn, 1) := by decide +kernel
theorem dX4_hasRoom_59 : decode cX4_hasRoom 59 = .ok (.iconst 1, 1) := by decide +kernel
theorem dX4_hasRoom_60 : decode cX4_hasRoom 60 = .ok (.ireturn, 1) := by decide +kernel
theorem dX4_hasRoom_61 : decode cX4_hasRoom 61 = .ok (.aload_n 0, 1) := by decide +kernel
theorem dX4_hasRoom_62 : decode cX4_hasRoom 62 = .ok (.getfield 28, 3) := by decide +kernel
theorem dX4_hasRoom_65 : decode cX4_hasRoom 65 = .ok (.ifCond .ne 7, 3) := by decide +kernel
theorem dX4_hasRoom_68 : decode cX4_hasRoom 68 = .ok (.iconst 1, 1) := by decide +kernel
theorem dX4_hasRoom_69 : decode cX4_hasRoom 69 = .ok (.goto 4, 3) := by decide +kernel
theorem dX4_hasRoom_72 : decode cX4_hasRoom 72 = .ok (.iconst 0, 1) := by decide +kernel
theorem dX4_hasRoom_73 : decode cX4_hasRoom 73 = .ok (.ireturn, 1) := by decide +kernel
theorem dX4_first_0 : decode cX4_first 0 = .ok (.aload_n 0, 1) := by decide +kernel
theorem dX4_first_1 : decode cX4_first 1 = .ok (.getfield 28, 3) := by decide +kernel
theorem dX4_first_4 : decode cX4_first 4 = .ok (.ifCond .le 12, 3) := by decide +kernel
theorem dX4_first_7 : decode cX4_first 7 = .ok (.aload_n 0, 1) := by decide +kernel
theorem dX4_first_8 : decode cX4_first 8 = .ok (.getfield 9, 3) := by decide +kernel
theorem dX4_first_11 : decode cX4_first 11 = .ok (.iconst 0, 1) := by decide +kernel
theorem dX4_first_12 : decode cX4_first 12 = .ok (.iaload, 1) := by decide +kernel
theorem dX4_first_13 : decode cX4_first 13 = .ok (.goto 4, 3) := by decide +kernel
theorem dX4_first_16 : decode cX4_first 16 = .ok (.iconst (-1), 1) := by decide +kernel
theorem dX4_first_17 : decode cX4_first 17 = .ok (.ireturn, 1) := by decide +kernel
theorem dX4_indexOf_0 : decode cX4_indexOf 0 = .ok (.iconst 0, 1) := by decide +kernel
theorem dX4_indexOf_1 : decode cX4_indexOf 1 = .ok (.istore_n 2, 1) := by decide +kernel
theorem dX4_indexOf_2 : decode cX4_indexOf 2 = .ok (.iload_n 2, 1) := by decide +kernel
theorem dX4_indexOf_3 : decode cX4_indexOf 3 = .ok (.aload_n 0, 1) := by decide +kernel
theorem dX4_indexOf_4 : decode cX4_indexOf 4 = .ok (.getfield 28, 3) := by decide +kernel
theorem dX4_indexOf_7 : decode cX4_indexOf 7 = .ok (.if_icmp .ge 21, 3) := by decide +kernel
theorem dX4_indexOf_10 : decode cX4_indexOf 10 = .ok (.aload_n 0, 1) := by decide +kernel
theorem dX4_indexOf_11 : decode cX4_indexOf 11 = .ok (.getfield 9, 3) := by decide +kernel
theorem dX4_indexOf_14 : decode cX4_indexOf 14 = .ok (.iload_n 2, 1) := by decide +kernel
theorem dX4_indexOf_15 : decode cX4_indexOf 15 = .ok (.iaload, 1) := by decide +kernel
theorem dX4_indexOf_16 : decode cX4_indexOf 16 = .ok (.iload_n 1, 1) := by decide +kernel
theorem dX4_indexOf_17 : decode cX4_indexOf 17 = .ok (.if_icmp .ne 5, 3) := by decide +kernel
theorem dX4_indexOf_20 : decode cX4_indexOf 20 = .ok (.iload_n 2, 1) := by decide +kernel
theorem dX4_indexOf_21 : decode cX4_indexOf 21 = .ok (.ireturn, 1) := by decide +kernel
theorem dX4_indexOf_22 : decode cX4_indexOf 22 = .ok (.iinc 2 1, 3) := by decide +kernel
theorem dX4_indexOf_25 : decode cX4_indexOf 25 = .ok (.goto (-23), 3) := by decide +kernel
theorem dX4_indexOf_28 : decode cX4_indexOf 28 = .ok (.iconst (-1), 1) := by decide +kernel
theorem dX4_indexOf_29 : decode cX4_indexOf 29 = .ok (.ireturn, 1) := by decide +kernel
theorem dX4_join_0 : decode cX4_join 0 = .ok (.aload_n 0, 1) := by decide +kernel
theorem dX4_join_1 : decode cX4_join 1 = .ok (.getfield 28, 3) := by decide +kernel
theorem dX4_join_4 : decode cX4_join 4 = .ok (.aload_n 0, 1) := by decide +kernel
theorem dX4_join_5 : decode cX4_join 5 = .ok (.getfield 9, 3) := by decide +kernel
theorem dX4_join_8 : decode cX4_join 8 = .ok (.arraylength, 1) := by decide +kernel
theorem dX4_join_9 : decode cX4_join 9 = .ok (.if_icmp .ge 23, 3) := by decide +kernel
theorem dX4_join_12 : decode cX4_join 12 = .ok (.aload_n 0, 1) := by decide +kernel
theorem dX4_join_13 : decode cX4_join 13 = .ok (.getfield 9, 3) := by decide +kernel
theorem dX4_join_16 : decode cX4_join 16 = .ok (.aload_n 0, 1) := by decide +kernel
theorem dX4_join_17 : decode cX4_join 17 = .ok (.getfield 28, 3) := by decide +kernel
theorem dX4_join_20 : decode cX4_join 20 = .ok (.iload_n 1, 1) := by decide +kernel
theorem dX4_join_21 : decode cX4_join 21 = .ok (.iastore, 1) := by decide +kernel
theorem dX4_join_22 : decode cX4_join 22 = .ok (.aload_n 0, 1) := by decide +kernel
theorem dX4_join_23 : decode cX4_join 23 = .ok (.dup, 1) := by decide +kernel
theorem dX4_join_24 : decode cX4_join 24 = .ok (.getfield 28, 3) := by decide +kernel
theorem dX4_join_27 : decode cX4_join 27 = .ok (.iconst 1, 1) := by decide +kernel
theorem dX4_join_28 : decode cX4_join 28 = .ok (.iadd, 1) := by decide +kernel
theorem dX4_join_29 : decode cX4_join 29 = .ok (.putfield 28, 3) := by decide +kernel
theorem dX4_join_32 : decode cX4_join 32 = .ok (.return_, 1) := by decide +kernel
theorem dX4_leave_0 : decode cX4_leave 0 = .ok (.aload_n 0, 1) := by decide +kernel
theorem dX4_leave_1 : decode cX4_leave 1 = .ok (.iload_n 1, 1) := by decide +kernel
theorem dX4_leave_2 : decode cX4_leave 2 = .ok (.invokevirtual 41, 3) := by decide +kernel
theorem dX4_leave_5 : decode cX4_leave 5 = .ok (.istore_n 2, 1) := by decide +kernel
theorem dX4_leave_6 : decode cX4_leave 6 = .ok (.iload_n 2, 1) := by decide +kernel
theorem dX4_leave_7 : decode cX4_leave 7 = .ok (.iconst (-1), 1) := by decide +kernel
theorem dX4_leave_8 : decode cX4_leave 8 = .ok (.if_icmp .ne 4, 3) := by decide +kernel
theorem dX4_leave_11 : decode cX4_leave 11 = .ok (.return_, 1) := by decide +kernel
theorem dX4_leave_12 : decode cX4_leave 12 = .ok (.iload_n 2, 1) := by decide +kernel
theorem dX4_leave_13 : decode cX4_leave 13 = .ok (.iconst 1, 1) := by decide +kernel
theorem dX4_leave_14 : decode cX4_leave 14 = .ok (.iadd, 1) := by decide +kernel
theorem dX4_leave_15 : decode cX4_leave 15 = .ok (.istore_n 3, 1) := by decide +kernel
theorem dX4_leave_16 : decode cX4_leave 16 = .ok (.iload_n 3, 1) := by decide +kernel
theorem dX4_leave_17 : decode cX4_leave 17 = .ok (.aload_n 0, 1) := by decide +kernel
theorem dX4_leave_18 : decode cX4_leave 18 = .ok (.getfield 28, 3) := by decide +kernel
theorem dX4_leave_21 : decode cX4_leave 21 = .ok (.if_icmp .ge 23, 3) := by decide +kernel
theorem dX4_leave_24 : decode cX4_leave 24 = .ok (.aload_n 0, 1) := by decide +kernel
theorem dX4_leave_25 : decode cX4_leave 25 = .ok (.getfield 9, 3) := by decide +kernel
theorem dX4_leave_28 : decode cX4_leave 28 = .ok (.iload_n 3, 1) := by decide +kernel
theorem dX4_leave_29 : decode cX4_leave 29 = .ok (.iconst 1, 1) := by decide +kernel
theorem dX4_leave_30 : decode cX4_leave 30 = .ok (.isub, 1) := by decide +kernel
theorem dX4_leave_31 : decode cX4_leave 31 = .ok (.aload_n 0, 1) := by decide +kernel
theorem dX4_leave_32 : decode cX4_leave 32 = .ok (.getfield 9, 3) := by decide +kernel
theorem dX4_leave_35 : decode cX4_leave 35 = .ok (.iload_n 3, 1) := by decide +kernel
theorem dX4_leave_36 : decode cX4_leave 36 = .ok (.iaload, 1) := by decide +kernel
theorem dX4_leave_37 : decode cX4_leave 37 = .ok (.iastore, 1) := by decide +kernel
theorem dX4_leave_38 : decode cX4_leave 38 = .ok (.iinc 3 1, 3) := by decide +kernel
theorem dX4_leave_41 : decode cX4_leave 41 = .ok (.goto (-25), 3) := by decide +kernel
theorem dX4_leave_44 : decode cX4_leave 44 = .ok (.aload_n 0, 1) := by decide +kernel
theorem dX4_leave_45 : decode cX4_leave 45 = .ok (.dup, 1) := by decide +kernel
theorem dX4_leave_46 : decode cX4_leave 46 = .ok (.getfield 28, 3) := by decide +kernel
theorem dX4_leave_49 : decode cX4_leave 49 = .ok (.iconst 1, 1) := by decide +kernel
theorem dX4_leave_50 : decode cX4_leave 50 = .ok (.isub, 1) := by decide +kernel
theorem dX4_leave_51 : decode cX4_leave 51 = .ok (.putfield 28, 3) := by decide +kernel
theorem dX4_leave_54 : decode cX4_leave 54 = .ok (.return_, 1) := by decide +kernel
theorem dX4_copyFrom_0 : decode cX4_copyFrom 0 = .ok (.aload_n 0, 1) := by decide +kernel
theorem dX4_copyFrom_1 : decode cX4_copyFrom 1 = .ok (.aload_n 1, 1) := by decide +kernel
theorem dX4_copyFrom_2 : decode cX4_copyFrom 2 = .ok (.getfield 15, 3) := by decide +kernel
theorem dX4_copyFrom_5 : decode cX4_copyFrom 5 = .ok (.putfield 15, 3) := by decide +kernel
theorem dX4_copyFrom_8 : decode cX4_copyFrom 8 = .ok (.aload_n 0, 1) := by decide +kernel
theorem dX4_copyFrom_9 : decode cX4_copyFrom 9 = .ok (.aload_n 1, 1) := by decide +kernel
theorem dX4_copyFrom_10 : decode cX4_copyFrom 10 = .ok (.getfield 19, 3) := by decide +kernel
theorem dX4_copyFrom_13 : decode cX4_copyFrom 13 = .ok (.putfield 19, 3) := by decide +kernel
theorem dX4_copyFrom_16 : decode cX4_copyFrom 16 = .ok (.aload_n 0, 1) := by decide +kernel
theorem dX4_copyFrom_17 : decode cX4_copyFrom 17 = .ok (.aload_n 1, 1) := by decide +kernel
theorem dX4_copyFrom_18 : decode cX4_copyFrom 18 = .ok (.getfield 22, 3) := by decide +kernel
theorem dX4_copyFrom_21 : decode cX4_copyFrom 21 = .ok (.putfield 22, 3) := by decide +kernel
theorem dX4_copyFrom_24 : decode cX4_copyFrom 24 = .ok (.aload_n 0, 1) := by decide +kernel
theorem dX4_copyFrom_25 : decode cX4_copyFrom 25 = .ok (.aload_n 1, 1) := by decide +kernel
theorem dX4_copyFrom_26 : decode cX4_copyFrom 26 = .ok (.getfield 25, 3) := by decide +kernel
theorem dX4_copyFrom_29 : decode cX4_copyFrom 29 = .ok (.putfield 25, 3) := by decide +kernel
theorem dX4_copyFrom_32 : decode cX4_copyFrom 32 = .ok (.aload_n 0, 1) := by decide +kernel
theorem dX4_copyFrom_33 : decode cX4_copyFrom 33 = .ok (.aload_n 1, 1) := by decide +kernel
theorem dX4_copyFrom_34 : decode cX4_copyFrom 34 = .ok (.getfield 28, 3) := by decide +kernel
theorem dX4_copyFrom_37 : decode cX4_copyFrom 37 = .ok (.putfield 28, 3) := by decide +kernel
theorem dX4_copyFrom_40 : decode cX4_copyFrom 40 = .ok (.aload_n 1, 1) := by decide +kernel
theorem dX4_copyFrom_41 : decode cX4_copyFrom 41 = .ok (.getfield 9, 3) := by decide +kernel
theorem dX4_copyFrom_44 : decode cX4_copyFrom 44 = .ok (.iconst 0, 1) := by decide +kernel
theorem dX4_copyFrom_45 : decode cX4_copyFrom 45 = .ok (.aload_n 0, 1) := by decide +kernel
theorem dX4_copyFrom_46 : decode cX4_copyFrom 46 = .ok (.getfield 9, 3) := by decide +kernel
theorem dX4_copyFrom_49 : decode cX4_copyFrom 49 = .ok (.iconst 0, 1) := by decide +kernel
theorem dX4_copyFrom_50 : decode cX4_copyFrom 50 = .ok (.aload_n 0, 1) := by decide +kernel
theorem dX4_copyFrom_51 : decode cX4_copyFrom 51 = .ok (.getfield 9, 3) := by decide +kernel
theorem dX4_copyFrom_54 : decode cX4_copyFrom 54 = .ok (.arraylength, 1) := by decide +kernel
theorem dX4_copyFrom_55 : decode cX4_copyFrom 55 = .ok (.invokestatic 45, 3) := by decide +kernel
theorem dX4_copyFrom_58 : decode cX4_copyFrom 58 = .ok (.return_, 1) := by decide +kernel
theorem dX5_init_0 : decode cX5_init 0 = .ok (.aload_n 0, 1) := by decide +kernel
theorem dX5_init_1 : decode cX5_init 1 = .ok (.invokespecial 3, 3) := by decide +kernel
theorem dX5_init_4 : decode cX5_init 4 = .ok (.aload_n 0, 1) := by decide +kernel
theorem dX5_init_5 : decode cX5_init 5 = .ok (.bipush 12, 2) := by decide +kernel
theorem dX5_init_7 : decode cX5_init 7 = .ok (.bipush 12, 2) := by decide +kernel
theorem dX5_init_9 : decode cX5_init 9 = .ok (.multianewarray 9 2, 4) := by decide +kernel
theorem dX5_init_13 : decode cX5_init 13 = .ok (.putfield 11, 3) := by decide +kernel
theorem dX5_init_16 : decode cX5_init 16 = .ok (.return_, 1) := by decide +kernel
theorem dX5_measure_0 : decode cX5_measure 0 = .ok (.iconst 0, 1) := by decide +kernel
theorem dX5_measure_1 : decode cX5_measure 1 = .ok (.istore_n 2, 1) := by decide +kernel
theorem dX5_measure_2 : decode cX5_measure 2 = .ok (.iload_n 2, 1) := by decide +kernel
theorem dX5_measure_3 : decode cX5_measure 3 = .ok (.aload_n 1, 1) := by decide +kernel
theorem dX5_measure_4 : decode cX5_measure 4 = .ok (.getfield 16, 3) := by decide +kernel
theorem dX5_measure_7 : decode cX5_measure 7 = .ok (.if_icmp .ge 28, 3) := by decide +kernel
theorem dX5_measure_10 : decode cX5_measure 10 = .ok (.aload_n 1, 1) := by decide +kernel
theorem dX5_measure_11 : decode cX5_measure 11 = .ok (.getfield 22, 3) := by decide +kernel
theorem dX5_measure_14 : decode cX5_measure 14 = .ok (.iload_n 2, 1) := by decide +kernel
theorem dX5_measure_15 : decode cX5_measure 15 = .ok (.aaload, 1) := by decide +kernel
theorem dX5_measure_16 : decode cX5_measure 16 = .ok (.getfield 26, 3) := by decide +kernel
theorem dX5_measure_19 : decode cX5_measure 19 = .ok (.iconst 5, 1) := by decide +kernel
theorem dX5_measure_20 : decode cX5_measure 20 = .ok (.if_icmp .ne 9, 3) := by decide +kernel
theorem dX5_measure_23 : decode cX5_measure 23 = .ok (.aload_n 0, 1) := by decide +kernel
theorem dX5_measure_24 : decode cX5_measure 24 = .ok (.iload_n 2, 1) := by decide +kernel
theorem dX5_measure_25 : decode cX5_measure 25 = .ok (.aload_n 1, 1) := by decide +kernel
theorem dX5_measure_26 : decode cX5_measure 26 = .ok (.invokevirtual 31, 3) := by decide +kernel
theorem dX5_measure_29 : decode cX5_measure 29 = .ok (.iinc 2 1, 3) := by decide +kernel
theorem dX5_measure_32 : decode cX5_measure 32 = .ok (.goto (-30), 3) := by decide +kernel
theorem dX5_measure_35 : decode cX5_measure 35 = .ok (.return_, 1) := by decide +kernel
theorem dX5_measureTo_0 : decode cX5_measureTo 0 = .ok (.iconst 0, 1) := by decide +kernel
theorem dX5_measureTo_1 : decode cX5_measureTo 1 = .ok (.istore_n 3, 1) := by decide +kernel
theorem dX5_measureTo_2 : decode cX5_measureTo 2 = .ok (.iload_n 3, 1) := by decide +kernel
theorem dX5_measureTo_3 : decode cX5_measureTo 3 = .ok (.bipush 12, 2) := by decide +kernel
theorem dX5_measureTo_5 : decode cX5_measureTo 5 = .ok (.if_icmp .ge 27, 3) := by decide +kernel
theorem dX5_measureTo_8 : decode cX5_measureTo 8 = .ok (.aload_n 0, 1) := by decide +kernel
theorem dX5_measureTo_9 : decode cX5_measureTo 9 = .ok (.getfield 11, 3) := by decide +kernel
theorem dX5_measureTo_12 : decode cX5_measureTo 12 = .ok (.iload_n 1, 1) := by decide +kernel
theorem dX5_measureTo_13 : decode cX5_measureTo 13 = .ok (.aaload, 1) := by decide +kernel
theorem dX5_measureTo_14 : decode cX5_measureTo 14 = .ok (.iload_n 3, 1) := by decide +kernel
theorem dX5_measureTo_15 : decode cX5_measureTo 15 = .ok (.iload_n 3, 1) := by decide +kernel
theorem dX5_measureTo_16 : decode cX5_measureTo 16 = .ok (.iload_n 1, 1) := by decide +kernel
theorem dX5_measureTo_17 : decode cX5_measureTo 17 = .ok (.if_icmp .ne 7, 3) := by decide +kernel
theorem dX5_measureTo_20 : decode cX5_measureTo 20 = .ok (.iconst 0, 1) := by decide +kernel
theorem dX5_measureTo_21 : decode cX5_measureTo 21 = .ok (.goto 4, 3) := by decide +kernel
theorem dX5_measureTo_24 : decode cX5_measureTo 24 = .ok (.iconst (-1), 1) := by decide +kernel
theorem dX5_measureTo_25 : decode cX5_measureTo 25 = .ok (.iastore, 1) := by decide +kernel
theorem dX5_measureTo_26 : decode cX5_measureTo 26 = .ok (.iinc 3 1, 3) := by decide +kernel
theorem dX5_measureTo_29 : decode cX5_measureTo 29 = .ok (.goto (-27), 3) := by decide +kernel
theorem dX5_measureTo_32 : decode cX5_measureTo 32 = .ok (.iconst 1, 1) := by decide +kernel
theorem dX5_measureTo_33 : decode cX5_measureTo 33 = .ok (.istore_n 3, 1) := by decide +kernel
theorem dX5_measureTo_34 : decode cX5_measureTo 34 = .ok (.iconst 0, 1) := by decide +kernel
theorem dX5_measureTo_35 : decode cX5_measureTo 35 = .ok (.istore 4, 2) := by decide +kernel
theorem dX5_measureTo_37 : decode cX5_measureTo 37 = .ok (.iload 4, 2) := by decide +kernel
theorem dX5_measureTo_39 : decode cX5_measureTo 39 = .ok (.aload_n 2, 1) := by decide +kernel
theorem dX5_measureTo_40 : decode cX5_measureTo 40 = .ok (.getfield 16, 3) := by decide +kernel
theorem dX5_measureTo_43 : decode cX5_measureTo 43 = .ok (.if_icmp .ge 49, 3) := by decide +kernel
theorem dX5_measureTo_46 : decode cX5_measureTo 46 = .ok (.iload_n 3, 1) := by decide +kernel
theorem dX5_measureTo_47 : decode cX5_measureTo 47 = .ok (.ifCond .eq 45, 3) := by decide +kernel
theorem dX5_measureTo_50 : decode cX5_measureTo 50 = .ok (.iconst 0, 1) := by decide +kernel
theorem dX5_measureTo_51 : decode cX5_measureTo 51 = .ok (.istore_n 3, 1) := by decide +kernel
theorem dX5_measureTo_52 : decode cX5_measureTo 52 = .ok (.iconst 0, 1) := by decide +kernel
theorem dX5_measureTo_53 : decode cX5_measureTo 53 = .ok (.istore 5, 2) := by decide +kernel
theorem dX5_measureTo_55 : decode cX5_measureTo 55 = .ok (.iload 5, 2) := by decide +kernel
theorem dX5_measureTo_57 : decode cX5_measureTo 57 = .ok (.aload_n 2, 1) := by decide +kernel
theorem dX5_measureTo_58 : decode cX5_measureTo 58 = .ok (.getfield 35, 3) := by decide +kernel
theorem dX5_measureTo_61 : decode cX5_measureTo 61 = .ok (.if_icmp .ge 25, 3) := by decide +kernel
theorem dX5_measureTo_64 : decode cX5_measureTo 64 = .ok (.iload_n 3, 1) := by decide +kernel
theorem dX5_measureTo_65 : decode cX5_measureTo 65 = .ok (.aload_n 0, 1) := by decide +kernel
theorem dX5_measureTo_66 : decode cX5_measureTo 66 = .ok (.aload_n 2, 1) := by decide +kernel
theorem dX5_measureTo_67 : decode cX5_measureTo 67 = .ok (.getfield 38, 3) := by decide +kernel
theorem dX5_measureTo_70 : decode cX5_measureTo 70 = .ok (.iload 5, 2) := by decide +kernel
theorem dX5_measureTo_72 : decode cX5_measureTo 72 = .ok (.aaload, 1) := by decide +kernel
theorem dX5_measureTo_73 : decode cX5_measureTo 73 = .ok (.iload_n 1, 1) := by decide +kernel
theorem dX5_measureTo_74 : decode cX5_measureTo 74 = .ok (.aload_n 2, 1) := by decide +kernel
theorem dX5_measureTo_75 : decode cX5_measureTo 75 = .ok (.invokevirtual 42, 3) := by decide +kernel
theorem dX5_measureTo_78 : decode cX5_measureTo 78 = .ok (.ior, 1) := by decide +kernel
theorem dX5_measureTo_79 : decode cX5_measureTo 79 = .ok (.istore_n 3, 1) := by decide +kernel
theorem dX5_measureTo_80 : decode cX5_measureTo 80 = .ok (.iinc 5 1, 3) := by decide +kernel
theorem dX5_measureTo_83 : decode cX5_measureTo 83 = .ok (.goto (-28), 3) := by decide +kernel
theorem dX5_measureTo_86 : decode cX5_measureTo 86 = .ok (.iinc 4 1, 3) := by decide +kernel
theorem dX5_measureTo_89 : decode cX5_measureTo 89 = .ok (.goto (-52), 3) := by decide +kernel
theorem dX5_measureTo_92 : decode cX5_measureTo 92 = .ok (.return_, 1) := by decide +kernel
theorem dX5_shortenBy_0 : decode cX5_shortenBy 0 = .ok (.aload_n 1, 1) := by decide +kernel
theorem dX5_shortenBy_1 : decode cX5_shortenBy 1 = .ok (.getfield 46, 3) := by decide +kernel
theorem dX5_shortenBy_4 : decode cX5_shortenBy 4 = .ok (.ifCond .ne 25, 3) := by decide +kernel
theorem dX5_shortenBy_7 : decode cX5_shortenBy 7 = .ok (.aload_n 3, 1) := by decide +kernel
theorem dX5_shortenBy_8 : decode cX5_shortenBy 8 = .ok (.aload_n 1, 1) := by decide +kernel
theorem dX5_shortenBy_9 : decode cX5_shortenBy 9 = .ok (.getfield 52, 3) := by decide +kernel
theorem dX5_shortenBy_12 : decode cX5_shortenBy 12 = .ok (.invokevirtual 55, 3) := by decide +kernel
theorem dX5_shortenBy_15 : decode cX5_shortenBy 15 = .ok (.ifCond .eq 14, 3) := by decide +kernel
theorem dX5_shortenBy_18 : decode cX5_shortenBy 18 = .ok (.aload_n 3, 1) := by decide +kernel
theorem dX5_shortenBy_19 : decode cX5_shortenBy 19 = .ok (.aload_n 1, 1) := by decide +kernel
theorem dX5_shortenBy_20 : decode cX5_shortenBy 20 = .ok (.getfield 59, 3) := by decide +kernel
theorem dX5_shortenBy_23 : decode cX5_shortenBy 23 = .ok (.invokevirtual 55, 3) := by decide +kernel
theorem dX5_shortenBy_26 : decode cX5_shortenBy 26 = .ok (.ifCond .ne 5, 3) := by decide +kernel
theorem dX5_shortenBy_29 : decode cX5_shortenBy 29 = .ok (.iconst 0, 1) := by decide +kernel
theorem dX5_shortenBy_30 : decode cX5_shortenBy 30 = .ok (.ireturn, 1) := by decide +kernel
theorem dX5_shortenBy_31 : decode cX5_shortenBy 31 = .ok (.aload_n 0, 1) := by decide +kernel
theorem dX5_shortenBy_32 : decode cX5_shortenBy 32 = .ok (.getfield 11, 3) := by decide +kernel
theorem dX5_shortenBy_35 : decode cX5_shortenBy 35 = .ok (.iload_n 2, 1) := by decide +kernel
theorem dX5_shortenBy_36 : decode cX5_shortenBy 36 = .ok (.aaload, 1) := by decide +kernel
theorem dX5_shortenBy_37 : decode cX5_shortenBy 37 = .ok (.aload_n 1, 1) := by decide +kernel
theorem dX5_shortenBy_38 : decode cX5_shortenBy 38 = .ok (.getfield 59, 3) := by decide +kernel
theorem dX5_shortenBy_41 : decode cX5_shortenBy 41 = .ok (.iaload, 1) := by decide +kernel
theorem dX5_shortenBy_42 : decode cX5_shortenBy 42 = .ok (.istore 4, 2) := by decide +kernel
theorem dX5_shortenBy_44 : decode cX5_shortenBy 44 = .ok (.aload_n 0, 1) := by decide +kernel
theorem dX5_shortenBy_45 : decode cX5_shortenBy 45 = .ok (.getfield 11, 3) := by decide +kernel
theorem dX5_shortenBy_48 : decode cX5_shortenBy 48 = .ok (.iload_n 2, 1) := by decide +kernel
theorem dX5_shortenBy_49 : decode cX5_shortenBy 49 = .ok (.aaload, 1) := by decide +kernel
theorem dX5_shortenBy_50 : decode cX5_shortenBy 50 = .ok (.aload_n 1, 1) := by decide +kernel
theorem dX5_shortenBy_51 : decode cX5_shortenBy 51 = .ok (.getfield 52, 3) := by decide +kernel
theorem dX5_shortenBy_54 : decode cX5_shortenBy 54 = .ok (.iaload, 1) := by decide +kernel
theorem dX5_shortenBy_55 : decode cX5_shortenBy 55 = .ok (.istore 5, 2) := by decide +kernel
theorem dX5_shortenBy_57 : decode cX5_shortenBy 57 = .ok (.iload 4, 2) := by decide +kernel
theorem dX5_shortenBy_59 : decode cX5_shortenBy 59 = .ok (.iconst (-1), 1) := by decide +kernel
theorem dX5_shortenBy_60 : decode cX5_shortenBy 60 = .ok (.if_icmp .eq 21, 3) := by decide +kernel
theorem dX5_shortenBy_63 : decode cX5_shortenBy 63 = .ok (.iload 5, 2) := by decide +kernel
theorem dX5_shortenBy_65 : decode cX5_shortenBy 65 = .ok (.iconst (-1), 1) := by decide +kernel
theorem dX5_shortenBy_66 : decode cX5_shortenBy 66 = .ok (.if_icmp .eq 17, 3) := by decide +kernel
theorem dX5_shortenBy_69 : decode cX5_shortenBy 69 = .ok (.iload 5, 2) := by decide +kernel
theorem dX5_shortenBy_71 : decode cX5_shortenBy 71 = .ok (.aload_n 1, 1) := by decide +kernel
theorem dX5_shortenBy_72 : decode cX5_shortenBy 72 = .ok (.getfield 62, 3) := by decide +kernel
theorem dX5_shortenBy_75 : decode cX5_shortenBy 75 = .ok (.iload 4, 2) := by decide +kernel
theorem dX5_shortenBy_77 : decode cX5_shortenBy 77 = .ok (.iadd, 1) := by decide +kernel
theorem dX5_shortenBy_78 : decode cX5_shortenBy 78 = .ok (.if_icmp .gt 5, 3) := by decide +kernel
theorem dX5_shortenBy_81 : decode cX5_shortenBy 81 = .ok (.iconst 0, 1) := by decide +kernel
theorem dX5_shortenBy_82 : decode cX5_shortenBy 82 = .ok (.ireturn, 1) := by decide +kernel
theorem dX5_shortenBy_83 : decode cX5_shortenBy 83 = .ok (.aload_n 0, 1) := by decide +kernel
theorem dX5_shortenBy_84 : decode cX5_shortenBy 84 = .ok (.getfield 11, 3) := by decide +kernel
theorem dX5_shortenBy_87 : decode cX5_shortenBy 87 = .ok (.iload_n 2, 1) := by decide +kernel
theorem dX5_shortenBy_88 : decode cX5_shortenBy 88 = .ok (.aaload, 1) := by decide +kernel
theorem dX5_shortenBy_89 : decode cX5_shortenBy 89 = .ok (.aload_n 1, 1) := by decide +kernel
theorem dX5_shortenBy_90 : decode cX5_shortenBy 90 = .ok (.getfield 52, 3) := by decide +kernel
theorem dX5_shortenBy_93 : decode cX5_shortenBy 93 = .ok (.aload_n 1, 1) := by decide +kernel
theorem dX5_shortenBy_94 : decode cX5_shortenBy 94 = .ok (.getfield 62, 3) := by decide +kernel
theorem dX5_shortenBy_97 : decode cX5_shortenBy 97 = .ok (.iload 4, 2) := by decide +kernel
theorem dX5_shortenBy_99 : decode cX5_shortenBy 99 = .ok (.iadd, 1) := by decide +kernel
theorem dX5_shortenBy_100 : decode cX5_shortenBy 100 = .ok (.iastore, 1) := by decide +kernel
theorem dX5_shortenBy_101 : decode cX5_shortenBy 101 = .ok (.iconst 1, 1) := by decide +kernel
theorem dX5_shortenBy_102 : decode cX5_shortenBy 102 = .ok (.ireturn, 1) := by decide +kernel
theorem dX5_shortestOutlet_0 : decode cX5_shortestOutlet 0 = .ok (.aload_n 1, 1) := by decide +kernel
theorem dX5_shortestOutlet_1 : decode cX5_shortestOutlet 1 = .ok (.iload_n 3, 1) := by decide +kernel
theorem dX5_shortestOutlet_2 : decode cX5_shortestOutlet 2 = .ok (.invokevirtual 55, 3) := by decide +kernel
theorem dX5_shortestOutlet_5 : decode cX5_shortestOutlet 5 = .ok (.ifCond .ne 5, 3) := by decide +kernel
theorem dX5_shortestOutlet_8 : decode cX5_shortestOutlet 8 = .ok (.iconst (-1), 1) := by decide +kernel
theorem dX5_shortestOutlet_9 : decode cX5_shortestOutlet 9 = .ok (.ireturn, 1) := by decide +kernel
theorem dX5_shortestOutlet_10 : decode cX5_shortestOutlet 10 = .ok (.iconst (-1), 1) := by decide +kernel
theorem dX5_shortestOutlet_11 : decode cX5_shortestOutlet 11 = .ok (.istore 4, 2) := by decide +kernel
theorem dX5_shortestOutlet_13 : decode cX5_shortestOutlet 13 = .ok (.iconst 0, 1) := by decide +kernel
theorem dX5_shortestOutlet_14 : decode cX5_shortestOutlet 14 = .ok (.istore 5, 2) := by decide +kernel
theorem dX5_shortestOutlet_16 : decode cX5_shortestOutlet 16 = .ok (.iconst 0, 1) := by decide +kernel
theorem dX5_shortestOutlet_17 : decode cX5_shortestOutlet 17 = .ok (.istore 6, 2) := by decide +kernel
theorem dX5_shortestOutlet_19 : decode cX5_shortestOutlet 19 = .ok (.iload 6, 2) := by decide +kernel
theorem dX5_shortestOutlet_21 : decode cX5_shortestOutlet 21 = .ok (.aload_n 1, 1) := by decide +kernel
theorem dX5_shortestOutlet_22 : decode cX5_shortestOutlet 22 = .ok (.getfield 35, 3) := by decide +kernel
theorem dX5_shortestOutlet_25 : decode cX5_shortestOutlet 25 = .ok (.if_icmp .ge 100, 3) := by decide +kernel
theorem dX5_shortestOutlet_28 : decode cX5_shortestOutlet 28 = .ok (.aload_n 1, 1) := by decide +kernel
theorem dX5_shortestOutlet_29 : decode cX5_shortestOutlet 29 = .ok (.getfield 38, 3) := by decide +kernel
theorem dX5_shortestOutlet_32 : decode cX5_shortestOutlet 32 = .ok (.iload 6, 2) := by decide +kernel
theorem dX5_shortestOutlet_34 : decode cX5_shortestOutlet 34 = .ok (.aaload, 1) := by decide +kernel
theorem dX5_shortestOutlet_35 : decode cX5_shortestOutlet 35 = .ok (.astore 7, 2) := by decide +kernel
theorem dX5_shortestOutlet_37 : decode cX5_shortestOutlet 37 = .ok (.aload 7, 2) := by decide +kernel
theorem dX5_shortestOutlet_39 : decode cX5_shortestOutlet 39 = .ok (.getfield 52, 3) := by decide +kernel
theorem dX5_shortestOutlet_42 : decode cX5_shortestOutlet 42 = .ok (.iload_n 2, 1) := by decide +kernel
theorem dX5_shortestOutlet_43 : decode cX5_shortestOutlet 43 = .ok (.if_icmp .ne 76, 3) := by decide +kernel
theorem dX5_shortestOutlet_46 : decode cX5_shortestOutlet 46 = .ok (.aload 7, 2) := by decide +kernel
theorem dX5_shortestOutlet_48 : decode cX5_shortestOutlet 48 = .ok (.getfield 46, 3) := by decide +kernel
theorem dX5_shortestOutlet_51 : decode cX5_shortestOutlet 51 = .ok (.ifCond .ne 68, 3) := by decide +kernel
theorem dX5_shortestOutlet_54 : decode cX5_shortestOutlet 54 = .ok (.aload_n 1, 1) := by decide +kernel
theorem dX5_shortestOutlet_55 : decode cX5_shortestOutlet 55 = .ok (.aload 7, 2) := by decide +kernel
theorem dX5_shortestOutlet_57 : decode cX5_shortestOutlet 57 = .ok (.getfield 59, 3) := by decide +kernel
theorem dX5_shortestOutlet_60 : decode cX5_shortestOutlet 60 = .ok (.invokevirtual 55, 3) := by decide +kernel
theorem dX5_shortestOutlet_63 : decode cX5_shortestOutlet 63 = .ok (.ifCond .eq 56, 3) := by decide +kernel
theorem dX5_shortestOutlet_66 : decode cX5_shortestOutlet 66 = .ok (.aload_n 0, 1) := by decide +kernel
theorem dX5_shortestOutlet_67 : decode cX5_shortestOutlet 67 = .ok (.getfield 11, 3) := by decide +kernel
theorem dX5_shortestOutlet_70 : decode cX5_shortestOutlet 70 = .ok (.iload_n 3, 1) := by decide +kernel
theorem dX5_shortestOutlet_71 : decode cX5_shortestOutlet 71 = .ok (.aaload, 1) := by decide +kernel
theorem dX5_shortestOutlet_72 : decode cX5_shortestOutlet 72 = .ok (.aload 7, 2) := by decide +kernel
theorem dX5_shortestOutlet_74 : decode cX5_shortestOutlet 74 = .ok (.getfield 59, 3) := by decide +kernel
theorem dX5_shortestOutlet_77 : decode cX5_shortestOutlet 77 = .ok (.iaload, 1) := by decide +kernel
theorem dX5_shortestOutlet_78 : decode cX5_shortestOutlet 78 = .ok (.istore 8, 2) := by decide +kernel
theorem dX5_shortestOutlet_80 : decode cX5_shortestOutlet 80 = .ok (.iload 8, 2) := by decide +kernel
theorem dX5_shortestOutlet_82 : decode cX5_shortestOutlet 82 = .ok (.iconst (-1), 1) := by decide +kernel
theorem dX5_shortestOutlet_83 : decode cX5_shortestOutlet 83 = .ok (.if_icmp .eq 36, 3) := by decide +kernel
theorem dX5_shortestOutlet_86 : decode cX5_shortestOutlet 86 = .ok (.iload 4, 2) := by decide +kernel
theorem dX5_shortestOutlet_88 : decode cX5_shortestOutlet 88 = .ok (.iconst (-1), 1) := by decide +kernel
theorem dX5_shortestOutlet_89 : decode cX5_shortestOutlet 89 = .ok (.if_icmp .eq 16, 3) := by decide +kernel
theorem dX5_shortestOutlet_92 : decode cX5_shortestOutlet 92 = .ok (.aload 7, 2) := by decide +kernel
theorem dX5_shortestOutlet_94 : decode cX5_shortestOutlet 94 = .ok (.getfield 62, 3) := by decide +kernel
theorem dX5_shortestOutlet_97 : decode cX5_shortestOutlet 97 = .ok (.iload 8, 2) := by decide +kernel
theorem dX5_shortestOutlet_99 : decode cX5_shortestOutlet 99 = .ok (.iadd, 1) := by decide +kernel
theorem dX5_shortestOutlet_100 : decode cX5_shortestOutlet 100 = .ok (.iload 5, 2) := by decide +kernel
theorem dX5_shortestOutlet_102 : decode cX5_shortestOutlet 102 = .ok (.if_icmp .ge 17, 3) := by decide +kernel
theorem dX5_shortestOutlet_105 : decode cX5_shortestOutlet 105 = .ok (.iload 6, 2) := by decide +kernel
theorem dX5_shortestOutlet_107 : decode cX5_shortestOutlet 107 = .ok (.istore 4, 2) := by decide +kernel
theorem dX5_shortestOutlet_109 : decode cX5_shortestOutlet 109 = .ok (.aload 7, 2) := by decide +kernel
theorem dX5_shortestOutlet_111 : decode cX5_shortestOutlet 111 = .ok (.getfield 62, 3) := by decide +kernel
theorem dX5_shortestOutlet_114 : decode cX5_shortestOutlet 114 = .ok (.iload 8, 2) := by decide +kernel
theorem dX5_shortestOutlet_116 : decode cX5_shortestOutlet 116 = .ok (.iadd, 1) := by decide +kernel
theorem dX5_shortestOutlet_117 : decode cX5_shortestOutlet 117 = .ok (.istore 5, 2) := by decide +kernel
theorem dX5_shortestOutlet_119 : decode cX5_shortestOutlet 119 = .ok (.iinc 6 1, 3) := by decide +kernel
theorem dX5_shortestOutlet_122 : decode cX5_shortestOutlet 122 = .ok (.goto (-103), 3) := by decide +kernel
theorem dX5_shortestOutlet_125 : decode cX5_shortestOutlet 125 = .ok (.iload 4, 2) := by decide +kernel
theorem dX5_shortestOutlet_127 : decode cX5_shortestOutlet 127 = .ok (.ireturn, 1) := by decide +kernel
theorem dX6_init_0 : decode cX6_init 0 = .ok (.aload_n 0, 1) := by decide +kernel
theorem dX6_init_1 : decode cX6_init 1 = .ok (.invokespecial 1, 3) := by decide +kernel
theorem dX6_init_4 : decode cX6_init 4 = .ok (.aload_n 0, 1) := by decide +kernel
theorem dX6_init_5 : decode cX6_init 5 = .ok (.new 7, 3) := by decide +kernel
theorem dX6_init_8 : decode cX6_init 8 = .ok (.dup, 1) := by decide +kernel
theorem dX6_init_9 : decode cX6_init 9 = .ok (.invokespecial 9, 3) := by decide +kernel
theorem dX6_init_12 : decode cX6_init 12 = .ok (.putfield 10, 3) := by decide +kernel
theorem dX6_init_15 : decode cX6_init 15 = .ok (.aload_n 0, 1) := by decide +kernel
theorem dX6_init_16 : decode cX6_init 16 = .ok (.new 16, 3) := by decide +kernel
theorem dX6_init_19 : decode cX6_init 19 = .ok (.dup, 1) := by decide +kernel
theorem dX6_init_20 : decode cX6_init 20 = .ok (.invokespecial 18, 3) := by decide +kernel
theorem dX6_init_23 : decode cX6_init 23 = .ok (.putfield 19, 3) := by decide +kernel
theorem dX6_init_26 : decode cX6_init 26 = .ok (.aload_n 0, 1) := by decide +kernel
theorem dX6_init_27 : decode cX6_init 27 = .ok (.aconst_null, 1) := by decide +kernel
theorem dX6_init_28 : decode cX6_init 28 = .ok (.putfield 23, 3) := by decide +kernel
theorem dX6_init_31 : decode cX6_init 31 = .ok (.aload_n 0, 1) := by decide +kernel
theorem dX6_init_32 : decode cX6_init 32 = .ok (.iconst 0, 1) := by decide +kernel
theorem dX6_init_33 : decode cX6_init 33 = .ok (.putfield 26, 3) := by decide +kernel
theorem dX6_init_36 : decode cX6_init 36 = .ok (.return_, 1) := by decide +kernel
theorem dX6_point_0 : decode cX6_point 0 = .ok (.iload_n 1, 1) := by decide +kernel
theorem dX6_point_1 : decode cX6_point 1 = .ok (.invokestatic 30, 3) := by decide +kernel
theorem dX6_point_4 : decode cX6_point 4 = .ok (.ifCond .eq 11, 3) := by decide +kernel
theorem dX6_point_7 : decode cX6_point 7 = .ok (.iload_n 1, 1) := by decide +kernel
theorem dX6_point_8 : decode cX6_point 8 = .ok (.iload_n 2, 1) := by decide +kernel
theorem dX6_point_9 : decode cX6_point 9 = .ok (.invokestatic 34, 3) := by decide +kernel
theorem dX6_point_12 : decode cX6_point 12 = .ok (.ifCond .ne 9, 3) := by decide +kernel
theorem dX6_point_15 : decode cX6_point 15 = .ok (.aload_n 0, 1) := by decide +kernel
theorem dX6_point_16 : decode cX6_point 16 = .ok (.iconst (-1), 1) := by decide +kernel
theorem dX6_point_17 : decode cX6_point 17 = .ok (.invokevirtual 38, 3) := by decide +kernel
theorem dX6_point_20 : decode cX6_point 20 = .ok (.ireturn, 1) := by decide +kernel
theorem dX6_point_21 : decode cX6_point 21 = .ok (.aload_n 0, 1) := by decide +kernel
theorem dX6_point_22 : decode cX6_point 22 = .ok (.getfield 10, 3) := by decide +kernel
theorem dX6_point_25 : decode cX6_point 25 = .ok (.getfield 42, 3) := by decide +kernel
theorem dX6_point_28 : decode cX6_point 28 = .ok (.bipush 12, 2) := by decide +kernel
theorem dX6_point_30 : decode cX6_point 30 = .ok (.if_icmp .lt 10, 3) := by decide +kernel
theorem dX6_point_33 : decode cX6_point 33 = .ok (.aload_n 0, 1) := by decide +kernel
theorem dX6_point_34 : decode cX6_point 34 = .ok (.bipush (-3), 2) := by decide +kernel
theorem dX6_point_36 : decode cX6_point 36 = .ok (.invokevirtual 38, 3) := by decide +kernel
theorem dX6_point_39 : decode cX6_point 39 = .ok (.ireturn, 1) := by decide +kernel
theorem dX6_point_40 : decode cX6_point 40 = .ok (.aload_n 0, 1) := by decide +kernel
theorem dX6_point_41 : decode cX6_point 41 = .ok (.getfield 10, 3) := by decide +kernel
theorem dX6_point_44 : decode cX6_point 44 = .ok (.getfield 42, 3) := by decide +kernel
theorem dX6_point_47 : decode cX6_point 47 = .ok (.istore_n 3, 1) := by decide +kernel
theorem dX6_point_48 : decode cX6_point 48 = .ok (.aload_n 0, 1) := by decide +kernel
theorem dX6_point_49 : decode cX6_point 49 = .ok (.getfield 10, 3) := by decide +kernel
theorem dX6_point_52 : decode cX6_point 52 = .ok (.getfield 45, 3) := by decide +kernel
theorem dX6_point_55 : decode cX6_point 55 = .ok (.iload_n 3, 1) := by decide +kernel
theorem dX6_point_56 : decode cX6_point 56 = .ok (.aaload, 1) := by decide +kernel
theorem dX6_point_57 : decode cX6_point 57 = .ok (.iload_n 1, 1) := by decide +kernel
theorem dX6_point_58 : decode cX6_point 58 = .ok (.iload_n 2, 1) := by decide +kernel
theorem dX6_point_59 : decode cX6_point 59 = .ok (.invokevirtual 49, 3) := by decide +kernel
theorem dX6_point_62 : decode cX6_point 62 = .ok (.aload_n 0, 1) := by decide +kernel
theorem dX6_point_63 : decode cX6_point 63 = .ok (.getfield 10, 3) := by decide +kernel
theorem dX6_point_66 : decode cX6_point 66 = .ok (.dup, 1) := by decide +kernel
theorem dX6_point_67 : decode cX6_point 67 = .ok (.getfield 42, 3) := by decide +kernel
theorem dX6_point_70 : decode cX6_point 70 = .ok (.iconst 1, 1) := by decide +kernel
theorem dX6_point_71 : decode cX6_point 71 = .ok (.iadd, 1) := by decide +kernel
theorem dX6_point_72 : decode cX6_point 72 = .ok (.putfield 42, 3) := by decide +kernel
theorem dX6_point_75 : decode cX6_point 75 = .ok (.aload_n 0, 1) := by decide +kernel
theorem dX6_point_76 : decode cX6_point 76 = .ok (.getfield 19, 3) := by decide +kernel
theorem dX6_point_79 : decode cX6_point 79 = .ok (.aload_n 0, 1) := by decide +kernel
theorem dX6_point_80 : decode cX6_point 80 = .ok (.getfield 10, 3) := by decide +kernel
theorem dX6_point_83 : decode cX6_point 83 = .ok (.invokevirtual 55, 3) := by decide +kernel
theorem dX6_point_86 : decode cX6_point 86 = .ok (.iload_n 3, 1) := by decide +kernel
theorem dX6_point_87 : decode cX6_point 87 = .ok (.ireturn, 1) := by decide +kernel
theorem dX6_belt_0 : decode cX6_belt 0 = .ok (.aload_n 0, 1) := by decide +kernel
theorem dX6_belt_1 : decode cX6_belt 1 = .ok (.getfield 10, 3) := by decide +kernel
theorem dX6_belt_4 : decode cX6_belt 4 = .ok (.iload_n 1, 1) := by decide +kernel
theorem dX6_belt_5 : decode cX6_belt 5 = .ok (.invokevirtual 59, 3) := by decide +kernel
theorem dX6_belt_8 : decode cX6_belt 8 = .ok (.ifCond .eq 24, 3) := by decide +kernel
theorem dX6_belt_11 : decode cX6_belt 11 = .ok (.aload_n 0, 1) := by decide +kernel
theorem dX6_belt_12 : decode cX6_belt 12 = .ok (.getfield 10, 3) := by decide +kernel
theorem dX6_belt_15 : decode cX6_belt 15 = .ok (.iload_n 2, 1) := by decide +kernel
theorem dX6_belt_16 : decode cX6_belt 16 = .ok (.invokevirtual 59, 3) := by decide +kernel
theorem dX6_belt_19 : decode cX6_belt 19 = .ok (.ifCond .eq 13, 3) := by decide +kernel
theorem dX6_belt_22 : decode cX6_belt 22 = .ok (.iload_n 3, 1) := by decide +kernel
theorem dX6_belt_23 : decode cX6_belt 23 = .ok (.iconst 1, 1) := by decide +kernel
theorem dX6_belt_24 : decode cX6_belt 24 = .ok (.bipush 12, 2) := by decide +kernel
theorem dX6_belt_26 : decode cX6_belt 26 = .ok (.invokestatic 62, 3) := by decide +kernel
theorem dX6_belt_29 : decode cX6_belt 29 = .ok (.ifCond .ne 9, 3) := by decide +kernel
theorem dX6_belt_32 : decode cX6_belt 32 = .ok (.aload_n 0, 1) := by decide +kernel
theorem dX6_belt_33 : decode cX6_belt 33 = .ok (.iconst (-1), 1) := by decide +kernel
theorem dX6_belt_34 : decode cX6_belt 34 = .ok (.invokevirtual 38, 3) := by decide +kernel
theorem dX6_belt_37 : decode cX6_belt 37 = .ok (.ireturn, 1) := by decide +kernel
theorem dX6_belt_38 : decode cX6_belt 38 = .ok (.iload_n 1, 1) := by decide +kernel
theorem dX6_belt_39 : decode cX6_belt 39 = .ok (.iload_n 2, 1) := by decide +kernel
theorem dX6_belt_40 : decode cX6_belt 40 = .ok (.if_icmp .ne 10, 3) := by decide +kernel
theorem dX6_belt_43 : decode cX6_belt 43 = .ok (.aload_n 0, 1) := by decide +kernel
theorem dX6_belt_44 : decode cX6_belt 44 = .ok (.bipush (-5), 2) := by decide +kernel
theorem dX6_belt_46 : decode cX6_belt 46 = .ok (.invokevirtual 38, 3) := by decide +kernel
theorem dX6_belt_49 : decode cX6_belt 49 = .ok (.ireturn, 1) := by decide +kernel
theorem dX6_belt_50 : decode cX6_belt 50 = .ok (.aload_n 0, 1) := by decide +kernel
theorem dX6_belt_51 : decode cX6_belt 51 = .ok (.getfield 10, 3) := by decide +kernel
theorem dX6_belt_54 : decode cX6_belt 54 = .ok (.getfield 45, 3) := by decide +kernel
theorem dX6_belt_57 : decode cX6_belt 57 = .ok (.iload_n 1, 1) := by decide +kernel
theorem dX6_belt_58 : decode cX6_belt 58 = .ok (.aaload, 1) := by decide +kernel
theorem dX6_belt_59 : decode cX6_belt 59 = .ok (.getfield 66, 3) := by decide +kernel
theorem dX6_belt_62 : decode cX6_belt 62 = .ok (.iconst 5, 1) := by decide +kernel
theorem dX6_belt_63 : decode cX6_belt 63 = .ok (.if_icmp .eq 18, 3) := by decide +kernel
theorem dX6_belt_66 : decode cX6_belt 66 = .ok (.aload_n 0, 1) := by decide +kernel
theorem dX6_belt_67 : decode cX6_belt 67 = .ok (.getfield 10, 3) := by decide +kernel
theorem dX6_belt_70 : decode cX6_belt 70 = .ok (.getfield 45, 3) := by decide +kernel
theorem dX6_belt_73 : decode cX6_belt 73 = .ok (.iload_n 2, 1) := by decide +kernel
theorem dX6_belt_74 : decode cX6_belt 74 = .ok (.aaload, 1) := by decide +kernel
theorem dX6_belt_75 : decode cX6_belt 75 = .ok (.getfield 66, 3) := by decide +kernel
theorem dX6_belt_78 : decode cX6_belt 78 = .ok (.ifCond .ne 10, 3) := by decide +kernel
theorem dX6_belt_81 : decode cX6_belt 81 = .ok (.aload_n 0, 1) := by decide +kernel
theorem dX6_belt_82 : decode cX6_belt 82 = .ok (.bipush (-4), 2) := by decide +kernel
theorem dX6_belt_84 : decode cX6_belt 84 = .ok (.invokevirtual 38, 3) := by decide +kernel
theorem dX6_belt_87 : decode cX6_belt 87 = .ok (.ireturn, 1) := by decide +kernel
theorem dX6_belt_88 : decode cX6_belt 88 = .ok (.aload_n 0, 1) := by decide +kernel
theorem dX6_belt_89 : decode cX6_belt 89 = .ok (.getfield 10, 3) := by decide +kernel
theorem dX6_belt_92 : decode cX6_belt 92 = .ok (.getfield 69, 3) := by decide +kernel
theorem dX6_belt_95 : decode cX6_belt 95 = .ok (.bipush 16, 2) := by decide +kernel
theorem dX6_belt_97 : decode cX6_belt 97 = .ok (.if_icmp .lt 10, 3) := by decide +kernel
theorem dX6_belt_100 : decode cX6_belt 100 = .ok (.aload_n 0, 1) := by decide +kernel
theorem dX6_belt_101 : decode cX6_belt 101 = .ok (.bipush (-3), 2) := by decide +kernel
theorem dX6_belt_103 : decode cX6_belt 103 = .ok (.invokevirtual 38, 3) := by decide +kernel
theorem dX6_belt_106 : decode cX6_belt 106 = .ok (.ireturn, 1) := by decide +kernel
theorem dX6_belt_107 : decode cX6_belt 107 = .ok (.aload_n 0, 1) := by decide +kernel
theorem dX6_belt_108 : decode cX6_belt 108 = .ok (.getfield 10, 3) := by decide +kernel
theorem dX6_belt_111 : decode cX6_belt 111 = .ok (.getfield 69, 3) := by decide +kernel
theorem dX6_belt_114 : decode cX6_belt 114 = .ok (.istore 4, 2) := by decide +kernel
theorem dX6_belt_116 : decode cX6_belt 116 = .ok (.aload_n 0, 1) := by decide +kernel
theorem dX6_belt_117 : decode cX6_belt 117 = .ok (.getfield 10, 3) := by decide +kernel
theorem dX6_belt_120 : decode cX6_belt 120 = .ok (.getfield 72, 3) := by decide +kernel
theorem dX6_belt_123 : decode cX6_belt 123 = .ok (.iload 4, 2) := by decide +kernel
theorem dX6_belt_125 : decode cX6_belt 125 = .ok (.aaload, 1) := by decide +kernel
theorem dX6_belt_126 : decode cX6_belt 126 = .ok (.iload_n 1, 1) := by decide +kernel
theorem dX6_belt_127 : decode cX6_belt 127 = .ok (.iload_n 2, 1) := by decide +kernel
theorem dX6_belt_128 : decode cX6_belt 128 = .ok (.iload_n 3, 1) := by decide +kernel
theorem dX6_belt_129 : decode cX6_belt 129 = .ok (.invokevirtual 76, 3) := by decide +kernel
theorem dX6_belt_132 : decode cX6_belt 132 = .ok (.aload_n 0, 1) := by decide +kernel
theorem dX6_belt_133 : decode cX6_belt 133 = .ok (.getfield 10, 3) := by decide +kernel
theorem dX6_belt_136 : decode cX6_belt 136 = .ok (.getfield 45, 3) := by decide +kernel
theorem dX6_belt_139 : decode cX6_belt 139 = .ok (.iload_n 2, 1) := by decide +kernel
theorem dX6_belt_140 : decode cX6_belt 140 = .ok (.aaload, 1) := by decide +kernel
theorem dX6_belt_141 : decode cX6_belt 141 = .ok (.iload 4, 2) := by decide +kernel
theorem dX6_belt_143 : decode cX6_belt 143 = .ok (.invokevirtual 81, 3) := by decide +kernel
theorem dX6_belt_146 : decode cX6_belt 146 = .ok (.aload_n 0, 1) := by decide +kernel
theorem dX6_belt_147 : decode cX6_belt 147 = .ok (.getfield 10, 3) := by decide +kernel
theorem dX6_belt_150 : decode cX6_belt 150 = .ok (.dup, 1) := by decide +kernel
theorem dX6_belt_151 : decode cX6_belt 151 = .ok (.getfield 69, 3) := by decide +kernel
theorem dX6_belt_154 : decode cX6_belt 154 = .ok (.iconst 1, 1) := by decide +kernel
theorem dX6_belt_155 : decode cX6_belt 155 = .ok (.iadd, 1) := by decide +kernel
theorem dX6_belt_156 : decode cX6_belt 156 = .ok (.putfield 69, 3) := by decide +kernel
theorem dX6_belt_159 : decode cX6_belt 159 = .ok (.aload_n 0, 1) := by decide +kernel
theorem dX6_belt_160 : decode cX6_belt 160 = .ok (.getfield 19, 3) := by decide +kernel
theorem dX6_belt_163 : decode cX6_belt 163 = .ok (.aload_n 0, 1) := by decide +kernel
theorem dX6_belt_164 : decode cX6_belt 164 = .ok (.getfield 10, 3) := by decide +kernel
theorem dX6_belt_167 : decode cX6_belt 167 = .ok (.invokevirtual 55, 3) := by decide +kernel
theorem dX6_belt_170 : decode cX6_belt 170 = .ok (.iload 4, 2) := by decide +kernel
theorem dX6_belt_172 : decode cX6_belt 172 = .ok (.ireturn, 1) := by decide +kernel
theorem dX6_as_0 : decode cX6_as 0 = .ok (.aload_n 0, 1) := by decide +kernel
theorem dX6_as_1 : decode cX6_as 1 = .ok (.getfield 10, 3) := by decide +kernel
theorem dX6_as_4 : decode cX6_as 4 = .ok (.iload_n 1, 1) := by decide +kernel
theorem dX6_as_5 : decode cX6_as 5 = .ok (.invokevirtual 59, 3) := by decide +kernel
theorem dX6_as_8 : decode cX6_as 8 = .ok (.ifCond .eq 10, 3) := by decide +kernel
theorem dX6_as_11 : decode cX6_as 11 = .ok (.iload_n 2, 1) := by decide +kernel
theorem dX6_as_12 : decode cX6_as 12 = .ok (.invokestatic 30, 3) := by decide +kernel
theorem dX6_as_15 : decode cX6_as 15 = .ok (.ifCond .ne 9, 3) := by decide +kernel
theorem dX6_as_18 : decode cX6_as 18 = .ok (.aload_n 0, 1) := by decide +kernel
theorem dX6_as_19 : decode cX6_as 19 = .ok (.iconst (-1), 1) := by decide +kernel
theorem dX6_as_20 : decode cX6_as 20 = .ok (.invokevirtual 38, 3) := by decide +kernel
theorem dX6_as_23 : decode cX6_as 23 = .ok (.ireturn, 1) := by decide +kernel
theorem dX6_as_24 : decode cX6_as 24 = .ok (.aload_n 0, 1) := by decide +kernel
theorem dX6_as_25 : decode cX6_as 25 = .ok (.getfield 10, 3) := by decide +kernel
theorem dX6_as_28 : decode cX6_as 28 = .ok (.getfield 45, 3) := by decide +kernel
theorem dX6_as_31 : decode cX6_as 31 = .ok (.iload_n 1, 1) := by decide +kernel
theorem dX6_as_32 : decode cX6_as 32 = .ok (.aaload, 1) := by decide +kernel
theorem dX6_as_33 : decode cX6_as 33 = .ok (.getfield 66, 3) := by decide +kernel
theorem dX6_as_36 : decode cX6_as 36 = .ok (.iload_n 2, 1) := by decide +kernel
theorem dX6_as_37 : decode cX6_as 37 = .ok (.if_icmp .ne 7, 3) := by decide +kernel
theorem dX6_as_40 : decode cX6_as 40 = .ok (.iload_n 1, 1) := by decide +kernel
theorem dX6_as_41 : decode cX6_as 41 = .ok (.goto 9, 3) := by decide +kernel
theorem dX6_as_44 : decode cX6_as 44 = .ok (.aload_n 0, 1) := by decide +kernel
theorem dX6_as_45 : decode cX6_as 45 = .ok (.bipush (-4), 2) := by decide +kernel
theorem dX6_as_47 : decode cX6_as 47 = .ok (.invokevirtual 38, 3) := by decide +kernel
theorem dX6_as_50 : decode cX6_as 50 = .ok (.ireturn, 1) := by decide +kernel
theorem dX6_turns_0 : decode cX6_turns 0 = .ok (.aload_n 0, 1) := by decide +kernel
theorem dX6_turns_1 : decode cX6_turns 1 = .ok (.getfield 10, 3) := by decide +kernel
theorem dX6_turns_4 : decode cX6_turns 4 = .ok (.iload_n 1, 1) := by decide +kernel
theorem dX6_turns_5 : decode cX6_turns 5 = .ok (.invokevirtual 85, 3) := by decide +kernel
theorem dX6_turns_8 : decode cX6_turns 8 = .ok (.ifCond .eq 13, 3) := by decide +kernel
theorem dX6_turns_11 : decode cX6_turns 11 = .ok (.iload_n 2, 1) := by decide +kernel
theorem dX6_turns_12 : decode cX6_turns 12 = .ok (.iconst 0, 1) := by decide +kernel
theorem dX6_turns_13 : decode cX6_turns 13 = .ok (.bipush 9, 2) := by decide +kernel
theorem dX6_turns_15 : decode cX6_turns 15 = .ok (.invokestatic 62, 3) := by decide +kernel
theorem dX6_turns_18 : decode cX6_turns 18 = .ok (.ifCond .ne 9, 3) := by decide +kernel
theorem dX6_turns_21 : decode cX6_turns 21 = .ok (.aload_n 0, 1) := by decide +kernel
theorem dX6_turns_22 : decode cX6_turns 22 = .ok (.iconst (-1), 1) := by decide +kernel
theorem dX6_turns_23 : decode cX6_turns 23 = .ok (.invokevirtual 38, 3) := by decide +kernel
theorem dX6_turns_26 : decode cX6_turns 26 = .ok (.ireturn, 1) := by decide +kernel
theorem dX6_turns_27 : decode cX6_turns 27 = .ok (.aload_n 0, 1) := by decide +kernel
theorem dX6_turns_28 : decode cX6_turns 28 = .ok (.getfield 10, 3) := by decide +kernel
theorem dX6_turns_31 : decode cX6_turns 31 = .ok (.getfield 72, 3) := by decide +kernel
theorem dX6_turns_34 : decode cX6_turns 34 = .ok (.iload_n 1, 1) := by decide +kernel
theorem dX6_turns_35 : decode cX6_turns 35 = .ok (.aaload, 1) := by decide +kernel
theorem dX6_turns_36 : decode cX6_turns 36 = .ok (.astore_n 3, 1) := by decide +kernel
theorem dX6_turns_37 : decode cX6_turns 37 = .ok (.aload_n 0, 1) := by decide +kernel
theorem dX6_turns_38 : decode cX6_turns 38 = .ok (.getfield 10, 3) := by decide +kernel
theorem dX6_turns_41 : decode cX6_turns 41 = .ok (.aload_n 3, 1) := by decide +kernel
theorem dX6_turns_42 : decode cX6_turns 42 = .ok (.getfield 88, 3) := by decide +kernel
theorem dX6_turns_45 : decode cX6_turns 45 = .ok (.iconst 1, 1) := by decide +kernel
theorem dX6_turns_46 : decode cX6_turns 46 = .ok (.invokevirtual 91, 3) := by decide +kernel
theorem dX6_turns_49 : decode cX6_turns 49 = .ok (.ifCond .ne 10, 3) := by decide +kernel
theorem dX6_turns_52 : decode cX6_turns 52 = .ok (.aload_n 0, 1) := by decide +kernel
theorem dX6_turns_53 : decode cX6_turns 53 = .ok (.bipush (-4), 2) := by decide +kernel
theorem dX6_turns_55 : decode cX6_turns 55 = .ok (.invokevirtual 38, 3) := by decide +kernel
theorem dX6_turns_58 : decode cX6_turns 58 = .ok (.ireturn, 1) := by decide +kernel
theorem dX6_turns_59 : decode cX6_turns 59 = .ok (.aload_n 3, 1) := by decide +kernel
theorem dX6_turns_60 : decode cX6_turns 60 = .ok (.getfield 94, 3) := by decide +kernel
theorem dX6_turns_63 : decode cX6_turns 63 = .ok (.istore 4, 2) := by decide +kernel
theorem dX6_turns_65 : decode cX6_turns 65 = .ok (.aload_n 3, 1) := by decide +kernel
theorem dX6_turns_66 : decode cX6_turns 66 = .ok (.iload_n 2, 1) := by decide +kernel
theorem dX6_turns_67 : decode cX6_turns 67 = .ok (.putfield 94, 3) := by decide +kernel
theorem dX6_turns_70 : decode cX6_turns 70 = .ok (.aload_n 0, 1) := by decide +kernel
theorem dX6_turns_71 : decode cX6_turns 71 = .ok (.getfield 10, 3) := by decide +kernel
theorem dX6_turns_74 : decode cX6_turns 74 = .ok (.getfield 45, 3) := by decide +kernel
theorem dX6_turns_77 : decode cX6_turns 77 = .ok (.aload_n 3, 1) := by decide +kernel
theorem dX6_turns_78 : decode cX6_turns 78 = .ok (.getfield 88, 3) := by decide +kernel
theorem dX6_turns_81 : decode cX6_turns 81 = .ok (.aaload, 1) := by decide +kernel
theorem dX6_turns_82 : decode cX6_turns 82 = .ok (.iload_n 1, 1) := by decide +kernel
theorem dX6_turns_83 : decode cX6_turns 83 = .ok (.iload_n 2, 1) := by decide +kernel
theorem dX6_turns_84 : decode cX6_turns 84 = .ok (.invokevirtual 97, 3) := by decide +kernel
theorem dX6_turns_87 : decode cX6_turns 87 = .ok (.iload 4, 2) := by decide +kernel
theorem dX6_turns_89 : decode cX6_turns 89 = .ok (.ireturn, 1) := by decide +kernel
theorem dX6_flight_0 : decode cX6_flight 0 = .ok (.aload_n 0, 1) := by decide +kernel
theorem dX6_flight_1 : decode cX6_flight 1 = .ok (.getfield 10, 3) := by decide +kernel
theorem dX6_flight_4 : decode cX6_flight 4 = .ok (.iload_n 1, 1) := by decide +kernel
theorem dX6_flight_5 : decode cX6_flight 5 = .ok (.invokevirtual 59, 3) := by decide +kernel
theorem dX6_flight_8 : decode cX6_flight 8 = .ok (.ifCond .eq 25, 3) := by decide +kernel
theorem dX6_flight_11 : decode cX6_flight 11 = .ok (.iload_n 2, 1) := by decide +kernel
theorem dX6_flight_12 : decode cX6_flight 12 = .ok (.iconst 0, 1) := by decide +kernel
theorem dX6_flight_13 : decode cX6_flight 13 = .ok (.sipush 5000, 3) := by decide +kernel
theorem dX6_flight_16 : decode cX6_flight 16 = .ok (.invokestatic 62, 3) := by decide +kernel
theorem dX6_flight_19 : decode cX6_flight 19 = .ok (.ifCond .eq 14, 3) := by decide +kernel
theorem dX6_flight_22 : decode cX6_flight 22 = .ok (.iload_n 3, 1) := by decide +kernel
theorem dX6_flight_23 : decode cX6_flight 23 = .ok (.iload_n 2, 1) := by decide +kernel
theorem dX6_flight_24 : decode cX6_flight 24 = .ok (.sipush 5000, 3) := by decide +kernel
theorem dX6_flight_27 : decode cX6_flight 27 = .ok (.invokestatic 62, 3) := by decide +kernel
theorem dX6_flight_30 : decode cX6_flight 30 = .ok (.ifCond .ne 9, 3) := by decide +kernel
theorem dX6_flight_33 : decode cX6_flight 33 = .ok (.aload_n 0, 1) := by decide +kernel
theorem dX6_flight_34 : decode cX6_flight 34 = .ok (.iconst (-1), 1) := by decide +kernel
theorem dX6_flight_35 : decode cX6_flight 35 = .ok (.invokevirtual 38, 3) := by decide +kernel
theorem dX6_flight_38 : decode cX6_flight 38 = .ok (.ireturn, 1) := by decide +kernel
theorem dX6_flight_39 : decode cX6_flight 39 = .ok (.aload_n 0, 1) := by decide +kernel
theorem dX6_flight_40 : decode cX6_flight 40 = .ok (.getfield 10, 3) := by decide +kernel
theorem dX6_flight_43 : decode cX6_flight 43 = .ok (.getfield 45, 3) := by decide +kernel
theorem dX6_flight_46 : decode cX6_flight 46 = .ok (.iload_n 1, 1) := by decide +kernel
theorem dX6_flight_47 : decode cX6_flight 47 = .ok (.aaload, 1) := by decide +kernel
theorem dX6_flight_48 : decode cX6_flight 48 = .ok (.getfield 66, 3) := by decide +kernel
theorem dX6_flight_51 : decode cX6_flight 51 = .ok (.iconst 5, 1) := by decide +kernel
theorem dX6_flight_52 : decode cX6_flight 52 = .ok (.if_icmp .eq 10, 3) := by decide +kernel
theorem dX6_flight_55 : decode cX6_flight 55 = .ok (.aload_n 0, 1) := by decide +kernel
theorem dX6_flight_56 : decode cX6_flight 56 = .ok (.bipush (-4), 2) := by decide +kernel
theorem dX6_flight_58 : decode cX6_flight 58 = .ok (.invokevirtual 38, 3) := by decide +kernel
theorem dX6_flight_61 : decode cX6_flight 61 = .ok (.ireturn, 1) := by decide +kernel
theorem dX6_flight_62 : decode cX6_flight 62 = .ok (.aload_n 0, 1) := by decide +kernel
theorem dX6_flight_63 : decode cX6_flight 63 = .ok (.getfield 10, 3) := by decide +kernel
theorem dX6_flight_66 : decode cX6_flight 66 = .ok (.getfield 100, 3) := by decide +kernel
theorem dX6_flight_69 : decode cX6_flight 69 = .ok (.bipush 8, 2) := by decide +kernel
theorem dX6_flight_71 : decode cX6_flight 71 = .ok (.if_icmp .lt 10, 3) := by decide +kernel
theorem dX6_flight_74 : decode cX6_flight 74 = .ok (.aload_n 0, 1) := by decide +kernel
theorem dX6_flight_75 : decode cX6_flight 75 = .ok (.bipush (-3), 2) := by decide +kernel
theorem dX6_flight_77 : decode cX6_flight 77 = .ok (.invokevirtual 38, 3) := by decide +kernel
theorem dX6_flight_80 : decode cX6_flight 80 = .ok (.ireturn, 1) := by decide +kernel
theorem dX6_flight_81 : decode cX6_flight 81 = .ok (.aload_n 0, 1) := by decide +kernel
theorem dX6_flight_82 : decode cX6_flight 82 = .ok (.getfield 10, 3) := by decide +kernel
theorem dX6_flight_85 : decode cX6_flight 85 = .ok (.getfield 100, 3) := by decide +kernel
theorem dX6_flight_88 : decode cX6_flight 88 = .ok (.istore 4, 2) := by decide +kernel
theorem dX6_flight_90 : decode cX6_flight 90 = .ok (.aload_n 0, 1) := by decide +kernel
theorem dX6_flight_91 : decode cX6_flight 91 = .ok (.getfield 10, 3) := by decide +kernel
theorem dX6_flight_94 : decode cX6_flight 94 = .ok (.getfield 103, 3) := by decide +kernel
theorem dX6_flight_97 : decode cX6_flight 97 = .ok (.iload 4, 2) := by decide +kernel
theorem dX6_flight_99 : decode cX6_flight 99 = .ok (.aaload, 1) := by decide +kernel
theorem dX6_flight_100 : decode cX6_flight 100 = .ok (.iload_n 1, 1) := by decide +kernel
theorem dX6_flight_101 : decode cX6_flight 101 = .ok (.iload_n 2, 1) := by decide +kernel
theorem dX6_flight_102 : decode cX6_flight 102 = .ok (.iload_n 3, 1) := by decide +kernel
theorem dX6_flight_103 : decode cX6_flight 103 = .ok (.invokevirtual 107, 3) := by decide +kernel
theorem dX6_flight_106 : decode cX6_flight 106 = .ok (.aload_n 0, 1) := by decide +kernel
theorem dX6_flight_107 : decode cX6_flight 107 = .ok (.getfield 10, 3) := by decide +kernel
theorem dX6_flight_110 : decode cX6_flight 110 = .ok (.dup, 1) := by decide +kernel
theorem dX6_flight_111 : decode cX6_flight 111 = .ok (.getfield 100, 3) := by decide +kernel
theorem dX6_flight_114 : decode cX6_flight 114 = .ok (.iconst 1, 1) := by decide +kernel
theorem dX6_flight_115 : decode cX6_flight 115 = .ok (.iadd, 1) := by decide +kernel
theorem dX6_flight_116 : decode cX6_flight 116 = .ok (.putfield 100, 3) := by decide +kernel
theorem dX6_flight_119 : decode cX6_flight 119 = .ok (.iload 4, 2) := by decide +kernel
theorem dX6_flight_121 : decode cX6_flight 121 = .ok (.ireturn, 1) := by decide +kernel
theorem dX6_fall_0 : decode cX6_fall 0 = .ok (.aload_n 0, 1) := by decide +kernel
theorem dX6_fall_1 : decode cX6_fall 1 = .ok (.getfield 10, 3) := by decide +kernel
theorem dX6_fall_4 : decode cX6_fall 4 = .ok (.iload_n 1, 1) := by decide +kernel
theorem dX6_fall_5 : decode cX6_fall 5 = .ok (.invokevirtual 85, 3) := by decide +kernel
theorem dX6_fall_8 : decode cX6_fall 8 = .ok (.ifCond .ne 9, 3) := by decide +kernel
theorem dX6_fall_11 : decode cX6_fall 11 = .ok (.aload_n 0, 1) := by decide +kernel
theorem dX6_fall_12 : decode cX6_fall 12 = .ok (.iconst (-1), 1) := by decide +kernel
theorem dX6_fall_13 : decode cX6_fall 13 = .ok (.invokevirtual 38, 3) := by decide +kernel
theorem dX6_fall_16 : decode cX6_fall 16 = .ok (.ireturn, 1) := by decide +kernel
theorem dX6_fall_17 : decode cX6_fall 17 = .ok (.aload_n 0, 1) := by decide +kernel
theorem dX6_fall_18 : decode cX6_fall 18 = .ok (.getfield 10, 3) := by decide +kernel
theorem dX6_fall_21 : decode cX6_fall 21 = .ok (.getfield 72, 3) := by decide +kernel
theorem dX6_fall_24 : decode cX6_fall 24 = .ok (.iload_n 1, 1) := by decide +kernel
theorem dX6_fall_25 : decode cX6_fall 25 = .ok (.aaload, 1) := by decide +kernel
theorem dX6_fall_26 : decode cX6_fall 26 = .ok (.getfield 110, 3) := by decide +kernel
theorem dX6_fall_29 : decode cX6_fall 29 = .ok (.iload_n 2, 1) := by decide +kernel
theorem dX6_fall_30 : decode cX6_fall 30 = .ok (.if_icmp .ne 5, 3) := by decide +kernel
theorem dX6_fall_33 : decode cX6_fall 33 = .ok (.iconst 0, 1) := by decide +kernel
theorem dX6_fall_34 : decode cX6_fall 34 = .ok (.ireturn, 1) := by decide +kernel
theorem dX6_fall_35 : decode cX6_fall 35 = .ok (.aload_n 0, 1) := by decide +kernel
theorem dX6_fall_36 : decode cX6_fall 36 = .ok (.getfield 10, 3) := by decide +kernel
theorem dX6_fall_39 : decode cX6_fall 39 = .ok (.getfield 72, 3) := by decide +kernel
theorem dX6_fall_42 : decode cX6_fall 42 = .ok (.iload_n 1, 1) := by decide +kernel
theorem dX6_fall_43 : decode cX6_fall 43 = .ok (.aaload, 1) := by decide +kernel
theorem dX6_fall_44 : decode cX6_fall 44 = .ok (.iload_n 2, 1) := by decide +kernel
theorem dX6_fall_45 : decode cX6_fall 45 = .ok (.putfield 110, 3) := by decide +kernel
theorem dX6_fall_48 : decode cX6_fall 48 = .ok (.aload_n 0, 1) := by decide +kernel
theorem dX6_fall_49 : decode cX6_fall 49 = .ok (.getfield 19, 3) := by decide +kernel
theorem dX6_fall_52 : decode cX6_fall 52 = .ok (.aload_n 0, 1) := by decide +kernel
theorem dX6_fall_53 : decode cX6_fall 53 = .ok (.getfield 10, 3) := by decide +kernel
theorem dX6_fall_56 : decode cX6_fall 56 = .ok (.invokevirtual 55, 3) := by decide +kernel
theorem dX6_fall_59 : decode cX6_fall 59 = .ok (.iconst 1, 1) := by decide +kernel
theorem dX6_fall_60 : decode cX6_fall 60 = .ok (.ireturn, 1) := by decide +kernel
theorem dX6_bag_0 : decode cX6_bag 0 = .ok (.aload_n 0, 1) := by decide +kernel
theorem dX6_bag_1 : decode cX6_bag 1 = .ok (.getfield 10, 3) := by decide +kernel
theorem dX6_bag_4 : decode cX6_bag 4 = .ok (.iload_n 1, 1) := by decide +kernel
theorem dX6_bag_5 : decode cX6_bag 5 = .ok (.invokevirtual 59, 3) := by decide +kernel
theorem dX6_bag_8 : decode cX6_bag 8 = .ok (.ifCond .eq 14, 3) := by decide +kernel
theorem dX6_bag_11 : decode cX6_bag 11 = .ok (.aload_n 0, 1) := by decide +kernel
theorem dX6_bag_12 : decode cX6_bag 12 = .ok (.getfield 10, 3) := by decide +kernel
theorem dX6_bag_15 : decode cX6_bag 15 = .ok (.iload_n 2, 1) := by decide +kernel
theorem dX6_bag_16 : decode cX6_bag 16 = .ok (.invokevirtual 114, 3) := by decide +kernel
theorem dX6_bag_19 : decode cX6_bag 19 = .ok (.ifCond .ne 9, 3) := by decide +kernel
theorem dX6_bag_22 : decode cX6_bag 22 = .ok (.aload_n 0, 1) := by decide +kernel
theorem dX6_bag_23 : decode cX6_bag 23 = .ok (.iconst (-1), 1) := by decide +kernel
theorem dX6_bag_24 : decode cX6_bag 24 = .ok (.invokevirtual 38, 3) := by decide +kernel
theorem dX6_bag_27 : decode cX6_bag 27 = .ok (.ireturn, 1) := by decide +kernel
theorem dX6_bag_28 : decode cX6_bag 28 = .ok (.aload_n 0, 1) := by decide +kernel
theorem dX6_bag_29 : decode cX6_bag 29 = .ok (.getfield 10, 3) := by decide +kernel
theorem dX6_bag_32 : decode cX6_bag 32 = .ok (.getfield 45, 3) := by decide +kernel
theorem dX6_bag_35 : decode cX6_bag 35 = .ok (.iload_n 1, 1) := by decide +kernel
theorem dX6_bag_36 : decode cX6_bag 36 = .ok (.aaload, 1) := by decide +kernel
theorem dX6_bag_37 : decode cX6_bag 37 = .ok (.getfield 66, 3) := by decide +kernel
theorem dX6_bag_40 : decode cX6_bag 40 = .ok (.ifCond .eq 10, 3) := by decide +kernel
theorem dX6_bag_43 : decode cX6_bag 43 = .ok (.aload_n 0, 1) := by decide +kernel
theorem dX6_bag_44 : decode cX6_bag 44 = .ok (.bipush (-4), 2) := by decide +kernel
theorem dX6_bag_46 : decode cX6_bag 46 = .ok (.invokevirtual 38, 3) := by decide +kernel
theorem dX6_bag_49 : decode cX6_bag 49 = .ok (.ireturn, 1) := by decide +kernel
theorem dX6_bag_50 : decode cX6_bag 50 = .ok (.aload_n 0, 1) := by decide +kernel
theorem dX6_bag_51 : decode cX6_bag 51 = .ok (.getfield 10, 3) := by decide +kernel
theorem dX6_bag_54 : decode cX6_bag 54 = .ok (.getfield 117, 3) := by decide +kernel
theorem dX6_bag_57 : decode cX6_bag 57 = .ok (.bipush 60, 2) := by decide +kernel
theorem dX6_bag_59 : decode cX6_bag 59 = .ok (.if_icmp .lt 10, 3) := by decide +kernel
theorem dX6_bag_62 : decode cX6_bag 62 = .ok (.aload_n 0, 1) := by decide +kernel
theorem dX6_bag_63 : decode cX6_bag 63 = .ok (.bipush (-3), 2) := by decide +kernel
theorem dX6_bag_65 : decode cX6_bag 65 = .ok (.invokevirtual 38, 3) := by decide +kernel
theorem dX6_bag_68 : decode cX6_bag 68 = .ok (.ireturn, 1) := by decide +kernel
theorem dX6_bag_69 : decode cX6_bag 69 = .ok (.aload_n 0, 1) := by decide +kernel
theorem dX6_bag_70 : decode cX6_bag 70 = .ok (.getfield 10, 3) := by decide +kernel
theorem dX6_bag_73 : decode cX6_bag 73 = .ok (.getfield 117, 3) := by decide +kernel
theorem dX6_bag_76 : decode cX6_bag 76 = .ok (.istore 4, 2) := by decide +kernel
theorem dX6_bag_78 : decode cX6_bag 78 = .ok (.aload_n 0, 1) := by decide +kernel
theorem dX6_bag_79 : decode cX6_bag 79 = .ok (.getfield 10, 3) := by decide +kernel
theorem dX6_bag_82 : decode cX6_bag 82 = .ok (.getfield 120, 3) := by decide +kernel
theorem dX6_bag_85 : decode cX6_bag 85 = .ok (.iload 4, 2) := by decide +kernel
theorem dX6_bag_87 : decode cX6_bag 87 = .ok (.aaload, 1) := by decide +kernel
theorem dX6_bag_88 : decode cX6_bag 88 = .ok (.iload_n 2, 1) := by decide +kernel
theorem dX6_bag_89 : decode cX6_bag 89 = .ok (.invokevirtual 124, 3) := by decide +kernel
theorem dX6_bag_92 : decode cX6_bag 92 = .ok (.aload_n 0, 1) := by decide +kernel
theorem dX6_bag_93 : decode cX6_bag 93 = .ok (.getfield 10, 3) := by decide +kernel
theorem dX6_bag_96 : decode cX6_bag 96 = .ok (.dup, 1) := by decide +kernel
theorem dX6_bag_97 : decode cX6_bag 97 = .ok (.getfield 117, 3) := by decide +kernel
theorem dX6_bag_100 : decode cX6_bag 100 = .ok (.iconst 1, 1) := by decide +kernel
theorem dX6_bag_101 : decode cX6_bag 101 = .ok (.iadd, 1) := by decide +kernel
theorem dX6_bag_102 : decode cX6_bag 102 = .ok (.putfield 117, 3) := by decide +kernel
theorem dX6_bag_105 : decode cX6_bag 105 = .ok (.aload_n 0, 1) := by decide +kernel
theorem dX6_bag_106 : decode cX6_bag 106 = .ok (.getfield 10, 3) := by decide +kernel
theorem dX6_bag_109 : decode cX6_bag 109 = .ok (.iload 4, 2) := by decide +kernel
theorem dX6_bag_111 : decode cX6_bag 111 = .ok (.iload_n 1, 1) := by decide +kernel
theorem dX6_bag_112 : decode cX6_bag 112 = .ok (.iload_n 3, 1) := by decide +kernel
theorem dX6_bag_113 : decode cX6_bag 113 = .ok (.invokevirtual 128, 3) := by decide +kernel
theorem dX6_bag_116 : decode cX6_bag 116 = .ok (.iload 4, 2) := by decide +kernel
theorem dX6_bag_118 : decode cX6_bag 118 = .ok (.ireturn, 1) := by decide +kernel
theorem dX6_take_0 : decode cX6_take 0 = .ok (.aload_n 0, 1) := by decide +kernel
theorem dX6_take_1 : decode cX6_take 1 = .ok (.getfield 10, 3) := by decide +kernel
theorem dX6_take_4 : decode cX6_take 4 = .ok (.iload_n 1, 1) := by decide +kernel
theorem dX6_take_5 : decode cX6_take 5 = .ok (.invokevirtual 132, 3) := by decide +kernel
theorem dX6_take_8 : decode cX6_take 8 = .ok (.ifCond .ne 9, 3) := by decide +kernel
theorem dX6_take_11 : decode cX6_take 11 = .ok (.aload_n 0, 1) := by decide +kernel
theorem dX6_take_12 : decode cX6_take 12 = .ok (.iconst (-1), 1) := by decide +kernel
theorem dX6_take_13 : decode cX6_take 13 = .ok (.invokevirtual 38, 3) := by decide +kernel
theorem dX6_take_16 : decode cX6_take 16 = .ok (.ireturn, 1) := by decide +kernel
theorem dX6_take_17 : decode cX6_take 17 = .ok (.aload_n 0, 1) := by decide +kernel
theorem dX6_take_18 : decode cX6_take 18 = .ok (.getfield 10, 3) := by decide +kernel
theorem dX6_take_21 : decode cX6_take 21 = .ok (.getfield 120, 3) := by decide +kernel
theorem dX6_take_24 : decode cX6_take 24 = .ok (.iload_n 1, 1) := by decide +kernel
theorem dX6_take_25 : decode cX6_take 25 = .ok (.aaload, 1) := by decide +kernel
theorem dX6_take_26 : decode cX6_take 26 = .ok (.getfield 135, 3) := by decide +kernel
theorem dX6_take_29 : decode cX6_take 29 = .ok (.iconst 4, 1) := by decide +kernel
theorem dX6_take_30 : decode cX6_take 30 = .ok (.if_icmp .lt 10, 3) := by decide +kernel
theorem dX6_take_33 : decode cX6_take 33 = .ok (.aload_n 0, 1) := by decide +kernel
theorem dX6_take_34 : decode cX6_take 34 = .ok (.bipush (-6), 2) := by decide +kernel
theorem dX6_take_36 : decode cX6_take 36 = .ok (.invokevirtual 38, 3) := by decide +kernel
theorem dX6_take_39 : decode cX6_take 39 = .ok (.ireturn, 1) := by decide +kernel
theorem dX6_take_40 : decode cX6_take 40 = .ok (.aload_n 0, 1) := by decide +kernel
theorem dX6_take_41 : decode cX6_take 41 = .ok (.getfield 10, 3) := by decide +kernel
theorem dX6_take_44 : decode cX6_take 44 = .ok (.iload_n 1, 1) := by decide +kernel
theorem dX6_take_45 : decode cX6_take 45 = .ok (.invokevirtual 138, 3) := by decide +kernel
theorem dX6_take_48 : decode cX6_take 48 = .ok (.iconst 1, 1) := by decide +kernel
theorem dX6_take_49 : decode cX6_take 49 = .ok (.ireturn, 1) := by decide +kernel
theorem dX6_give_0 : decode cX6_give 0 = .ok (.aload_n 0, 1) := by decide +kernel
theorem dX6_give_1 : decode cX6_give 1 = .ok (.getfield 10, 3) := by decide +kernel
theorem dX6_give_4 : decode cX6_give 4 = .ok (.iload_n 1, 1) := by decide +kernel
theorem dX6_give_5 : decode cX6_give 5 = .ok (.invokevirtual 132, 3) := by decide +kernel
theorem dX6_give_8 : decode cX6_give 8 = .ok (.ifCond .eq 14, 3) := by decide +kernel
theorem dX6_give_11 : decode cX6_give 11 = .ok (.aload_n 0, 1) := by decide +kernel
theorem dX6_give_12 : decode cX6_give 12 = .ok (.getfield 10, 3) := by decide +kernel
theorem dX6_give_15 : decode cX6_give 15 = .ok (.iload_n 2, 1) := by decide +kernel
theorem dX6_give_16 : decode cX6_give 16 = .ok (.invokevirtual 59, 3) := by decide +kernel
theorem dX6_give_19 : decode cX6_give 19 = .ok (.ifCond .ne 9, 3) := by decide +kernel
theorem dX6_give_22 : decode cX6_give 22 = .ok (.aload_n 0, 1) := by decide +kernel
theorem dX6_give_23 : decode cX6_give 23 = .ok (.iconst (-1), 1) := by decide +kernel
theorem dX6_give_24 : decode cX6_give 24 = .ok (.invokevirtual 38, 3) := by decide +kernel
theorem dX6_give_27 : decode cX6_give 27 = .ok (.ireturn, 1) := by decide +kernel
theorem dX6_give_28 : decode cX6_give 28 = .ok (.aload_n 0, 1) := by decide +kernel
theorem dX6_give_29 : decode cX6_give 29 = .ok (.getfield 10, 3) := by decide +kernel
theorem dX6_give_32 : decode cX6_give 32 = .ok (.getfield 45, 3) := by decide +kernel
theorem dX6_give_35 : decode cX6_give 35 = .ok (.iload_n 2, 1) := by decide +kernel
theorem dX6_give_36 : decode cX6_give 36 = .ok (.aaload, 1) := by decide +kernel
theorem dX6_give_37 : decode cX6_give 37 = .ok (.getfield 66, 3) := by decide +kernel
theorem dX6_give_40 : decode cX6_give 40 = .ok (.ifCond .eq 10, 3) := by decide +kernel
theorem dX6_give_43 : decode cX6_give 43 = .ok (.aload_n 0, 1) := by decide +kernel
theorem dX6_give_44 : decode cX6_give 44 = .ok (.bipush (-4), 2) := by decide +kernel
theorem dX6_give_46 : decode cX6_give 46 = .ok (.invokevirtual 38, 3) := by decide +kernel
theorem dX6_give_49 : decode cX6_give 49 = .ok (.ireturn, 1) := by decide +kernel
theorem dX6_give_50 : decode cX6_give 50 = .ok (.aload_n 0, 1) := by decide +kernel
theorem dX6_give_51 : decode cX6_give 51 = .ok (.getfield 10, 3) := by decide +kernel
theorem dX6_give_54 : decode cX6_give 54 = .ok (.getfield 120, 3) := by decide +kernel
theorem dX6_give_57 : decode cX6_give 57 = .ok (.iload_n 1, 1) := by decide +kernel
theorem dX6_give_58 : decode cX6_give 58 = .ok (.aaload, 1) := by decide +kernel
theorem dX6_give_59 : decode cX6_give 59 = .ok (.getfield 135, 3) := by decide +kernel
theorem dX6_give_62 : decode cX6_give 62 = .ok (.iconst 4, 1) := by decide +kernel
theorem dX6_give_63 : decode cX6_give 63 = .ok (.if_icmp .eq 10, 3) := by decide +kernel
theorem dX6_give_66 : decode cX6_give 66 = .ok (.aload_n 0, 1) := by decide +kernel
theorem dX6_give_67 : decode cX6_give 67 = .ok (.bipush (-2), 2) := by decide +kernel
theorem dX6_give_69 : decode cX6_give 69 = .ok (.invokevirtual 38, 3) := by decide +kernel
theorem dX6_give_72 : decode cX6_give 72 = .ok (.ireturn, 1) := by decide +kernel
theorem dX6_give_73 : decode cX6_give 73 = .ok (.aload_n 0, 1) := by decide +kernel
theorem dX6_give_74 : decode cX6_give 74 = .ok (.getfield 10, 3) := by decide +kernel
theorem dX6_give_77 : decode cX6_give 77 = .ok (.iload_n 1, 1) := by decide +kernel
theorem dX6_give_78 : decode cX6_give 78 = .ok (.iload_n 2, 1) := by decide +kernel
theorem dX6_give_79 : decode cX6_give 79 = .ok (.iload_n 3, 1) := by decide +kernel
theorem dX6_give_80 : decode cX6_give 80 = .ok (.invokevirtual 128, 3) := by decide +kernel
theorem dX6_give_83 : decode cX6_give 83 = .ok (.aload_n 0, 1) := by decide +kernel
theorem dX6_give_84 : decode cX6_give 84 = .ok (.getfield 10, 3) := by decide +kernel
theorem dX6_give_87 : decode cX6_give 87 = .ok (.getfield 45, 3) := by decide +kernel
theorem dX6_give_90 : decode cX6_give 90 = .ok (.iload_n 2, 1) := by decide +kernel
theorem dX6_give_91 : decode cX6_give 91 = .ok (.aaload, 1) := by decide +kernel
theorem dX6_give_92 : decode cX6_give 92 = .ok (.getfield 141, 3) := by decide +kernel
theorem dX6_give_95 : decode cX6_give 95 = .ok (.ireturn, 1) := by decide +kernel
theorem dX6_where_0 : decode cX6_where 0 = .ok (.aload_n 0, 1) := by decide +kernel
theorem dX6_where_1 : decode cX6_where 1 = .ok (.getfield 10, 3) := by decide +kernel
theorem dX6_where_4 : decode cX6_where 4 = .ok (.iload_n 1, 1) := by decide +kernel
theorem dX6_where_5 : decode cX6_where 5 = .ok (.invokevirtual 132, 3) := by decide +kernel
theorem dX6_where_8 : decode cX6_where 8 = .ok (.ifCond .eq 18, 3) := by decide +kernel
theorem dX6_where_11 : decode cX6_where 11 = .ok (.aload_n 0, 1) := by decide +kernel
theorem dX6_where_12 : decode cX6_where 12 = .ok (.getfield 10, 3) := by decide +kernel
theorem dX6_where_15 : decode cX6_where 15 = .ok (.getfield 120, 3) := by decide +kernel
theorem dX6_where_18 : decode cX6_where 18 = .ok (.iload_n 1, 1) := by decide +kernel
theorem dX6_where_19 : decode cX6_where 19 = .ok (.aaload, 1) := by decide +kernel
theorem dX6_where_20 : decode cX6_where 20 = .ok (.getfield 135, 3) := by decide +kernel
theorem dX6_where_23 : decode cX6_where 23 = .ok (.goto 8, 3) := by decide +kernel
theorem dX6_where_26 : decode cX6_where 26 = .ok (.aload_n 0, 1) := by decide +kernel
theorem dX6_where_27 : decode cX6_where 27 = .ok (.iconst (-1), 1) := by decide +kernel
theorem dX6_where_28 : decode cX6_where 28 = .ok (.invokevirtual 38, 3) := by decide +kernel
theorem dX6_where_31 : decode cX6_where 31 = .ok (.ireturn, 1) := by decide +kernel
theorem dX6_place_0 : decode cX6_place 0 = .ok (.aload_n 0, 1) := by decide +kernel
theorem dX6_place_1 : decode cX6_place 1 = .ok (.getfield 10, 3) := by decide +kernel
theorem dX6_place_4 : decode cX6_place 4 = .ok (.iload_n 1, 1) := by decide +kernel
theorem dX6_place_5 : decode cX6_place 5 = .ok (.invokevirtual 132, 3) := by decide +kernel
theorem dX6_place_8 : decode cX6_place 8 = .ok (.ifCond .eq 18, 3) := by decide +kernel
theorem dX6_place_11 : decode cX6_place 11 = .ok (.aload_n 0, 1) := by decide +kernel
theorem dX6_place_12 : decode cX6_place 12 = .ok (.getfield 10, 3) := by decide +kernel
theorem dX6_place_15 : decode cX6_place 15 = .ok (.getfield 120, 3) := by decide +kernel
theorem dX6_place_18 : decode cX6_place 18 = .ok (.iload_n 1, 1) := by decide +kernel
theorem dX6_place_19 : decode cX6_place 19 = .ok (.aaload, 1) := by decide +kernel
theorem dX6_place_20 : decode cX6_place 20 = .ok (.getfield 144, 3) := by decide +kernel
theorem dX6_place_23 : decode cX6_place 23 = .ok (.goto 8, 3) := by decide +kernel
theorem dX6_place_26 : decode cX6_place 26 = .ok (.aload_n 0, 1) := by decide +kernel
theorem dX6_place_27 : decode cX6_place 27 = .ok (.iconst (-1), 1) := by decide +kernel
theorem dX6_place_28 : decode cX6_place 28 = .ok (.invokevirtual 38, 3) := by decide +kernel
theorem dX6_place_31 : decode cX6_place 31 = .ok (.ireturn, 1) := by decide +kernel
theorem dX6_detail_0 : decode cX6_detail 0 = .ok (.aload_n 0, 1) := by decide +kernel
theorem dX6_detail_1 : decode cX6_detail 1 = .ok (.getfield 10, 3) := by decide +kernel
theorem dX6_detail_4 : decode cX6_detail 4 = .ok (.iload_n 1, 1) := by decide +kernel
theorem dX6_detail_5 : decode cX6_detail 5 = .ok (.invokevirtual 132, 3) := by decide +kernel
theorem dX6_detail_8 : decode cX6_detail 8 = .ok (.ifCond .ne 9, 3) := by decide +kernel
theorem dX6_detail_11 : decode cX6_detail 11 = .ok (.aload_n 0, 1) := by decide +kernel
theorem dX6_detail_12 : decode cX6_detail 12 = .ok (.iconst (-1), 1) := by decide +kernel
theorem dX6_detail_13 : decode cX6_detail 13 = .ok (.invokevirtual 38, 3) := by decide +kernel
theorem dX6_detail_16 : decode cX6_detail 16 = .ok (.ireturn, 1) := by decide +kernel
theorem dX6_detail_17 : decode cX6_detail 17 = .ok (.aload_n 0, 1) := by decide +kernel
theorem dX6_detail_18 : decode cX6_detail 18 = .ok (.getfield 10, 3) := by decide +kernel
theorem dX6_detail_21 : decode cX6_detail 21 = .ok (.getfield 120, 3) := by decide +kernel
theorem dX6_detail_24 : decode cX6_detail 24 = .ok (.iload_n 1, 1) := by decide +kernel
theorem dX6_detail_25 : decode cX6_detail 25 = .ok (.aaload, 1) := by decide +kernel
theorem dX6_detail_26 : decode cX6_detail 26 = .ok (.astore_n 2, 1) := by decide +kernel
theorem dX6_detail_27 : decode cX6_detail 27 = .ok (.aload_n 2, 1) := by decide +kernel
theorem dX6_detail_28 : decode cX6_detail 28 = .ok (.getfield 135, 3) := by decide +kernel
theorem dX6_detail_31 : decode cX6_detail 31 = .ok (.iconst 4, 1) := by decide +kernel
theorem dX6_detail_32 : decode cX6_detail 32 = .ok (.if_icmp .ne 10, 3) := by decide +kernel
theorem dX6_detail_35 : decode cX6_detail 35 = .ok (.aload_n 0, 1) := by decide +kernel
theorem dX6_detail_36 : decode cX6_detail 36 = .ok (.bipush (-2), 2) := by decide +kernel
theorem dX6_detail_38 : decode cX6_detail 38 = .ok (.invokevirtual 38, 3) := by decide +kernel
theorem dX6_detail_41 : decode cX6_detail 41 = .ok (.ireturn, 1) := by decide +kernel
theorem dX6_detail_42 : decode cX6_detail 42 = .ok (.aload_n 2, 1) := by decide +kernel
theorem dX6_detail_43 : decode cX6_detail 43 = .ok (.getfield 135, 3) := by decide +kernel
theorem dX6_detail_46 : decode cX6_detail 46 = .ok (.iconst 1, 1) := by decide +kernel
theorem dX6_detail_47 : decode cX6_detail 47 = .ok (.if_icmp .ne 34, 3) := by decide +kernel
theorem dX6_detail_50 : decode cX6_detail 50 = .ok (.aload_n 0, 1) := by decide +kernel
theorem dX6_detail_51 : decode cX6_detail 51 = .ok (.getfield 10, 3) := by decide +kernel
theorem dX6_detail_54 : decode cX6_detail 54 = .ok (.aload_n 2, 1) := by decide +kernel
theorem dX6_detail_55 : decode cX6_detail 55 = .ok (.getfield 144, 3) := by decide +kernel
theorem dX6_detail_58 : decode cX6_detail 58 = .ok (.invokevirtual 85, 3) := by decide +kernel
theorem dX6_detail_61 : decode cX6_detail 61 = .ok (.ifCond .eq 20, 3) := by decide +kernel
theorem dX6_detail_64 : decode cX6_detail 64 = .ok (.aload_n 0, 1) := by decide +kernel
theorem dX6_detail_65 : decode cX6_detail 65 = .ok (.getfield 10, 3) := by decide +kernel
theorem dX6_detail_68 : decode cX6_detail 68 = .ok (.getfield 72, 3) := by decide +kernel
theorem dX6_detail_71 : decode cX6_detail 71 = .ok (.aload_n 2, 1) := by decide +kernel
theorem dX6_detail_72 : decode cX6_detail 72 = .ok (.getfield 144, 3) := by decide +kernel
theorem dX6_detail_75 : decode cX6_detail 75 = .ok (.aaload, 1) := by decide +kernel
theorem dX6_detail_76 : decode cX6_detail 76 = .ok (.iload_n 1, 1) := by decide +kernel
theorem dX6_detail_77 : decode cX6_detail 77 = .ok (.invokevirtual 147, 3) := by decide +kernel
theorem dX6_detail_80 : decode cX6_detail 80 = .ok (.ireturn, 1) := by decide +kernel
theorem dX6_detail_81 : decode cX6_detail 81 = .ok (.aload_n 2, 1) := by decide +kernel
theorem dX6_detail_82 : decode cX6_detail 82 = .ok (.getfield 135, 3) := by decide +kernel
theorem dX6_detail_85 : decode cX6_detail 85 = .ok (.ifCond .ne 34, 3) := by decide +kernel
theorem dX6_detail_88 : decode cX6_detail 88 = .ok (.aload_n 0, 1) := by decide +kernel
theorem dX6_detail_89 : decode cX6_detail 89 = .ok (.getfield 10, 3) := by decide +kernel
theorem dX6_detail_92 : decode cX6_detail 92 = .ok (.aload_n 2, 1) := by decide +kernel
theorem dX6_detail_93 : decode cX6_detail 93 = .ok (.getfield 144, 3) := by decide +kernel
theorem dX6_detail_96 : decode cX6_detail 96 = .ok (.invokevirtual 59, 3) := by decide +kernel
theorem dX6_detail_99 : decode cX6_detail 99 = .ok (.ifCond .eq 20, 3) := by decide +kernel
theorem dX6_detail_102 : decode cX6_detail 102 = .ok (.aload_n 0, 1) := by decide +kernel
theorem dX6_detail_103 : decode cX6_detail 103 = .ok (.getfield 10, 3) := by decide +kernel
theorem dX6_detail_106 : decode cX6_detail 106 = .ok (.getfield 45, 3) := by decide +kernel
theorem dX6_detail_109 : decode cX6_detail 109 = .ok (.aload_n 2, 1) := by decide +kernel
theorem dX6_detail_110 : decode cX6_detail 110 = .ok (.getfield 144, 3) := by decide +kernel
theorem dX6_detail_113 : decode cX6_detail 113 = .ok (.aaload, 1) := by decide +kernel
theorem dX6_detail_114 : decode cX6_detail 114 = .ok (.iload_n 1, 1) := by decide +kernel
theorem dX6_detail_115 : decode cX6_detail 115 = .ok (.invokevirtual 150, 3) := by decide +kernel
theorem dX6_detail_118 : decode cX6_detail 118 = .ok (.ireturn, 1) := by decide +kernel
theorem dX6_detail_119 : decode cX6_detail 119 = .ok (.aload_n 2, 1) := by decide +kernel
theorem dX6_detail_120 : decode cX6_detail 120 = .ok (.getfield 153, 3) := by decide +kernel
theorem dX6_detail_123 : decode cX6_detail 123 = .ok (.ireturn, 1) := by decide +kernel
theorem dX6_steps_0 : decode cX6_steps 0 = .ok (.aload_n 0, 1) := by decide +kernel
theorem dX6_steps_1 : decode cX6_steps 1 = .ok (.getfield 10, 3) := by decide +kernel
theorem dX6_steps_4 : decode cX6_steps 4 = .ok (.iload_n 1, 1) := by decide +kernel
theorem dX6_steps_5 : decode cX6_steps 5 = .ok (.invokevirtual 132, 3) := by decide +kernel
theorem dX6_steps_8 : decode cX6_steps 8 = .ok (.ifCond .eq 18, 3) := by decide +kernel
theorem dX6_steps_11 : decode cX6_steps 11 = .ok (.aload_n 0, 1) := by decide +kernel
theorem dX6_steps_12 : decode cX6_steps 12 = .ok (.getfield 10, 3) := by decide +kernel
theorem dX6_steps_15 : decode cX6_steps 15 = .ok (.getfield 120, 3) := by decide +kernel
theorem dX6_steps_18 : decode cX6_steps 18 = .ok (.iload_n 1, 1) := by decide +kernel
theorem dX6_steps_19 : decode cX6_steps 19 = .ok (.aaload, 1) := by decide +kernel
theorem dX6_steps_20 : decode cX6_steps 20 = .ok (.getfield 156, 3) := by decide +kernel
theorem dX6_steps_23 : decode cX6_steps 23 = .ok (.goto 8, 3) := by decide +kernel
theorem dX6_steps_26 : decode cX6_steps 26 = .ok (.aload_n 0, 1) := by decide +kernel
theorem dX6_steps_27 : decode cX6_steps 27 = .ok (.iconst (-1), 1) := by decide +kernel
theorem dX6_steps_28 : decode cX6_steps 28 = .ok (.invokevirtual 38, 3) := by decide +kernel
theorem dX6_steps_31 : decode cX6_steps 31 = .ok (.ireturn, 1) := by decide +kernel
theorem dX6_step_0 : decode cX6_step 0 = .ok (.aload_n 0, 1) := by decide +kernel
theorem dX6_step_1 : decode cX6_step 1 = .ok (.getfield 10, 3) := by decide +kernel
theorem dX6_step_4 : decode cX6_step 4 = .ok (.iload_n 1, 1) := by decide +kernel
theorem dX6_step_5 : decode cX6_step 5 = .ok (.invokevirtual 132, 3) := by decide +kernel
theorem dX6_step_8 : decode cX6_step 8 = .ok (.ifCond .eq 19, 3) := by decide +kernel
theorem dX6_step_11 : decode cX6_step 11 = .ok (.aload_n 0, 1) := by decide +kernel
theorem dX6_step_12 : decode cX6_step 12 = .ok (.getfield 10, 3) := by decide +kernel
theorem dX6_step_15 : decode cX6_step 15 = .ok (.getfield 120, 3) := by decide +kernel
theorem dX6_step_18 : decode cX6_step 18 = .ok (.iload_n 1, 1) := by decide +kernel
theorem dX6_step_19 : decode cX6_step 19 = .ok (.aaload, 1) := by decide +kernel
theorem dX6_step_20 : decode cX6_step 20 = .ok (.iload_n 2, 1) := by decide +kernel
theorem dX6_step_21 : decode cX6_step 21 = .ok (.invokevirtual 159, 3) := by decide +kernel
theorem dX6_step_24 : decode cX6_step 24 = .ok (.ifCond .ne 9, 3) := by decide +kernel
theorem dX6_step_27 : decode cX6_step 27 = .ok (.aload_n 0, 1) := by decide +kernel
theorem dX6_step_28 : decode cX6_step 28 = .ok (.iconst (-1), 1) := by decide +kernel
theorem dX6_step_29 : decode cX6_step 29 = .ok (.invokevirtual 38, 3) := by decide +kernel
theorem dX6_step_32 : decode cX6_step 32 = .ok (.ireturn, 1) := by decide +kernel
theorem dX6_step_33 : decode cX6_step 33 = .ok (.iload_n 3, 1) := by decide +kernel
theorem dX6_step_34 : decode cX6_step 34 = .ok (.ifCond .eq 19, 3) := by decide +kernel
theorem dX6_step_37 : decode cX6_step 37 = .ok (.aload_n 0, 1) := by decide +kernel
theorem dX6_step_38 : decode cX6_step 38 = .ok (.getfield 10, 3) := by decide +kernel
theorem dX6_step_41 : decode cX6_step 41 = .ok (.getfield 120, 3) := by decide +kernel
theorem dX6_step_44 : decode cX6_step 44 = .ok (.iload_n 1, 1) := by decide +kernel
theorem dX6_step_45 : decode cX6_step 45 = .ok (.aaload, 1) := by decide +kernel
theorem dX6_step_46 : decode cX6_step 46 = .ok (.iload_n 2, 1) := by decide +kernel
theorem dX6_step_47 : decode cX6_step 47 = .ok (.invokevirtual 162, 3) := by decide +kernel
theorem dX6_step_50 : decode cX6_step 50 = .ok (.goto 16, 3) := by decide +kernel
theorem dX6_step_53 : decode cX6_step 53 = .ok (.aload_n 0, 1) := by decide +kernel
theorem dX6_step_54 : decode cX6_step 54 = .ok (.getfield 10, 3) := by decide +kernel
theorem dX6_step_57 : decode cX6_step 57 = .ok (.getfield 120, 3) := by decide +kernel
theorem dX6_step_60 : decode cX6_step 60 = .ok (.iload_n 1, 1) := by decide +kernel
theorem dX6_step_61 : decode cX6_step 61 = .ok (.aaload, 1) := by decide +kernel
theorem dX6_step_62 : decode cX6_step 62 = .ok (.iload_n 2, 1) := by decide +kernel
theorem dX6_step_63 : decode cX6_step 63 = .ok (.invokevirtual 165, 3) := by decide +kernel
theorem dX6_step_66 : decode cX6_step 66 = .ok (.ireturn, 1) := by decide +kernel
theorem dX6_tick_0 : decode cX6_tick 0 = .ok (.iload_n 1, 1) := by decide +kernel
theorem dX6_tick_1 : decode cX6_tick 1 = .ok (.iconst 1, 1) := by decide +kernel
theorem dX6_tick_2 : decode cX6_tick 2 = .ok (.bipush 100, 2) := by decide +kernel
theorem dX6_tick_4 : decode cX6_tick 4 = .ok (.invokestatic 62, 3) := by decide +kernel
theorem dX6_tick_7 : decode cX6_tick 7 = .ok (.ifCond .ne 9, 3) := by decide +kernel
theorem dX6_tick_10 : decode cX6_tick 10 = .ok (.aload_n 0, 1) := by decide +kernel
theorem dX6_tick_11 : decode cX6_tick 11 = .ok (.iconst (-1), 1) := by decide +kernel
theorem dX6_tick_12 : decode cX6_tick 12 = .ok (.invokevirtual 38, 3) := by decide +kernel
theorem dX6_tick_15 : decode cX6_tick 15 = .ok (.ireturn, 1) := by decide +kernel
theorem dX6_tick_16 : decode cX6_tick 16 = .ok (.iconst 0, 1) := by decide +kernel
theorem dX6_tick_17 : decode cX6_tick 17 = .ok (.istore_n 2, 1) := by decide +kernel
theorem dX6_tick_18 : decode cX6_tick 18 = .ok (.iload_n 2, 1) := by decide +kernel
theorem dX6_tick_19 : decode cX6_tick 19 = .ok (.iload_n 1, 1) := by decide +kernel
theorem dX6_tick_20 : decode cX6_tick 20 = .ok (.if_icmp .ge 13, 3) := by decide +kernel
theorem dX6_tick_23 : decode cX6_tick 23 = .ok (.aload_n 0, 1) := by decide +kernel
theorem dX6_tick_24 : decode cX6_tick 24 = .ok (.invokevirtual 168, 3) := by decide +kernel
theorem dX6_tick_27 : decode cX6_tick 27 = .ok (.iinc 2 1, 3) := by decide +kernel
theorem dX6_tick_30 : decode cX6_tick 30 = .ok (.goto (-12), 3) := by decide +kernel
theorem dX6_tick_33 : decode cX6_tick 33 = .ok (.aload_n 0, 1) := by decide +kernel
theorem dX6_tick_34 : decode cX6_tick 34 = .ok (.getfield 10, 3) := by decide +kernel
theorem dX6_tick_37 : decode cX6_tick 37 = .ok (.getfield 171, 3) := by decide +kernel
theorem dX6_tick_40 : decode cX6_tick 40 = .ok (.ireturn, 1) := by decide +kernel
theorem dX6_cell_0 : decode cX6_cell 0 = .ok (.aload_n 0, 1) := by decide +kernel
theorem dX6_cell_1 : decode cX6_cell 1 = .ok (.getfield 10, 3) := by decide +kernel
theorem dX6_cell_4 : decode cX6_cell 4 = .ok (.iload_n 1, 1) := by decide +kernel
theorem dX6_cell_5 : decode cX6_cell 5 = .ok (.invokevirtual 85, 3) := by decide +kernel
theorem dX6_cell_8 : decode cX6_cell 8 = .ok (.ifCond .eq 25, 3) := by decide +kernel
theorem dX6_cell_11 : decode cX6_cell 11 = .ok (.iload_n 2, 1) := by decide +kernel
theorem dX6_cell_12 : decode cX6_cell 12 = .ok (.iconst 0, 1) := by decide +kernel
theorem dX6_cell_13 : decode cX6_cell 13 = .ok (.aload_n 0, 1) := by decide +kernel
theorem dX6_cell_14 : decode cX6_cell 14 = .ok (.getfield 10, 3) := by decide +kernel
theorem dX6_cell_17 : decode cX6_cell 17 = .ok (.getfield 72, 3) := by decide +kernel
theorem dX6_cell_20 : decode cX6_cell 20 = .ok (.iload_n 1, 1) := by decide +kernel
theorem dX6_cell_21 : decode cX6_cell 21 = .ok (.aaload, 1) := by decide +kernel
theorem dX6_cell_22 : decode cX6_cell 22 = .ok (.getfield 174, 3) := by decide +kernel
theorem dX6_cell_25 : decode cX6_cell 25 = .ok (.iconst 1, 1) := by decide +kernel
theorem dX6_cell_26 : decode cX6_cell 26 = .ok (.isub, 1) := by decide +kernel
theorem dX6_cell_27 : decode cX6_cell 27 = .ok (.invokestatic 62, 3) := by decide +kernel
theorem dX6_cell_30 : decode cX6_cell 30 = .ok (.ifCond .ne 9, 3) := by decide +kernel
theorem dX6_cell_33 : decode cX6_cell 33 = .ok (.aload_n 0, 1) := by decide +kernel
theorem dX6_cell_34 : decode cX6_cell 34 = .ok (.iconst (-1), 1) := by decide +kernel
theorem dX6_cell_35 : decode cX6_cell 35 = .ok (.invokevirtual 38, 3) := by decide +kernel
theorem dX6_cell_38 : decode cX6_cell 38 = .ok (.ireturn, 1) := by decide +kernel
theorem dX6_cell_39 : decode cX6_cell 39 = .ok (.aload_n 0, 1) := by decide +kernel
theorem dX6_cell_40 : decode cX6_cell 40 = .ok (.getfield 10, 3) := by decide +kernel
theorem dX6_cell_43 : decode cX6_cell 43 = .ok (.getfield 72, 3) := by decide +kernel
theorem dX6_cell_46 : decode cX6_cell 46 = .ok (.iload_n 1, 1) := by decide +kernel
theorem dX6_cell_47 : decode cX6_cell 47 = .ok (.aaload, 1) := by decide +kernel
theorem dX6_cell_48 : decode cX6_cell 48 = .ok (.getfield 177, 3) := by decide +kernel
theorem dX6_cell_51 : decode cX6_cell 51 = .ok (.iload_n 2, 1) := by decide +kernel
theorem dX6_cell_52 : decode cX6_cell 52 = .ok (.iaload, 1) := by decide +kernel
theorem dX6_cell_53 : decode cX6_cell 53 = .ok (.istore_n 3, 1) := by decide +kernel
theorem dX6_cell_54 : decode cX6_cell 54 = .ok (.iload_n 3, 1) := by decide +kernel
theorem dX6_cell_55 : decode cX6_cell 55 = .ok (.iconst (-1), 1) := by decide +kernel
theorem dX6_cell_56 : decode cX6_cell 56 = .ok (.if_icmp .ne 12, 3) := by decide +kernel
theorem dX6_cell_59 : decode cX6_cell 59 = .ok (.aload_n 0, 1) := by decide +kernel
theorem dX6_cell_60 : decode cX6_cell 60 = .ok (.bipush (-2), 2) := by decide +kernel
theorem dX6_cell_62 : decode cX6_cell 62 = .ok (.invokevirtual 38, 3) := by decide +kernel
theorem dX6_cell_65 : decode cX6_cell 65 = .ok (.goto 4, 3) := by decide +kernel
theorem dX6_cell_68 : decode cX6_cell 68 = .ok (.iload_n 3, 1) := by decide +kernel
theorem dX6_cell_69 : decode cX6_cell 69 = .ok (.ireturn, 1) := by decide +kernel
theorem dX6_holds_0 : decode cX6_holds 0 = .ok (.aload_n 0, 1) := by decide +kernel
theorem dX6_holds_1 : decode cX6_holds 1 = .ok (.getfield 10, 3) := by decide +kernel
theorem dX6_holds_4 : decode cX6_holds 4 = .ok (.iload_n 1, 1) := by decide +kernel
theorem dX6_holds_5 : decode cX6_holds 5 = .ok (.invokevirtual 59, 3) := by decide +kernel
theorem dX6_holds_8 : decode cX6_holds 8 = .ok (.ifCond .ne 9, 3) := by decide +kernel
theorem dX6_holds_11 : decode cX6_holds 11 = .ok (.aload_n 0, 1) := by decide +kernel
theorem dX6_holds_12 : decode cX6_holds 12 = .ok (.iconst (-1), 1) := by decide +kernel
theorem dX6_holds_13 : decode cX6_holds 13 = .ok (.invokevirtual 38, 3) := by decide +kernel
theorem dX6_holds_16 : decode cX6_holds 16 = .ok (.ireturn, 1) := by decide +kernel
theorem dX6_holds_17 : decode cX6_holds 17 = .ok (.aload_n 0, 1) := by decide +kernel
theorem dX6_holds_18 : decode cX6_holds 18 = .ok (.getfield 10, 3) := by decide +kernel
theorem dX6_holds_21 : decode cX6_holds 21 = .ok (.getfield 45, 3) := by decide +kernel
theorem dX6_holds_24 : decode cX6_holds 24 = .ok (.iload_n 1, 1) := by decide +kernel
theorem dX6_holds_25 : decode cX6_holds 25 = .ok (.aaload, 1) := by decide +kernel
theorem dX6_holds_26 : decode cX6_holds 26 = .ok (.astore_n 2, 1) := by decide +kernel
theorem dX6_holds_27 : decode cX6_holds 27 = .ok (.aload_n 2, 1) := by decide +kernel
theorem dX6_holds_28 : decode cX6_holds 28 = .ok (.getfield 66, 3) := by decide +kernel
theorem dX6_holds_31 : decode cX6_holds 31 = .ok (.iconst 1, 1) := by decide +kernel
theorem dX6_holds_32 : decode cX6_holds 32 = .ok (.if_icmp .eq 26, 3) := by decide +kernel
theorem dX6_holds_35 : decode cX6_holds 35 = .ok (.aload_n 2, 1) := by decide +kernel
theorem dX6_holds_36 : decode cX6_holds 36 = .ok (.getfield 66, 3) := by decide +kernel
theorem dX6_holds_39 : decode cX6_holds 39 = .ok (.iconst 2, 1) := by decide +kernel
theorem dX6_holds_40 : decode cX6_holds 40 = .ok (.if_icmp .eq 18, 3) := by decide +kernel
theorem dX6_holds_43 : decode cX6_holds 43 = .ok (.aload_n 2, 1) := by decide +kernel
theorem dX6_holds_44 : decode cX6_holds 44 = .ok (.getfield 66, 3) := by decide +kernel
theorem dX6_holds_47 : decode cX6_holds 47 = .ok (.iconst 3, 1) := by decide +kernel
theorem dX6_holds_48 : decode cX6_holds 48 = .ok (.if_icmp .eq 10, 3) := by decide +kernel
theorem dX6_holds_51 : decode cX6_holds 51 = .ok (.aload_n 0, 1) := by decide +kernel
theorem dX6_holds_52 : decode cX6_holds 52 = .ok (.bipush (-4), 2) := by decide +kernel
theorem dX6_holds_54 : decode cX6_holds 54 = .ok (.invokevirtual 38, 3) := by decide +kernel
theorem dX6_holds_57 : decode cX6_holds 57 = .ok (.ireturn, 1) := by decide +kernel
theorem dX6_holds_58 : decode cX6_holds 58 = .ok (.aload_n 2, 1) := by decide +kernel
theorem dX6_holds_59 : decode cX6_holds 59 = .ok (.invokevirtual 181, 3) := by decide +kernel
theorem dX6_holds_62 : decode cX6_holds 62 = .ok (.istore_n 3, 1) := by decide +kernel
theorem dX6_holds_63 : decode cX6_holds 63 = .ok (.iload_n 3, 1) := by decide +kernel
theorem dX6_holds_64 : decode cX6_holds 64 = .ok (.iconst (-1), 1) := by decide +kernel
theorem dX6_holds_65 : decode cX6_holds 65 = .ok (.if_icmp .ne 12, 3) := by decide +kernel
theorem dX6_holds_68 : decode cX6_holds 68 = .ok (.aload_n 0, 1) := by decide +kernel
theorem dX6_holds_69 : decode cX6_holds 69 = .ok (.bipush (-2), 2) := by decide +kernel
theorem dX6_holds_71 : decode cX6_holds 71 = .ok (.invokevirtual 38, 3) := by decide +kernel
theorem dX6_holds_74 : decode cX6_holds 74 = .ok (.goto 4, 3) := by decide +kernel
theorem dX6_holds_77 : decode cX6_holds 77 = .ok (.iload_n 3, 1) := by decide +kernel
theorem dX6_holds_78 : decode cX6_holds 78 = .ok (.ireturn, 1) := by decide +kernel
theorem dX6_list_0 : decode cX6_list 0 = .ok (.aload_n 0, 1) := by decide +kernel
theorem dX6_list_1 : decode cX6_list 1 = .ok (.getfield 10, 3) := by decide +kernel
theorem dX6_list_4 : decode cX6_list 4 = .ok (.iload_n 1, 1) := by decide +kernel
theorem dX6_list_5 : decode cX6_list 5 = .ok (.invokevirtual 59, 3) := by decide +kernel
theorem dX6_list_8 : decode cX6_list 8 = .ok (.ifCond .ne 9, 3) := by decide +kernel
theorem dX6_list_11 : decode cX6_list 11 = .ok (.aload_n 0, 1) := by decide +kernel
theorem dX6_list_12 : decode cX6_list 12 = .ok (.iconst (-1), 1) := by decide +kernel
theorem dX6_list_13 : decode cX6_list 13 = .ok (.invokevirtual 38, 3) := by decide +kernel
theorem dX6_list_16 : decode cX6_list 16 = .ok (.ireturn, 1) := by decide +kernel
theorem dX6_list_17 : decode cX6_list 17 = .ok (.aload_n 0, 1) := by decide +kernel
theorem dX6_list_18 : decode cX6_list 18 = .ok (.getfield 10, 3) := by decide +kernel
theorem dX6_list_21 : decode cX6_list 21 = .ok (.getfield 45, 3) := by decide +kernel
theorem dX6_list_24 : decode cX6_list 24 = .ok (.iload_n 1, 1) := by decide +kernel
theorem dX6_list_25 : decode cX6_list 25 = .ok (.aaload, 1) := by decide +kernel
theorem dX6_list_26 : decode cX6_list 26 = .ok (.astore_n 3, 1) := by decide +kernel
theorem dX6_list_27 : decode cX6_list 27 = .ok (.aload_n 3, 1) := by decide +kernel
theorem dX6_list_28 : decode cX6_list 28 = .ok (.getfield 66, 3) := by decide +kernel
theorem dX6_list_31 : decode cX6_list 31 = .ok (.ifCond .eq 18, 3) := by decide +kernel
theorem dX6_list_34 : decode cX6_list 34 = .ok (.aload_n 3, 1) := by decide +kernel
theorem dX6_list_35 : decode cX6_list 35 = .ok (.getfield 66, 3) := by decide +kernel
theorem dX6_list_38 : decode cX6_list 38 = .ok (.iconst 4, 1) := by decide +kernel
theorem dX6_list_39 : decode cX6_list 39 = .ok (.if_icmp .eq 10, 3) := by decide +kernel
theorem dX6_list_42 : decode cX6_list 42 = .ok (.aload_n 0, 1) := by decide +kernel
theorem dX6_list_43 : decode cX6_list 43 = .ok (.bipush (-4), 2) := by decide +kernel
theorem dX6_list_45 : decode cX6_list 45 = .ok (.invokevirtual 38, 3) := by decide +kernel
theorem dX6_list_48 : decode cX6_list 48 = .ok (.ireturn, 1) := by decide +kernel
theorem dX6_list_49 : decode cX6_list 49 = .ok (.iload_n 2, 1) := by decide +kernel
theorem dX6_list_50 : decode cX6_list 50 = .ok (.iconst (-1), 1) := by decide +kernel
theorem dX6_list_51 : decode cX6_list 51 = .ok (.if_icmp .ne 8, 3) := by decide +kernel
theorem dX6_list_54 : decode cX6_list 54 = .ok (.aload_n 3, 1) := by decide +kernel
theorem dX6_list_55 : decode cX6_list 55 = .ok (.getfield 141, 3) := by decide +kernel
theorem dX6_list_58 : decode cX6_list 58 = .ok (.ireturn, 1) := by decide +kernel
theorem dX6_list_59 : decode cX6_list 59 = .ok (.iload_n 2, 1) := by decide +kernel
theorem dX6_list_60 : decode cX6_list 60 = .ok (.iconst 0, 1) := by decide +kernel
theorem dX6_list_61 : decode cX6_list 61 = .ok (.aload_n 3, 1) := by decide +kernel
theorem dX6_list_62 : decode cX6_list 62 = .ok (.getfield 141, 3) := by decide +kernel
theorem dX6_list_65 : decode cX6_list 65 = .ok (.iconst 1, 1) := by decide +kernel
theorem dX6_list_66 : decode cX6_list 66 = .ok (.isub, 1) := by decide +kernel
theorem dX6_list_67 : decode cX6_list 67 = .ok (.invokestatic 62, 3) := by decide +kernel
theorem dX6_list_70 : decode cX6_list 70 = .ok (.ifCond .eq 12, 3) := by decide +kernel
theorem dX6_list_73 : decode cX6_list 73 = .ok (.aload_n 3, 1) := by decide +kernel
theorem dX6_list_74 : decode cX6_list 74 = .ok (.getfield 185, 3) := by decide +kernel
theorem dX6_list_77 : decode cX6_list 77 = .ok (.iload_n 2, 1) := by decide +kernel
theorem dX6_list_78 : decode cX6_list 78 = .ok (.iaload, 1) := by decide +kernel
theorem dX6_list_79 : decode cX6_list 79 = .ok (.goto 9, 3) := by decide +kernel
theorem dX6_list_82 : decode cX6_list 82 = .ok (.aload_n 0, 1) := by decide +kernel
theorem dX6_list_83 : decode cX6_list 83 = .ok (.bipush (-2), 2) := by decide +kernel
theorem dX6_list_85 : decode cX6_list 85 = .ok (.invokevirtual 38, 3) := by decide +kernel
theorem dX6_list_88 : decode cX6_list 88 = .ok (.ireturn, 1) := by decide +kernel
theorem dX6_far_0 : decode cX6_far 0 = .ok (.aload_n 0, 1) := by decide +kernel
theorem dX6_far_1 : decode cX6_far 1 = .ok (.getfield 10, 3) := by decide +kernel
theorem dX6_far_4 : decode cX6_far 4 = .ok (.iload_n 1, 1) := by decide +kernel
theorem dX6_far_5 : decode cX6_far 5 = .ok (.invokevirtual 59, 3) := by decide +kernel
theorem dX6_far_8 : decode cX6_far 8 = .ok (.ifCond .eq 14, 3) := by decide +kernel
theorem dX6_far_11 : decode cX6_far 11 = .ok (.aload_n 0, 1) := by decide +kernel
theorem dX6_far_12 : decode cX6_far 12 = .ok (.getfield 10, 3) := by decide +kernel
theorem dX6_far_15 : decode cX6_far 15 = .ok (.iload_n 2, 1) := by decide +kernel
theorem dX6_far_16 : decode cX6_far 16 = .ok (.invokevirtual 59, 3) := by decide +kernel
theorem dX6_far_19 : decode cX6_far 19 = .ok (.ifCond .ne 9, 3) := by decide +kernel
theorem dX6_far_22 : decode cX6_far 22 = .ok (.aload_n 0, 1) := by decide +kernel
theorem dX6_far_23 : decode cX6_far 23 = .ok (.iconst (-1), 1) := by decide +kernel
theorem dX6_far_24 : decode cX6_far 24 = .ok (.invokevirtual 38, 3) := by decide +kernel
theorem dX6_far_27 : decode cX6_far 27 = .ok (.ireturn, 1) := by decide +kernel
theorem dX6_far_28 : decode cX6_far 28 = .ok (.aload_n 0, 1) := by decide +kernel
theorem dX6_far_29 : decode cX6_far 29 = .ok (.getfield 10, 3) := by decide +kernel
theorem dX6_far_32 : decode cX6_far 32 = .ok (.getfield 45, 3) := by decide +kernel
theorem dX6_far_35 : decode cX6_far 35 = .ok (.iload_n 2, 1) := by decide +kernel
theorem dX6_far_36 : decode cX6_far 36 = .ok (.aaload, 1) := by decide +kernel
theorem dX6_far_37 : decode cX6_far 37 = .ok (.getfield 66, 3) := by decide +kernel
theorem dX6_far_40 : decode cX6_far 40 = .ok (.iconst 5, 1) := by decide +kernel
theorem dX6_far_41 : decode cX6_far 41 = .ok (.if_icmp .eq 10, 3) := by decide +kernel
theorem dX6_far_44 : decode cX6_far 44 = .ok (.aload_n 0, 1) := by decide +kernel
theorem dX6_far_45 : decode cX6_far 45 = .ok (.bipush (-4), 2) := by decide +kernel
theorem dX6_far_47 : decode cX6_far 47 = .ok (.invokevirtual 38, 3) := by decide +kernel
theorem dX6_far_50 : decode cX6_far 50 = .ok (.ireturn, 1) := by decide +kernel
theorem dX6_far_51 : decode cX6_far 51 = .ok (.aload_n 0, 1) := by decide +kernel
theorem dX6_far_52 : decode cX6_far 52 = .ok (.getfield 19, 3) := by decide +kernel
theorem dX6_far_55 : decode cX6_far 55 = .ok (.getfield 188, 3) := by decide +kernel
theorem dX6_far_58 : decode cX6_far 58 = .ok (.iload_n 2, 1) := by decide +kernel
theorem dX6_far_59 : decode cX6_far 59 = .ok (.aaload, 1) := by decide +kernel
theorem dX6_far_60 : decode cX6_far 60 = .ok (.iload_n 1, 1) := by decide +kernel
theorem dX6_far_61 : decode cX6_far 61 = .ok (.iaload, 1) := by decide +kernel
theorem dX6_far_62 : decode cX6_far 62 = .ok (.istore_n 3, 1) := by decide +kernel
theorem dX6_far_63 : decode cX6_far 63 = .ok (.iload_n 3, 1) := by decide +kernel
theorem dX6_far_64 : decode cX6_far 64 = .ok (.iconst (-1), 1) := by decide +kernel
theorem dX6_far_65 : decode cX6_far 65 = .ok (.if_icmp .ne 12, 3) := by decide +kernel
theorem dX6_far_68 : decode cX6_far 68 = .ok (.aload_n 0, 1) := by decide +kernel
theorem dX6_far_69 : decode cX6_far 69 = .ok (.bipush (-2), 2) := by decide +kernel
theorem dX6_far_71 : decode cX6_far 71 = .ok (.invokevirtual 38, 3) := by decide +kernel
theorem dX6_far_74 : decode cX6_far 74 = .ok (.goto 4, 3) := by decide +kernel
theorem dX6_far_77 : decode cX6_far 77 = .ok (.iload_n 3, 1) := by decide +kernel
theorem dX6_far_78 : decode cX6_far 78 = .ok (.ireturn, 1) := by decide +kernel
theorem dX6_route_0 : decode cX6_route 0 = .ok (.aload_n 0, 1) := by decide +kernel
theorem dX6_route_1 : decode cX6_route 1 = .ok (.getfield 10, 3) := by decide +kernel
theorem dX6_route_4 : decode cX6_route 4 = .ok (.iload_n 1, 1) := by decide +kernel
theorem dX6_route_5 : decode cX6_route 5 = .ok (.invokevirtual 59, 3) := by decide +kernel
theorem dX6_route_8 : decode cX6_route 8 = .ok (.ifCond .eq 14, 3) := by decide +kernel
theorem dX6_route_11 : decode cX6_route 11 = .ok (.aload_n 0, 1) := by decide +kernel
theorem dX6_route_12 : decode cX6_route 12 = .ok (.getfield 10, 3) := by decide +kernel
theorem dX6_route_15 : decode cX6_route 15 = .ok (.iload_n 2, 1) := by decide +kernel
theorem dX6_route_16 : decode cX6_route 16 = .ok (.invokevirtual 114, 3) := by decide +kernel
theorem dX6_route_19 : decode cX6_route 19 = .ok (.ifCond .ne 9, 3) := by decide +kernel
theorem dX6_route_22 : decode cX6_route 22 = .ok (.aload_n 0, 1) := by decide +kernel
theorem dX6_route_23 : decode cX6_route 23 = .ok (.iconst (-1), 1) := by decide +kernel
theorem dX6_route_24 : decode cX6_route 24 = .ok (.invokevirtual 38, 3) := by decide +kernel
theorem dX6_route_27 : decode cX6_route 27 = .ok (.ireturn, 1) := by decide +kernel
theorem dX6_route_28 : decode cX6_route 28 = .ok (.aload_n 0, 1) := by decide +kernel
theorem dX6_route_29 : decode cX6_route 29 = .ok (.getfield 10, 3) := by decide +kernel
theorem dX6_route_32 : decode cX6_route 32 = .ok (.getfield 45, 3) := by decide +kernel
theorem dX6_route_35 : decode cX6_route 35 = .ok (.iload_n 1, 1) := by decide +kernel
theorem dX6_route_36 : decode cX6_route 36 = .ok (.aaload, 1) := by decide +kernel
theorem dX6_route_37 : decode cX6_route 37 = .ok (.getfield 66, 3) := by decide +kernel
theorem dX6_route_40 : decode cX6_route 40 = .ok (.iconst 3, 1) := by decide +kernel
theorem dX6_route_41 : decode cX6_route 41 = .ok (.if_icmp .eq 10, 3) := by decide +kernel
theorem dX6_route_44 : decode cX6_route 44 = .ok (.aload_n 0, 1) := by decide +kernel
theorem dX6_route_45 : decode cX6_route 45 = .ok (.bipush (-4), 2) := by decide +kernel
theorem dX6_route_47 : decode cX6_route 47 = .ok (.invokevirtual 38, 3) := by decide +kernel
theorem dX6_route_50 : decode cX6_route 50 = .ok (.ireturn, 1) := by decide +kernel
theorem dX6_route_51 : decode cX6_route 51 = .ok (.aload_n 0, 1) := by decide +kernel
theorem dX6_route_52 : decode cX6_route 52 = .ok (.getfield 19, 3) := by decide +kernel
theorem dX6_route_55 : decode cX6_route 55 = .ok (.aload_n 0, 1) := by decide +kernel
theorem dX6_route_56 : decode cX6_route 56 = .ok (.getfield 10, 3) := by decide +kernel
theorem dX6_route_59 : decode cX6_route 59 = .ok (.iload_n 1, 1) := by decide +kernel
theorem dX6_route_60 : decode cX6_route 60 = .ok (.aload_n 0, 1) := by decide +kernel
theorem dX6_route_61 : decode cX6_route 61 = .ok (.getfield 10, 3) := by decide +kernel
theorem dX6_route_64 : decode cX6_route 64 = .ok (.getfield 103, 3) := by decide +kernel
theorem dX6_route_67 : decode cX6_route 67 = .ok (.iload_n 2, 1) := by decide +kernel
theorem dX6_route_68 : decode cX6_route 68 = .ok (.aaload, 1) := by decide +kernel
theorem dX6_route_69 : decode cX6_route 69 = .ok (.getfield 192, 3) := by decide +kernel
theorem dX6_route_72 : decode cX6_route 72 = .ok (.invokevirtual 195, 3) := by decide +kernel
theorem dX6_route_75 : decode cX6_route 75 = .ok (.istore_n 3, 1) := by decide +kernel
theorem dX6_route_76 : decode cX6_route 76 = .ok (.iload_n 3, 1) := by decide +kernel
theorem dX6_route_77 : decode cX6_route 77 = .ok (.iconst (-1), 1) := by decide +kernel
theorem dX6_route_78 : decode cX6_route 78 = .ok (.if_icmp .ne 12, 3) := by decide +kernel
theorem dX6_route_81 : decode cX6_route 81 = .ok (.aload_n 0, 1) := by decide +kernel
theorem dX6_route_82 : decode cX6_route 82 = .ok (.bipush (-2), 2) := by decide +kernel
theorem dX6_route_84 : decode cX6_route 84 = .ok (.invokevirtual 38, 3) := by decide +kernel
theorem dX6_route_87 : decode cX6_route 87 = .ok (.goto 4, 3) := by decide +kernel
theorem dX6_route_90 : decode cX6_route 90 = .ok (.iload_n 3, 1) := by decide +kernel
theorem dX6_route_91 : decode cX6_route 91 = .ok (.ireturn, 1) := by decide +kernel
theorem dX6_flown_0 : decode cX6_flown 0 = .ok (.aload_n 0, 1) := by decide +kernel
theorem dX6_flown_1 : decode cX6_flown 1 = .ok (.getfield 10, 3) := by decide +kernel
theorem dX6_flown_4 : decode cX6_flown 4 = .ok (.iload_n 1, 1) := by decide +kernel
theorem dX6_flown_5 : decode cX6_flown 5 = .ok (.invokevirtual 114, 3) := by decide +kernel
theorem dX6_flown_8 : decode cX6_flown 8 = .ok (.ifCond .ne 9, 3) := by decide +kernel
theorem dX6_flown_11 : decode cX6_flown 11 = .ok (.aload_n 0, 1) := by decide +kernel
theorem dX6_flown_12 : decode cX6_flown 12 = .ok (.iconst (-1), 1) := by decide +kernel
theorem dX6_flown_13 : decode cX6_flown 13 = .ok (.invokevirtual 38, 3) := by decide +kernel
theorem dX6_flown_16 : decode cX6_flown 16 = .ok (.ireturn, 1) := by decide +kernel
theorem dX6_flown_17 : decode cX6_flown 17 = .ok (.aload_n 0, 1) := by decide +kernel
theorem dX6_flown_18 : decode cX6_flown 18 = .ok (.getfield 10, 3) := by decide +kernel
theorem dX6_flown_21 : decode cX6_flown 21 = .ok (.getfield 103, 3) := by decide +kernel
theorem dX6_flown_24 : decode cX6_flown 24 = .ok (.iload_n 1, 1) := by decide +kernel
theorem dX6_flown_25 : decode cX6_flown 25 = .ok (.aaload, 1) := by decide +kernel
theorem dX6_flown_26 : decode cX6_flown 26 = .ok (.astore_n 3, 1) := by decide +kernel
theorem dX6_flown_27 : decode cX6_flown 27 = .ok (.iload_n 2, 1) := by decide +kernel
theorem dX6_flown_28 : decode cX6_flown 28 = .ok (.tableswitch 100 0 6 #[44, 49, 54, 59, 69, 80, 91], 44) := by decide +kernel
theorem dX6_flown_72 : decode cX6_flown 72 = .ok (.aload_n 3, 1) := by decide +kernel
theorem dX6_flown_73 : decode cX6_flown 73 = .ok (.getfield 192, 3) := by decide +kernel
theorem dX6_flown_76 : decode cX6_flown 76 = .ok (.ireturn, 1) := by decide +kernel
theorem dX6_flown_77 : decode cX6_flown 77 = .ok (.aload_n 3, 1) := by decide +kernel
theorem dX6_flown_78 : decode cX6_flown 78 = .ok (.getfield 199, 3) := by decide +kernel
theorem dX6_flown_81 : decode cX6_flown 81 = .ok (.ireturn, 1) := by decide +kernel
theorem dX6_flown_82 : decode cX6_flown 82 = .ok (.aload_n 3, 1) := by decide +kernel
theorem dX6_flown_83 : decode cX6_flown 83 = .ok (.getfield 202, 3) := by decide +kernel
theorem dX6_flown_86 : decode cX6_flown 86 = .ok (.ireturn, 1) := by decide +kernel
theorem dX6_flown_87 : decode cX6_flown 87 = .ok (.aload_n 0, 1) := by decide +kernel
theorem dX6_flown_88 : decode cX6_flown 88 = .ok (.getfield 10, 3) := by decide +kernel
theorem dX6_flown_91 : decode cX6_flown 91 = .ok (.iload_n 1, 1) := by decide +kernel
theorem dX6_flown_92 : decode cX6_flown 92 = .ok (.iconst 5, 1) := by decide +kernel
theorem dX6_flown_93 : decode cX6_flown 93 = .ok (.invokevirtual 205, 3) := by decide +kernel
theorem dX6_flown_96 : decode cX6_flown 96 = .ok (.ireturn, 1) := by decide +kernel
theorem dX6_flown_97 : decode cX6_flown 97 = .ok (.aload_n 0, 1) := by decide +kernel
theorem dX6_flown_98 : decode cX6_flown 98 = .ok (.getfield 10, 3) := by decide +kernel
theorem dX6_flown_101 : decode cX6_flown 101 = .ok (.iload_n 1, 1) := by decide +kernel
theorem dX6_flown_102 : decode cX6_flown 102 = .ok (.bipush 6, 2) := by decide +kernel
theorem dX6_flown_104 : decode cX6_flown 104 = .ok (.invokevirtual 205, 3) := by decide +kernel
theorem dX6_flown_107 : decode cX6_flown 107 = .ok (.ireturn, 1) := by decide +kernel
theorem dX6_flown_108 : decode cX6_flown 108 = .ok (.aload_n 0, 1) := by decide +kernel
theorem dX6_flown_109 : decode cX6_flown 109 = .ok (.getfield 10, 3) := by decide +kernel
theorem dX6_flown_112 : decode cX6_flown 112 = .ok (.iload_n 1, 1) := by decide +kernel
theorem dX6_flown_113 : decode cX6_flown 113 = .ok (.bipush 7, 2) := by decide +kernel
theorem dX6_flown_115 : decode cX6_flown 115 = .ok (.invokevirtual 205, 3) := by decide +kernel
theorem dX6_flown_118 : decode cX6_flown 118 = .ok (.ireturn, 1) := by decide +kernel
theorem dX6_flown_119 : decode cX6_flown 119 = .ok (.aload_n 0, 1) := by decide +kernel
theorem dX6_flown_120 : decode cX6_flown 120 = .ok (.getfield 10, 3) := by decide +kernel
theorem dX6_flown_123 : decode cX6_flown 123 = .ok (.iload_n 1, 1) := by decide +kernel
theorem dX6_flown_124 : decode cX6_flown 124 = .ok (.invokevirtual 209, 3) := by decide +kernel
theorem dX6_flown_127 : decode cX6_flown 127 = .ok (.ireturn, 1) := by decide +kernel
theorem dX6_flown_128 : decode cX6_flown 128 = .ok (.aload_n 0, 1) := by decide +kernel
theorem dX6_flown_129 : decode cX6_flown 129 = .ok (.iconst (-1), 1) := by decide +kernel
theorem dX6_flown_130 : decode cX6_flown 130 = .ok (.invokevirtual 38, 3) := by decide +kernel
theorem dX6_flown_133 : decode cX6_flown 133 = .ok (.ireturn, 1) := by decide +kernel
theorem dX6_count_0 : decode cX6_count 0 = .ok (.iload_n 1, 1) := by decide +kernel
theorem dX6_count_1 : decode cX6_count 1 = .ok (.iconst 0, 1) := by decide +kernel
theorem dX6_count_2 : decode cX6_count 2 = .ok (.bipush 7, 2) := by decide +kernel
theorem dX6_count_4 : decode cX6_count 4 = .ok (.invokestatic 62, 3) := by decide +kernel
theorem dX6_count_7 : decode cX6_count 7 = .ok (.ifCond .eq 12, 3) := by decide +kernel
theorem dX6_count_10 : decode cX6_count 10 = .ok (.aload_n 0, 1) := by decide +kernel
theorem dX6_count_11 : decode cX6_count 11 = .ok (.getfield 10, 3) := by decide +kernel
theorem dX6_count_14 : decode cX6_count 14 = .ok (.iload_n 1, 1) := by decide +kernel
theorem dX6_count_15 : decode cX6_count 15 = .ok (.invokevirtual 211, 3) := by decide +kernel
theorem dX6_count_18 : decode cX6_count 18 = .ok (.ireturn, 1) := by decide +kernel
theorem dX6_count_19 : decode cX6_count 19 = .ok (.iload_n 1, 1) := by decide +kernel
theorem dX6_count_20 : decode cX6_count 20 = .ok (.tableswitch 97 8 14 #[44, 52, 60, 68, 76, 84, 92], 44) := by decide +kernel
theorem dX6_count_64 : decode cX6_count 64 = .ok (.aload_n 0, 1) := by decide +kernel
theorem dX6_count_65 : decode cX6_count 65 = .ok (.getfield 10, 3) := by decide +kernel
theorem dX6_count_68 : decode cX6_count 68 = .ok (.getfield 117, 3) := by decide +kernel
theorem dX6_count_71 : decode cX6_count 71 = .ok (.ireturn, 1) := by decide +kernel
theorem dX6_count_72 : decode cX6_count 72 = .ok (.aload_n 0, 1) := by decide +kernel
theorem dX6_count_73 : decode cX6_count 73 = .ok (.getfield 10, 3) := by decide +kernel
theorem dX6_count_76 : decode cX6_count 76 = .ok (.getfield 42, 3) := by decide +kernel
theorem dX6_count_79 : decode cX6_count 79 = .ok (.ireturn, 1) := by decide +kernel
theorem dX6_count_80 : decode cX6_count 80 = .ok (.aload_n 0, 1) := by decide +kernel
theorem dX6_count_81 : decode cX6_count 81 = .ok (.getfield 10, 3) := by decide +kernel
theorem dX6_count_84 : decode cX6_count 84 = .ok (.getfield 69, 3) := by decide +kernel
theorem dX6_count_87 : decode cX6_count 87 = .ok (.ireturn, 1) := by decide +kernel
theorem dX6_count_88 : decode cX6_count 88 = .ok (.aload_n 0, 1) := by decide +kernel
theorem dX6_count_89 : decode cX6_count 89 = .ok (.getfield 10, 3) := by decide +kernel
theorem dX6_count_92 : decode cX6_count 92 = .ok (.getfield 100, 3) := by decide +kernel
theorem dX6_count_95 : decode cX6_count 95 = .ok (.ireturn, 1) := by decide +kernel
theorem dX6_count_96 : decode cX6_count 96 = .ok (.aload_n 0, 1) := by decide +kernel
theorem dX6_count_97 : decode cX6_count 97 = .ok (.getfield 10, 3) := by decide +kernel
theorem dX6_count_100 : decode cX6_count 100 = .ok (.invokevirtual 214, 3) := by decide +kernel
theorem dX6_count_103 : decode cX6_count 103 = .ok (.ireturn, 1) := by decide +kernel
theorem dX6_count_104 : decode cX6_count 104 = .ok (.aload_n 0, 1) := by decide +kernel
theorem dX6_count_105 : decode cX6_count 105 = .ok (.getfield 10, 3) := by decide +kernel
theorem dX6_count_108 : decode cX6_count 108 = .ok (.getfield 171, 3) := by decide +kernel
theorem dX6_count_111 : decode cX6_count 111 = .ok (.ireturn, 1) := by decide +kernel
theorem dX6_count_112 : decode cX6_count 112 = .ok (.aload_n 0, 1) := by decide +kernel
theorem dX6_count_113 : decode cX6_count 113 = .ok (.getfield 26, 3) := by decide +kernel
theorem dX6_count_116 : decode cX6_count 116 = .ok (.ireturn, 1) := by decide +kernel
theorem dX6_count_117 : decode cX6_count 117 = .ok (.aload_n 0, 1) := by decide +kernel
theorem dX6_count_118 : decode cX6_count 118 = .ok (.iconst (-1), 1) := by decide +kernel
theorem dX6_count_119 : decode cX6_count 119 = .ok (.invokevirtual 38, 3) := by decide +kernel
theorem dX6_count_122 : decode cX6_count 122 = .ok (.ireturn, 1) := by decide +kernel
theorem dX6_keep_0 : decode cX6_keep 0 = .ok (.aload_n 0, 1) := by decide +kernel
theorem dX6_keep_1 : decode cX6_keep 1 = .ok (.getfield 23, 3) := by decide +kernel
theorem dX6_keep_4 : decode cX6_keep 4 = .ok (.ifnonnull 14, 3) := by decide +kernel
theorem dX6_keep_7 : decode cX6_keep 7 = .ok (.aload_n 0, 1) := by decide +kernel
theorem dX6_keep_8 : decode cX6_keep 8 = .ok (.new 7, 3) := by decide +kernel
theorem dX6_keep_11 : decode cX6_keep 11 = .ok (.dup, 1) := by decide +kernel
theorem dX6_keep_12 : decode cX6_keep 12 = .ok (.invokespecial 9, 3) := by decide +kernel
theorem dX6_keep_15 : decode cX6_keep 15 = .ok (.putfield 23, 3) := by decide +kernel
theorem dX6_keep_18 : decode cX6_keep 18 = .ok (.aload_n 0, 1) := by decide +kernel
theorem dX6_keep_19 : decode cX6_keep 19 = .ok (.getfield 23, 3) := by decide +kernel
theorem dX6_keep_22 : decode cX6_keep 22 = .ok (.aload_n 0, 1) := by decide +kernel
theorem dX6_keep_23 : decode cX6_keep 23 = .ok (.getfield 10, 3) := by decide +kernel
theorem dX6_keep_26 : decode cX6_keep 26 = .ok (.invokevirtual 217, 3) := by decide +kernel
theorem dX6_keep_29 : decode cX6_keep 29 = .ok (.aload_n 0, 1) := by decide +kernel
theorem dX6_keep_30 : decode cX6_keep 30 = .ok (.getfield 10, 3) := by decide +kernel
theorem dX6_keep_33 : decode cX6_keep 33 = .ok (.getfield 171, 3) := by decide +kernel
theorem dX6_keep_36 : decode cX6_keep 36 = .ok (.ireturn, 1) := by decide +kernel
theorem dX6_back_0 : decode cX6_back 0 = .ok (.aload_n 0, 1) := by decide +kernel
theorem dX6_back_1 : decode cX6_back 1 = .ok (.getfield 23, 3) := by decide +kernel
theorem dX6_back_4 : decode cX6_back 4 = .ok (.ifnonnull 10, 3) := by decide +kernel
theorem dX6_back_7 : decode cX6_back 7 = .ok (.aload_n 0, 1) := by decide +kernel
theorem dX6_back_8 : decode cX6_back 8 = .ok (.bipush (-2), 2) := by decide +kernel
theorem dX6_back_10 : decode cX6_back 10 = .ok (.invokevirtual 38, 3) := by decide +kernel
theorem dX6_back_13 : decode cX6_back 13 = .ok (.ireturn, 1) := by decide +kernel
theorem dX6_back_14 : decode cX6_back 14 = .ok (.aload_n 0, 1) := by decide +kernel
theorem dX6_back_15 : decode cX6_back 15 = .ok (.getfield 10, 3) := by decide +kernel
theorem dX6_back_18 : decode cX6_back 18 = .ok (.aload_n 0, 1) := by decide +kernel
theorem dX6_back_19 : decode cX6_back 19 = .ok (.getfield 23, 3) := by decide +kernel
theorem dX6_back_22 : decode cX6_back 22 = .ok (.invokevirtual 217, 3) := by decide +kernel
theorem dX6_back_25 : decode cX6_back 25 = .ok (.aload_n 0, 1) := by decide +kernel
theorem dX6_back_26 : decode cX6_back 26 = .ok (.getfield 19, 3) := by decide +kernel
theorem dX6_back_29 : decode cX6_back 29 = .ok (.aload_n 0, 1) := by decide +kernel
theorem dX6_back_30 : decode cX6_back 30 = .ok (.getfield 10, 3) := by decide +kernel
theorem dX6_back_33 : decode cX6_back 33 = .ok (.invokevirtual 55, 3) := by decide +kernel
theorem dX6_back_36 : decode cX6_back 36 = .ok (.aload_n 0, 1) := by decide +kernel
theorem dX6_back_37 : decode cX6_back 37 = .ok (.getfield 10, 3) := by decide +kernel
theorem dX6_back_40 : decode cX6_back 40 = .ok (.getfield 171, 3) := by decide +kernel
theorem dX6_back_43 : decode cX6_back 43 = .ok (.ireturn, 1) := by decide +kernel
theorem dX6_goOneTick_0 : decode cX6_goOneTick 0 = .ok (.iconst 0, 1) := by decide +kernel
theorem dX6_goOneTick_1 : decode cX6_goOneTick 1 = .ok (.istore_n 1, 1) := by decide +kernel
theorem dX6_goOneTick_2 : decode cX6_goOneTick 2 = .ok (.iload_n 1, 1) := by decide +kernel
theorem dX6_goOneTick_3 : decode cX6_goOneTick 3 = .ok (.aload_n 0, 1) := by decide +kernel
theorem dX6_goOneTick_4 : decode cX6_goOneTick 4 = .ok (.getfield 10, 3) := by decide +kernel
theorem dX6_goOneTick_7 : decode cX6_goOneTick 7 = .ok (.getfield 69, 3) := by decide +kernel
theorem dX6_goOneTick_10 : decode cX6_goOneTick 10 = .ok (.if_icmp .ge 22, 3) := by decide +kernel
theorem dX6_goOneTick_13 : decode cX6_goOneTick 13 = .ok (.aload_n 0, 1) := by decide +kernel
theorem dX6_goOneTick_14 : decode cX6_goOneTick 14 = .ok (.getfield 10, 3) := by decide +kernel
theorem dX6_goOneTick_17 : decode cX6_goOneTick 17 = .ok (.getfield 72, 3) := by decide +kernel
theorem dX6_goOneTick_20 : decode cX6_goOneTick 20 = .ok (.iload_n 1, 1) := by decide +kernel
theorem dX6_goOneTick_21 : decode cX6_goOneTick 21 = .ok (.aaload, 1) := by decide +kernel
theorem dX6_goOneTick_22 : decode cX6_goOneTick 22 = .ok (.iconst 0, 1) := by decide +kernel
theorem dX6_goOneTick_23 : decode cX6_goOneTick 23 = .ok (.putfield 220, 3) := by decide +kernel
theorem dX6_goOneTick_26 : decode cX6_goOneTick 26 = .ok (.iinc 1 1, 3) := by decide +kernel
theorem dX6_goOneTick_29 : decode cX6_goOneTick 29 = .ok (.goto (-27), 3) := by decide +kernel
theorem dX6_goOneTick_32 : decode cX6_goOneTick 32 = .ok (.iconst 0, 1) := by decide +kernel
theorem dX6_goOneTick_33 : decode cX6_goOneTick 33 = .ok (.istore_n 1, 1) := by decide +kernel
theorem dX6_goOneTick_34 : decode cX6_goOneTick 34 = .ok (.iload_n 1, 1) := by decide +kernel
theorem dX6_goOneTick_35 : decode cX6_goOneTick 35 = .ok (.aload_n 0, 1) := by decide +kernel
theorem dX6_goOneTick_36 : decode cX6_goOneTick 36 = .ok (.getfield 10, 3) := by decide +kernel
theorem dX6_goOneTick_39 : decode cX6_goOneTick 39 = .ok (.getfield 42, 3) := by decide +kernel
theorem dX6_goOneTick_42 : decode cX6_goOneTick 42 = .ok (.if_icmp .ge 14, 3) := by decide +kernel
theorem dX6_goOneTick_45 : decode cX6_goOneTick 45 = .ok (.aload_n 0, 1) := by decide +kernel
theorem dX6_goOneTick_46 : decode cX6_goOneTick 46 = .ok (.iload_n 1, 1) := by decide +kernel
theorem dX6_goOneTick_47 : decode cX6_goOneTick 47 = .ok (.invokevirtual 223, 3) := by decide +kernel
theorem dX6_goOneTick_50 : decode cX6_goOneTick 50 = .ok (.iinc 1 1, 3) := by decide +kernel
theorem dX6_goOneTick_53 : decode cX6_goOneTick 53 = .ok (.goto (-19), 3) := by decide +kernel
theorem dX6_goOneTick_56 : decode cX6_goOneTick 56 = .ok (.iconst 0, 1) := by decide +kernel
theorem dX6_goOneTick_57 : decode cX6_goOneTick 57 = .ok (.istore_n 1, 1) := by decide +kernel
theorem dX6_goOneTick_58 : decode cX6_goOneTick 58 = .ok (.iload_n 1, 1) := by decide +kernel
theorem dX6_goOneTick_59 : decode cX6_goOneTick 59 = .ok (.aload_n 0, 1) := by decide +kernel
theorem dX6_goOneTick_60 : decode cX6_goOneTick 60 = .ok (.getfield 10, 3) := by decide +kernel
theorem dX6_goOneTick_63 : decode cX6_goOneTick 63 = .ok (.getfield 69, 3) := by decide +kernel
theorem dX6_goOneTick_66 : decode cX6_goOneTick 66 = .ok (.if_icmp .ge 21, 3) := by decide +kernel
theorem dX6_goOneTick_69 : decode cX6_goOneTick 69 = .ok (.aload_n 0, 1) := by decide +kernel
theorem dX6_goOneTick_70 : decode cX6_goOneTick 70 = .ok (.getfield 10, 3) := by decide +kernel
theorem dX6_goOneTick_73 : decode cX6_goOneTick 73 = .ok (.getfield 72, 3) := by decide +kernel
theorem dX6_goOneTick_76 : decode cX6_goOneTick 76 = .ok (.iload_n 1, 1) := by decide +kernel
theorem dX6_goOneTick_77 : decode cX6_goOneTick 77 = .ok (.aaload, 1) := by decide +kernel
theorem dX6_goOneTick_78 : decode cX6_goOneTick 78 = .ok (.invokevirtual 226, 3) := by decide +kernel
theorem dX6_goOneTick_81 : decode cX6_goOneTick 81 = .ok (.iinc 1 1, 3) := by decide +kernel
theorem dX6_goOneTick_84 : decode cX6_goOneTick 84 = .ok (.goto (-26), 3) := by decide +kernel
theorem dX6_goOneTick_87 : decode cX6_goOneTick 87 = .ok (.iconst 0, 1) := by decide +kernel
theorem dX6_goOneTick_88 : decode cX6_goOneTick 88 = .ok (.istore_n 1, 1) := by decide +kernel
theorem dX6_goOneTick_89 : decode cX6_goOneTick 89 = .ok (.iload_n 1, 1) := by decide +kernel
theorem dX6_goOneTick_90 : decode cX6_goOneTick 90 = .ok (.aload_n 0, 1) := by decide +kernel
theorem dX6_goOneTick_91 : decode cX6_goOneTick 91 = .ok (.getfield 10, 3) := by decide +kernel
theorem dX6_goOneTick_94 : decode cX6_goOneTick 94 = .ok (.getfield 42, 3) := by decide +kernel
theorem dX6_goOneTick_97 : decode cX6_goOneTick 97 = .ok (.if_icmp .ge 14, 3) := by decide +kernel
theorem dX6_goOneTick_100 : decode cX6_goOneTick 100 = .ok (.aload_n 0, 1) := by decide +kernel
theorem dX6_goOneTick_101 : decode cX6_goOneTick 101 = .ok (.iload_n 1, 1) := by decide +kernel
theorem dX6_goOneTick_102 : decode cX6_goOneTick 102 = .ok (.invokevirtual 229, 3) := by decide +kernel
theorem dX6_goOneTick_105 : decode cX6_goOneTick 105 = .ok (.iinc 1 1, 3) := by decide +kernel
theorem dX6_goOneTick_108 : decode cX6_goOneTick 108 = .ok (.goto (-19), 3) := by decide +kernel
theorem dX6_goOneTick_111 : decode cX6_goOneTick 111 = .ok (.aload_n 0, 1) := by decide +kernel
theorem dX6_goOneTick_112 : decode cX6_goOneTick 112 = .ok (.getfield 10, 3) := by decide +kernel
theorem dX6_goOneTick_115 : decode cX6_goOneTick 115 = .ok (.dup, 1) := by decide +kernel
theorem dX6_goOneTick_116 : decode cX6_goOneTick 116 = .ok (.getfield 171, 3) := by decide +kernel
theorem dX6_goOneTick_119 : decode cX6_goOneTick 119 = .ok (.iconst 1, 1) := by decide +kernel
theorem dX6_goOneTick_120 : decode cX6_goOneTick 120 = .ok (.iadd, 1) := by decide +kernel
theorem dX6_goOneTick_121 : decode cX6_goOneTick 121 = .ok (.putfield 171, 3) := by decide +kernel
theorem dX6_goOneTick_124 : decode cX6_goOneTick 124 = .ok (.return_, 1) := by decide +kernel
theorem dX6_sendFrom_0 : decode cX6_sendFrom 0 = .ok (.aload_n 0, 1) := by decide +kernel
theorem dX6_sendFrom_1 : decode cX6_sendFrom 1 = .ok (.getfield 10, 3) := by decide +kernel
theorem dX6_sendFrom_4 : decode cX6_sendFrom 4 = .ok (.getfield 45, 3) := by decide +kernel
theorem dX6_sendFrom_7 : decode cX6_sendFrom 7 = .ok (.iload_n 1, 1) := by decide +kernel
theorem dX6_sendFrom_8 : decode cX6_sendFrom 8 = .ok (.aaload, 1) := by decide +kernel
theorem dX6_sendFrom_9 : decode cX6_sendFrom 9 = .ok (.astore_n 2, 1) := by decide +kernel
theorem dX6_sendFrom_10 : decode cX6_sendFrom 10 = .ok (.aload_n 0, 1) := by decide +kernel
theorem dX6_sendFrom_11 : decode cX6_sendFrom 11 = .ok (.aload_n 2, 1) := by decide +kernel
theorem dX6_sendFrom_12 : decode cX6_sendFrom 12 = .ok (.invokevirtual 232, 3) := by decide +kernel
theorem dX6_sendFrom_15 : decode cX6_sendFrom 15 = .ok (.istore_n 3, 1) := by decide +kernel
theorem dX6_sendFrom_16 : decode cX6_sendFrom 16 = .ok (.aload_n 0, 1) := by decide +kernel
theorem dX6_sendFrom_17 : decode cX6_sendFrom 17 = .ok (.getfield 10, 3) := by decide +kernel
theorem dX6_sendFrom_20 : decode cX6_sendFrom 20 = .ok (.iload_n 3, 1) := by decide +kernel
theorem dX6_sendFrom_21 : decode cX6_sendFrom 21 = .ok (.invokevirtual 132, 3) := by decide +kernel
theorem dX6_sendFrom_24 : decode cX6_sendFrom 24 = .ok (.ifCond .ne 4, 3) := by decide +kernel
theorem dX6_sendFrom_27 : decode cX6_sendFrom 27 = .ok (.return_, 1) := by decide +kernel
theorem dX6_sendFrom_28 : decode cX6_sendFrom 28 = .ok (.aload_n 0, 1) := by decide +kernel
theorem dX6_sendFrom_29 : decode cX6_sendFrom 29 = .ok (.iload_n 1, 1) := by decide +kernel
theorem dX6_sendFrom_30 : decode cX6_sendFrom 30 = .ok (.aload_n 0, 1) := by decide +kernel
theorem dX6_sendFrom_31 : decode cX6_sendFrom 31 = .ok (.getfield 10, 3) := by decide +kernel
theorem dX6_sendFrom_34 : decode cX6_sendFrom 34 = .ok (.getfield 120, 3) := by decide +kernel
theorem dX6_sendFrom_37 : decode cX6_sendFrom 37 = .ok (.iload_n 3, 1) := by decide +kernel
theorem dX6_sendFrom_38 : decode cX6_sendFrom 38 = .ok (.aaload, 1) := by decide +kernel
theorem dX6_sendFrom_39 : decode cX6_sendFrom 39 = .ok (.invokevirtual 236, 3) := by decide +kernel
theorem dX6_sendFrom_42 : decode cX6_sendFrom 42 = .ok (.istore 4, 2) := by decide +kernel
theorem dX6_sendFrom_44 : decode cX6_sendFrom 44 = .ok (.aload_n 0, 1) := by decide +kernel
theorem dX6_sendFrom_45 : decode cX6_sendFrom 45 = .ok (.getfield 10, 3) := by decide +kernel
theorem dX6_sendFrom_48 : decode cX6_sendFrom 48 = .ok (.iload 4, 2) := by decide +kernel
theorem dX6_sendFrom_50 : decode cX6_sendFrom 50 = .ok (.invokevirtual 85, 3) := by decide +kernel
theorem dX6_sendFrom_53 : decode cX6_sendFrom 53 = .ok (.ifCond .eq 19, 3) := by decide +kernel
theorem dX6_sendFrom_56 : decode cX6_sendFrom 56 = .ok (.aload_n 0, 1) := by decide +kernel
theorem dX6_sendFrom_57 : decode cX6_sendFrom 57 = .ok (.getfield 10, 3) := by decide +kernel
theorem dX6_sendFrom_60 : decode cX6_sendFrom 60 = .ok (.getfield 72, 3) := by decide +kernel
theorem dX6_sendFrom_63 : decode cX6_sendFrom 63 = .ok (.iload 4, 2) := by decide +kernel
theorem dX6_sendFrom_65 : decode cX6_sendFrom 65 = .ok (.aaload, 1) := by decide +kernel
theorem dX6_sendFrom_66 : decode cX6_sendFrom 66 = .ok (.invokevirtual 240, 3) := by decide +kernel
theorem dX6_sendFrom_69 : decode cX6_sendFrom 69 = .ok (.ifCond .ne 4, 3) := by decide +kernel
theorem dX6_sendFrom_72 : decode cX6_sendFrom 72 = .ok (.return_, 1) := by decide +kernel
theorem dX6_sendFrom_73 : decode cX6_sendFrom 73 = .ok (.aload_n 2, 1) := by decide +kernel
theorem dX6_sendFrom_74 : decode cX6_sendFrom 74 = .ok (.iload_n 3, 1) := by decide +kernel
theorem dX6_sendFrom_75 : decode cX6_sendFrom 75 = .ok (.invokevirtual 244, 3) := by decide +kernel
theorem dX6_sendFrom_78 : decode cX6_sendFrom 78 = .ok (.aload_n 0, 1) := by decide +kernel
theorem dX6_sendFrom_79 : decode cX6_sendFrom 79 = .ok (.getfield 10, 3) := by decide +kernel
theorem dX6_sendFrom_82 : decode cX6_sendFrom 82 = .ok (.getfield 72, 3) := by decide +kernel
theorem dX6_sendFrom_85 : decode cX6_sendFrom 85 = .ok (.iload 4, 2) := by decide +kernel
theorem dX6_sendFrom_87 : decode cX6_sendFrom 87 = .ok (.aaload, 1) := by decide +kernel
theorem dX6_sendFrom_88 : decode cX6_sendFrom 88 = .ok (.iload_n 3, 1) := by decide +kernel
theorem dX6_sendFrom_89 : decode cX6_sendFrom 89 = .ok (.invokevirtual 247, 3) := by decide +kernel
theorem dX6_sendFrom_92 : decode cX6_sendFrom 92 = .ok (.aload_n 0, 1) := by decide +kernel
theorem dX6_sendFrom_93 : decode cX6_sendFrom 93 = .ok (.getfield 10, 3) := by decide +kernel
theorem dX6_sendFrom_96 : decode cX6_sendFrom 96 = .ok (.getfield 120, 3) := by decide +kernel
theorem dX6_sendFrom_99 : decode cX6_sendFrom 99 = .ok (.iload_n 3, 1) := by decide +kernel
theorem dX6_sendFrom_100 : decode cX6_sendFrom 100 = .ok (.aaload, 1) := by decide +kernel
theorem dX6_sendFrom_101 : decode cX6_sendFrom 101 = .ok (.iconst 1, 1) := by decide +kernel
theorem dX6_sendFrom_102 : decode cX6_sendFrom 102 = .ok (.iload 4, 2) := by decide +kernel
theorem dX6_sendFrom_104 : decode cX6_sendFrom 104 = .ok (.invokevirtual 250, 3) := by decide +kernel
theorem dX6_sendFrom_107 : decode cX6_sendFrom 107 = .ok (.aload_n 2, 1) := by decide +kernel
theorem dX6_sendFrom_108 : decode cX6_sendFrom 108 = .ok (.getfield 66, 3) := by decide +kernel
theorem dX6_sendFrom_111 : decode cX6_sendFrom 111 = .ok (.ifCond .ne 23, 3) := by decide +kernel
theorem dX6_sendFrom_114 : decode cX6_sendFrom 114 = .ok (.aload_n 0, 1) := by decide +kernel
theorem dX6_sendFrom_115 : decode cX6_sendFrom 115 = .ok (.getfield 10, 3) := by decide +kernel
theorem dX6_sendFrom_118 : decode cX6_sendFrom 118 = .ok (.getfield 120, 3) := by decide +kernel
theorem dX6_sendFrom_121 : decode cX6_sendFrom 121 = .ok (.iload_n 3, 1) := by decide +kernel
theorem dX6_sendFrom_122 : decode cX6_sendFrom 122 = .ok (.aaload, 1) := by decide +kernel
theorem dX6_sendFrom_123 : decode cX6_sendFrom 123 = .ok (.aload_n 0, 1) := by decide +kernel
theorem dX6_sendFrom_124 : decode cX6_sendFrom 124 = .ok (.getfield 10, 3) := by decide +kernel
theorem dX6_sendFrom_127 : decode cX6_sendFrom 127 = .ok (.getfield 171, 3) := by decide +kernel
theorem dX6_sendFrom_130 : decode cX6_sendFrom 130 = .ok (.iload_n 1, 1) := by decide +kernel
theorem dX6_sendFrom_131 : decode cX6_sendFrom 131 = .ok (.invokevirtual 253, 3) := by decide +kernel
theorem dX6_sendFrom_134 : decode cX6_sendFrom 134 = .ok (.return_, 1) := by decide +kernel
theorem dX6_nextToGo_0 : decode cX6_nextToGo 0 = .ok (.aload_n 1, 1) := by decide +kernel
theorem dX6_nextToGo_1 : decode cX6_nextToGo 1 = .ok (.getfield 66, 3) := by decide +kernel
theorem dX6_nextToGo_4 : decode cX6_nextToGo 4 = .ok (.iconst 4, 1) := by decide +kernel
theorem dX6_nextToGo_5 : decode cX6_nextToGo 5 = .ok (.if_icmp .ne 9, 3) := by decide +kernel
theorem dX6_nextToGo_8 : decode cX6_nextToGo 8 = .ok (.aload_n 0, 1) := by decide +kernel
theorem dX6_nextToGo_9 : decode cX6_nextToGo 9 = .ok (.aload_n 1, 1) := by decide +kernel
theorem dX6_nextToGo_10 : decode cX6_nextToGo 10 = .ok (.invokevirtual 256, 3) := by decide +kernel
theorem dX6_nextToGo_13 : decode cX6_nextToGo 13 = .ok (.ireturn, 1) := by decide +kernel
theorem dX6_nextToGo_14 : decode cX6_nextToGo 14 = .ok (.aload_n 1, 1) := by decide +kernel
theorem dX6_nextToGo_15 : decode cX6_nextToGo 15 = .ok (.invokevirtual 181, 3) := by decide +kernel
theorem dX6_nextToGo_18 : decode cX6_nextToGo 18 = .ok (.istore_n 2, 1) := by decide +kernel
theorem dX6_nextToGo_19 : decode cX6_nextToGo 19 = .ok (.aload_n 1, 1) := by decide +kernel
theorem dX6_nextToGo_20 : decode cX6_nextToGo 20 = .ok (.getfield 66, 3) := by decide +kernel
theorem dX6_nextToGo_23 : decode cX6_nextToGo 23 = .ok (.iconst 2, 1) := by decide +kernel
theorem dX6_nextToGo_24 : decode cX6_nextToGo 24 = .ok (.if_icmp .ne 47, 3) := by decide +kernel
theorem dX6_nextToGo_27 : decode cX6_nextToGo 27 = .ok (.aload_n 0, 1) := by decide +kernel
theorem dX6_nextToGo_28 : decode cX6_nextToGo 28 = .ok (.getfield 10, 3) := by decide +kernel
theorem dX6_nextToGo_31 : decode cX6_nextToGo 31 = .ok (.iload_n 2, 1) := by decide +kernel
theorem dX6_nextToGo_32 : decode cX6_nextToGo 32 = .ok (.invokevirtual 132, 3) := by decide +kernel
theorem dX6_nextToGo_35 : decode cX6_nextToGo 35 = .ok (.ifCond .eq 36, 3) := by decide +kernel
theorem dX6_nextToGo_38 : decode cX6_nextToGo 38 = .ok (.aload_n 0, 1) := by decide +kernel
theorem dX6_nextToGo_39 : decode cX6_nextToGo 39 = .ok (.getfield 10, 3) := by decide +kernel
theorem dX6_nextToGo_42 : decode cX6_nextToGo 42 = .ok (.getfield 171, 3) := by decide +kernel
theorem dX6_nextToGo_45 : decode cX6_nextToGo 45 = .ok (.aload_n 0, 1) := by decide +kernel
theorem dX6_nextToGo_46 : decode cX6_nextToGo 46 = .ok (.getfield 10, 3) := by decide +kernel
theorem dX6_nextToGo_49 : decode cX6_nextToGo 49 = .ok (.getfield 120, 3) := by decide +kernel
theorem dX6_nextToGo_52 : decode cX6_nextToGo 52 = .ok (.iload_n 2, 1) := by decide +kernel
theorem dX6_nextToGo_53 : decode cX6_nextToGo 53 = .ok (.aaload, 1) := by decide +kernel
theorem dX6_nextToGo_54 : decode cX6_nextToGo 54 = .ok (.getfield 153, 3) := by decide +kernel
theorem dX6_nextToGo_57 : decode cX6_nextToGo 57 = .ok (.isub, 1) := by decide +kernel
theorem dX6_nextToGo_58 : decode cX6_nextToGo 58 = .ok (.aload_n 1, 1) := by decide +kernel
theorem dX6_nextToGo_59 : decode cX6_nextToGo 59 = .ok (.getfield 259, 3) := by decide +kernel
theorem dX6_nextToGo_62 : decode cX6_nextToGo 62 = .ok (.if_icmp .lt 7, 3) := by decide +kernel
theorem dX6_nextToGo_65 : decode cX6_nextToGo 65 = .ok (.iload_n 2, 1) := by decide +kernel
theorem dX6_nextToGo_66 : decode cX6_nextToGo 66 = .ok (.goto 4, 3) := by decide +kernel
theorem dX6_nextToGo_69 : decode cX6_nextToGo 69 = .ok (.iconst (-1), 1) := by decide +kernel
theorem dX6_nextToGo_70 : decode cX6_nextToGo 70 = .ok (.ireturn, 1) := by decide +kernel
theorem dX6_nextToGo_71 : decode cX6_nextToGo 71 = .ok (.iload_n 2, 1) := by decide +kernel
theorem dX6_nextToGo_72 : decode cX6_nextToGo 72 = .ok (.ireturn, 1) := by decide +kernel
theorem dX6_firstOpen_0 : decode cX6_firstOpen 0 = .ok (.iconst 0, 1) := by decide +kernel
theorem dX6_firstOpen_1 : decode cX6_firstOpen 1 = .ok (.istore_n 2, 1) := by decide +kernel
theorem dX6_firstOpen_2 : decode cX6_firstOpen 2 = .ok (.iload_n 2, 1) := by decide +kernel
theorem dX6_firstOpen_3 : decode cX6_firstOpen 3 = .ok (.aload_n 1, 1) := by decide +kernel
theorem dX6_firstOpen_4 : decode cX6_firstOpen 4 = .ok (.getfield 141, 3) := by decide +kernel
theorem dX6_firstOpen_7 : decode cX6_firstOpen 7 = .ok (.if_icmp .ge 48, 3) := by decide +kernel
theorem dX6_firstOpen_10 : decode cX6_firstOpen 10 = .ok (.aload_n 1, 1) := by decide +kernel
theorem dX6_firstOpen_11 : decode cX6_firstOpen 11 = .ok (.getfield 185, 3) := by decide +kernel
theorem dX6_firstOpen_14 : decode cX6_firstOpen 14 = .ok (.iload_n 2, 1) := by decide +kernel
theorem dX6_firstOpen_15 : decode cX6_firstOpen 15 = .ok (.iaload, 1) := by decide +kernel
theorem dX6_firstOpen_16 : decode cX6_firstOpen 16 = .ok (.istore_n 3, 1) := by decide +kernel
theorem dX6_firstOpen_17 : decode cX6_firstOpen 17 = .ok (.aload_n 0, 1) := by decide +kernel
theorem dX6_firstOpen_18 : decode cX6_firstOpen 18 = .ok (.getfield 10, 3) := by decide +kernel
theorem dX6_firstOpen_21 : decode cX6_firstOpen 21 = .ok (.iload_n 3, 1) := by decide +kernel
theorem dX6_firstOpen_22 : decode cX6_firstOpen 22 = .ok (.invokevirtual 132, 3) := by decide +kernel
theorem dX6_firstOpen_25 : decode cX6_firstOpen 25 = .ok (.ifCond .eq 24, 3) := by decide +kernel
theorem dX6_firstOpen_28 : decode cX6_firstOpen 28 = .ok (.aload_n 0, 1) := by decide +kernel
theorem dX6_firstOpen_29 : decode cX6_firstOpen 29 = .ok (.aload_n 0, 1) := by decide +kernel
theorem dX6_firstOpen_30 : decode cX6_firstOpen 30 = .ok (.getfield 10, 3) := by decide +kernel
theorem dX6_firstOpen_33 : decode cX6_firstOpen 33 = .ok (.getfield 120, 3) := by decide +kernel
theorem dX6_firstOpen_36 : decode cX6_firstOpen 36 = .ok (.iload_n 3, 1) := by decide +kernel
theorem dX6_firstOpen_37 : decode cX6_firstOpen 37 = .ok (.aaload, 1) := by decide +kernel
theorem dX6_firstOpen_38 : decode cX6_firstOpen 38 = .ok (.getfield 262, 3) := by decide +kernel
theorem dX6_firstOpen_41 : decode cX6_firstOpen 41 = .ok (.invokevirtual 265, 3) := by decide +kernel
theorem dX6_firstOpen_44 : decode cX6_firstOpen 44 = .ok (.ifCond .eq 5, 3) := by decide +kernel
theorem dX6_firstOpen_47 : decode cX6_firstOpen 47 = .ok (.iload_n 3, 1) := by decide +kernel
theorem dX6_firstOpen_48 : decode cX6_firstOpen 48 = .ok (.ireturn, 1) := by decide +kernel
theorem dX6_firstOpen_49 : decode cX6_firstOpen 49 = .ok (.iinc 2 1, 3) := by decide +kernel
theorem dX6_firstOpen_52 : decode cX6_firstOpen 52 = .ok (.goto (-50), 3) := by decide +kernel
theorem dX6_firstOpen_55 : decode cX6_firstOpen 55 = .ok (.iconst (-1), 1) := by decide +kernel
theorem dX6_firstOpen_56 : decode cX6_firstOpen 56 = .ok (.ireturn, 1) := by decide +kernel
theorem dX6_isOpen_0 : decode cX6_isOpen 0 = .ok (.aload_n 0, 1) := by decide +kernel
theorem dX6_isOpen_1 : decode cX6_isOpen 1 = .ok (.getfield 10, 3) := by decide +kernel
theorem dX6_isOpen_4 : decode cX6_isOpen 4 = .ok (.iload_n 1, 1) := by decide +kernel
theorem dX6_isOpen_5 : decode cX6_isOpen 5 = .ok (.invokevirtual 114, 3) := by decide +kernel
theorem dX6_isOpen_8 : decode cX6_isOpen 8 = .ok (.ifCond .eq 29, 3) := by decide +kernel
theorem dX6_isOpen_11 : decode cX6_isOpen 11 = .ok (.aload_n 0, 1) := by decide +kernel
theorem dX6_isOpen_12 : decode cX6_isOpen 12 = .ok (.getfield 10, 3) := by decide +kernel
theorem dX6_isOpen_15 : decode cX6_isOpen 15 = .ok (.getfield 103, 3) := by decide +kernel
theorem dX6_isOpen_18 : decode cX6_isOpen 18 = .ok (.iload_n 1, 1) := by decide +kernel
theorem dX6_isOpen_19 : decode cX6_isOpen 19 = .ok (.aaload, 1) := by decide +kernel
theorem dX6_isOpen_20 : decode cX6_isOpen 20 = .ok (.getfield 199, 3) := by decide +kernel
theorem dX6_isOpen_23 : decode cX6_isOpen 23 = .ok (.aload_n 0, 1) := by decide +kernel
theorem dX6_isOpen_24 : decode cX6_isOpen 24 = .ok (.getfield 10, 3) := by decide +kernel
theorem dX6_isOpen_27 : decode cX6_isOpen 27 = .ok (.getfield 171, 3) := by decide +kernel
theorem dX6_isOpen_30 : decode cX6_isOpen 30 = .ok (.if_icmp .gt 7, 3) := by decide +kernel
theorem dX6_isOpen_33 : decode cX6_isOpen 33 = .ok (.iconst 1, 1) := by decide +kernel
theorem dX6_isOpen_34 : decode cX6_isOpen 34 = .ok (.goto 4, 3) := by decide +kernel
theorem dX6_isOpen_37 : decode cX6_isOpen 37 = .ok (.iconst 0, 1) := by decide +kernel
theorem dX6_isOpen_38 : decode cX6_isOpen 38 = .ok (.ireturn, 1) := by decide +kernel
theorem dX6_outletFor_0 : decode cX6_outletFor 0 = .ok (.aload_n 0, 1) := by decide +kernel
theorem dX6_outletFor_1 : decode cX6_outletFor 1 = .ok (.getfield 10, 3) := by decide +kernel
theorem dX6_outletFor_4 : decode cX6_outletFor 4 = .ok (.getfield 45, 3) := by decide +kernel
theorem dX6_outletFor_7 : decode cX6_outletFor 7 = .ok (.iload_n 1, 1) := by decide +kernel
theorem dX6_outletFor_8 : decode cX6_outletFor 8 = .ok (.aaload, 1) := by decide +kernel
theorem dX6_outletFor_9 : decode cX6_outletFor 9 = .ok (.getfield 66, 3) := by decide +kernel
theorem dX6_outletFor_12 : decode cX6_outletFor 12 = .ok (.lookupswitch 87 #[(2, 28), (3, 41)], 28) := by decide +kernel
theorem dX6_outletFor_40 : decode cX6_outletFor 40 = .ok (.aload_n 0, 1) := by decide +kernel
theorem dX6_outletFor_41 : decode cX6_outletFor 41 = .ok (.getfield 10, 3) := by decide +kernel
theorem dX6_outletFor_44 : decode cX6_outletFor 44 = .ok (.iload_n 1, 1) := by decide +kernel
theorem dX6_outletFor_45 : decode cX6_outletFor 45 = .ok (.aload_n 2, 1) := by decide +kernel
theorem dX6_outletFor_46 : decode cX6_outletFor 46 = .ok (.getfield 268, 3) := by decide +kernel
theorem dX6_outletFor_49 : decode cX6_outletFor 49 = .ok (.invokevirtual 271, 3) := by decide +kernel
theorem dX6_outletFor_52 : decode cX6_outletFor 52 = .ok (.ireturn, 1) := by decide +kernel
theorem dX6_outletFor_53 : decode cX6_outletFor 53 = .ok (.aload_n 0, 1) := by decide +kernel
theorem dX6_outletFor_54 : decode cX6_outletFor 54 = .ok (.getfield 10, 3) := by decide +kernel
theorem dX6_outletFor_57 : decode cX6_outletFor 57 = .ok (.aload_n 2, 1) := by decide +kernel
theorem dX6_outletFor_58 : decode cX6_outletFor 58 = .ok (.getfield 262, 3) := by decide +kernel
theorem dX6_outletFor_61 : decode cX6_outletFor 61 = .ok (.invokevirtual 114, 3) := by decide +kernel
theorem dX6_outletFor_64 : decode cX6_outletFor 64 = .ok (.ifCond .eq 33, 3) := by decide +kernel
theorem dX6_outletFor_67 : decode cX6_outletFor 67 = .ok (.aload_n 0, 1) := by decide +kernel
theorem dX6_outletFor_68 : decode cX6_outletFor 68 = .ok (.getfield 19, 3) := by decide +kernel
theorem dX6_outletFor_71 : decode cX6_outletFor 71 = .ok (.aload_n 0, 1) := by decide +kernel
theorem dX6_outletFor_72 : decode cX6_outletFor 72 = .ok (.getfield 10, 3) := by decide +kernel
theorem dX6_outletFor_75 : decode cX6_outletFor 75 = .ok (.iload_n 1, 1) := by decide +kernel
theorem dX6_outletFor_76 : decode cX6_outletFor 76 = .ok (.aload_n 0, 1) := by decide +kernel
theorem dX6_outletFor_77 : decode cX6_outletFor 77 = .ok (.getfield 10, 3) := by decide +kernel
theorem dX6_outletFor_80 : decode cX6_outletFor 80 = .ok (.getfield 103, 3) := by decide +kernel
theorem dX6_outletFor_83 : decode cX6_outletFor 83 = .ok (.aload_n 2, 1) := by decide +kernel
theorem dX6_outletFor_84 : decode cX6_outletFor 84 = .ok (.getfield 262, 3) := by decide +kernel
theorem dX6_outletFor_87 : decode cX6_outletFor 87 = .ok (.aaload, 1) := by decide +kernel
theorem dX6_outletFor_88 : decode cX6_outletFor 88 = .ok (.getfield 192, 3) := by decide +kernel
theorem dX6_outletFor_91 : decode cX6_outletFor 91 = .ok (.invokevirtual 195, 3) := by decide +kernel
theorem dX6_outletFor_94 : decode cX6_outletFor 94 = .ok (.goto 4, 3) := by decide +kernel
theorem dX6_outletFor_97 : decode cX6_outletFor 97 = .ok (.iconst (-1), 1) := by decide +kernel
theorem dX6_outletFor_98 : decode cX6_outletFor 98 = .ok (.ireturn, 1) := by decide +kernel
theorem dX6_outletFor_99 : decode cX6_outletFor 99 = .ok (.aload_n 0, 1) := by decide +kernel
theorem dX6_outletFor_100 : decode cX6_outletFor 100 = .ok (.getfield 10, 3) := by decide +kernel
theorem dX6_outletFor_103 : decode cX6_outletFor 103 = .ok (.iload_n 1, 1) := by decide +kernel
theorem dX6_outletFor_104 : decode cX6_outletFor 104 = .ok (.invokevirtual 275, 3) := by decide +kernel
theorem dX6_outletFor_107 : decode cX6_outletFor 107 = .ok (.ireturn, 1) := by decide +kernel
theorem dX6_receiveAt_0 : decode cX6_receiveAt 0 = .ok (.aload_n 0, 1) := by decide +kernel
theorem dX6_receiveAt_1 : decode cX6_receiveAt 1 = .ok (.getfield 10, 3) := by decide +kernel
theorem dX6_receiveAt_4 : decode cX6_receiveAt 4 = .ok (.getfield 45, 3) := by decide +kernel
theorem dX6_receiveAt_7 : decode cX6_receiveAt 7 = .ok (.iload_n 1, 1) := by decide +kernel
theorem dX6_receiveAt_8 : decode cX6_receiveAt 8 = .ok (.aaload, 1) := by decide +kernel
theorem dX6_receiveAt_9 : decode cX6_receiveAt 9 = .ok (.astore_n 2, 1) := by decide +kernel
theorem dX6_receiveAt_10 : decode cX6_receiveAt 10 = .ok (.aload_n 2, 1) := by decide +kernel
theorem dX6_receiveAt_11 : decode cX6_receiveAt 11 = .ok (.invokevirtual 278, 3) := by decide +kernel
theorem dX6_receiveAt_14 : decode cX6_receiveAt 14 = .ok (.ifCond .ne 4, 3) := by decide +kernel
theorem dX6_receiveAt_17 : decode cX6_receiveAt 17 = .ok (.return_, 1) := by decide +kernel
theorem dX6_receiveAt_18 : decode cX6_receiveAt 18 = .ok (.aload_n 2, 1) := by decide +kernel
theorem dX6_receiveAt_19 : decode cX6_receiveAt 19 = .ok (.getfield 66, 3) := by decide +kernel
theorem dX6_receiveAt_22 : decode cX6_receiveAt 22 = .ok (.iconst 1, 1) := by decide +kernel
theorem dX6_receiveAt_23 : decode cX6_receiveAt 23 = .ok (.if_icmp .ne 11, 3) := by decide +kernel
theorem dX6_receiveAt_26 : decode cX6_receiveAt 26 = .ok (.aload_n 0, 1) := by decide +kernel
theorem dX6_receiveAt_27 : decode cX6_receiveAt 27 = .ok (.iload_n 1, 1) := by decide +kernel
theorem dX6_receiveAt_28 : decode cX6_receiveAt 28 = .ok (.invokevirtual 281, 3) := by decide +kernel
theorem dX6_receiveAt_31 : decode cX6_receiveAt 31 = .ok (.goto 21, 3) := by decide +kernel
theorem dX6_receiveAt_34 : decode cX6_receiveAt 34 = .ok (.aload_n 0, 1) := by decide +kernel
theorem dX6_receiveAt_35 : decode cX6_receiveAt 35 = .ok (.iload_n 1, 1) := by decide +kernel
theorem dX6_receiveAt_36 : decode cX6_receiveAt 36 = .ok (.aload_n 2, 1) := by decide +kernel
theorem dX6_receiveAt_37 : decode cX6_receiveAt 37 = .ok (.getfield 66, 3) := by decide +kernel
theorem dX6_receiveAt_40 : decode cX6_receiveAt 40 = .ok (.iconst 5, 1) := by decide +kernel
theorem dX6_receiveAt_41 : decode cX6_receiveAt 41 = .ok (.if_icmp .ne 7, 3) := by decide +kernel
theorem dX6_receiveAt_44 : decode cX6_receiveAt 44 = .ok (.iconst 1, 1) := by decide +kernel
theorem dX6_receiveAt_45 : decode cX6_receiveAt 45 = .ok (.goto 4, 3) := by decide +kernel
theorem dX6_receiveAt_48 : decode cX6_receiveAt 48 = .ok (.iconst 0, 1) := by decide +kernel
theorem dX6_receiveAt_49 : decode cX6_receiveAt 49 = .ok (.invokevirtual 284, 3) := by decide +kernel
theorem dX6_receiveAt_52 : decode cX6_receiveAt 52 = .ok (.return_, 1) := by decide +kernel
theorem dX6_receiveByNumbers_0 : decode cX6_receiveByNumbers 0 = .ok (.iconst 0, 1) := by decide +kernel
theorem dX6_receiveByNumbers_1 : decode cX6_receiveByNumbers 1 = .ok (.istore_n 3, 1) := by decide +kernel
theorem dX6_receiveByNumbers_2 : decode cX6_receiveByNumbers 2 = .ok (.iload_n 3, 1) := by decide +kernel
theorem dX6_receiveByNumbers_3 : decode cX6_receiveByNumbers 3 = .ok (.aload_n 0, 1) := by decide +kernel
theorem dX6_receiveByNumbers_4 : decode cX6_receiveByNumbers 4 = .ok (.getfield 10, 3) := by decide +kernel
theorem dX6_receiveByNumbers_7 : decode cX6_receiveByNumbers 7 = .ok (.getfield 69, 3) := by decide +kernel
theorem dX6_receiveByNumbers_10 : decode cX6_receiveByNumbers 10 = .ok (.if_icmp .ge 39, 3) := by decide +kernel
theorem dX6_receiveByNumbers_13 : decode cX6_receiveByNumbers 13 = .ok (.aload_n 0, 1) := by decide +kernel
theorem dX6_receiveByNumbers_14 : decode cX6_receiveByNumbers 14 = .ok (.getfield 10, 3) := by decide +kernel
theorem dX6_receiveByNumbers_17 : decode cX6_receiveByNumbers 17 = .ok (.getfield 72, 3) := by decide +kernel
theorem dX6_receiveByNumbers_20 : decode cX6_receiveByNumbers 20 = .ok (.iload_n 3, 1) := by decide +kernel
theorem dX6_receiveByNumbers_21 : decode cX6_receiveByNumbers 21 = .ok (.aaload, 1) := by decide +kernel
theorem dX6_receiveByNumbers_22 : decode cX6_receiveByNumbers 22 = .ok (.getfield 88, 3) := by decide +kernel
theorem dX6_receiveByNumbers_25 : decode cX6_receiveByNumbers 25 = .ok (.iload_n 1, 1) := by decide +kernel
theorem dX6_receiveByNumbers_26 : decode cX6_receiveByNumbers 26 = .ok (.if_icmp .ne 17, 3) := by decide +kernel
theorem dX6_receiveByNumbers_29 : decode cX6_receiveByNumbers 29 = .ok (.aload_n 0, 1) := by decide +kernel
theorem dX6_receiveByNumbers_30 : decode cX6_receiveByNumbers 30 = .ok (.iload_n 3, 1) := by decide +kernel
theorem dX6_receiveByNumbers_31 : decode cX6_receiveByNumbers 31 = .ok (.iload_n 1, 1) := by decide +kernel
theorem dX6_receiveByNumbers_32 : decode cX6_receiveByNumbers 32 = .ok (.invokevirtual 288, 3) := by decide +kernel
theorem dX6_receiveByNumbers_35 : decode cX6_receiveByNumbers 35 = .ok (.ifCond .eq 8, 3) := by decide +kernel
theorem dX6_receiveByNumbers_38 : decode cX6_receiveByNumbers 38 = .ok (.iload_n 2, 1) := by decide +kernel
theorem dX6_receiveByNumbers_39 : decode cX6_receiveByNumbers 39 = .ok (.ifCond .ne 4, 3) := by decide +kernel
theorem dX6_receiveByNumbers_42 : decode cX6_receiveByNumbers 42 = .ok (.return_, 1) := by decide +kernel
theorem dX6_receiveByNumbers_43 : decode cX6_receiveByNumbers 43 = .ok (.iinc 3 1, 3) := by decide +kernel
theorem dX6_receiveByNumbers_46 : decode cX6_receiveByNumbers 46 = .ok (.goto (-44), 3) := by decide +kernel
theorem dX6_receiveByNumbers_49 : decode cX6_receiveByNumbers 49 = .ok (.return_, 1) := by decide +kernel
theorem dX6_receiveByTurns_0 : decode cX6_receiveByTurns 0 = .ok (.aload_n 0, 1) := by decide +kernel
theorem dX6_receiveByTurns_1 : decode cX6_receiveByTurns 1 = .ok (.getfield 10, 3) := by decide +kernel
theorem dX6_receiveByTurns_4 : decode cX6_receiveByTurns 4 = .ok (.getfield 45, 3) := by decide +kernel
theorem dX6_receiveByTurns_7 : decode cX6_receiveByTurns 7 = .ok (.iload_n 1, 1) := by decide +kernel
theorem dX6_receiveByTurns_8 : decode cX6_receiveByTurns 8 = .ok (.aaload, 1) := by decide +kernel
theorem dX6_receiveByTurns_9 : decode cX6_receiveByTurns 9 = .ok (.astore_n 2, 1) := by decide +kernel
theorem dX6_receiveByTurns_10 : decode cX6_receiveByTurns 10 = .ok (.aload_n 0, 1) := by decide +kernel
theorem dX6_receiveByTurns_11 : decode cX6_receiveByTurns 11 = .ok (.getfield 10, 3) := by decide +kernel
theorem dX6_receiveByTurns_14 : decode cX6_receiveByTurns 14 = .ok (.iload_n 1, 1) := by decide +kernel
theorem dX6_receiveByTurns_15 : decode cX6_receiveByTurns 15 = .ok (.invokevirtual 291, 3) := by decide +kernel
theorem dX6_receiveByTurns_18 : decode cX6_receiveByTurns 18 = .ok (.istore_n 3, 1) := by decide +kernel
theorem dX6_receiveByTurns_19 : decode cX6_receiveByTurns 19 = .ok (.iconst 0, 1) := by decide +kernel
theorem dX6_receiveByTurns_20 : decode cX6_receiveByTurns 20 = .ok (.istore 4, 2) := by decide +kernel
theorem dX6_receiveByTurns_22 : decode cX6_receiveByTurns 22 = .ok (.iload 4, 2) := by decide +kernel
theorem dX6_receiveByTurns_24 : decode cX6_receiveByTurns 24 = .ok (.iload_n 3, 1) := by decide +kernel
theorem dX6_receiveByTurns_25 : decode cX6_receiveByTurns 25 = .ok (.if_icmp .gt 49, 3) := by decide +kernel
theorem dX6_receiveByTurns_28 : decode cX6_receiveByTurns 28 = .ok (.iload 4, 2) := by decide +kernel
theorem dX6_receiveByTurns_30 : decode cX6_receiveByTurns 30 = .ok (.ifCond .le 8, 3) := by decide +kernel
theorem dX6_receiveByTurns_33 : decode cX6_receiveByTurns 33 = .ok (.aload_n 0, 1) := by decide +kernel
theorem dX6_receiveByTurns_34 : decode cX6_receiveByTurns 34 = .ok (.iload_n 1, 1) := by decide +kernel
theorem dX6_receiveByTurns_35 : decode cX6_receiveByTurns 35 = .ok (.invokevirtual 294, 3) := by decide +kernel
theorem dX6_receiveByTurns_38 : decode cX6_receiveByTurns 38 = .ok (.aload_n 2, 1) := by decide +kernel
theorem dX6_receiveByTurns_39 : decode cX6_receiveByTurns 39 = .ok (.getfield 297, 3) := by decide +kernel
theorem dX6_receiveByTurns_42 : decode cX6_receiveByTurns 42 = .ok (.ifCond .le 26, 3) := by decide +kernel
theorem dX6_receiveByTurns_45 : decode cX6_receiveByTurns 45 = .ok (.aload_n 0, 1) := by decide +kernel
theorem dX6_receiveByTurns_46 : decode cX6_receiveByTurns 46 = .ok (.aload_n 2, 1) := by decide +kernel
theorem dX6_receiveByTurns_47 : decode cX6_receiveByTurns 47 = .ok (.getfield 300, 3) := by decide +kernel
theorem dX6_receiveByTurns_50 : decode cX6_receiveByTurns 50 = .ok (.iload_n 1, 1) := by decide +kernel
theorem dX6_receiveByTurns_51 : decode cX6_receiveByTurns 51 = .ok (.invokevirtual 288, 3) := by decide +kernel
theorem dX6_receiveByTurns_54 : decode cX6_receiveByTurns 54 = .ok (.ifCond .eq 14, 3) := by decide +kernel
theorem dX6_receiveByTurns_57 : decode cX6_receiveByTurns 57 = .ok (.aload_n 2, 1) := by decide +kernel
theorem dX6_receiveByTurns_58 : decode cX6_receiveByTurns 58 = .ok (.dup, 1) := by decide +kernel
theorem dX6_receiveByTurns_59 : decode cX6_receiveByTurns 59 = .ok (.getfield 297, 3) := by decide +kernel
theorem dX6_receiveByTurns_62 : decode cX6_receiveByTurns 62 = .ok (.iconst 1, 1) := by decide +kernel
theorem dX6_receiveByTurns_63 : decode cX6_receiveByTurns 63 = .ok (.isub, 1) := by decide +kernel
theorem dX6_receiveByTurns_64 : decode cX6_receiveByTurns 64 = .ok (.putfield 297, 3) := by decide +kernel
theorem dX6_receiveByTurns_67 : decode cX6_receiveByTurns 67 = .ok (.return_, 1) := by decide +kernel
theorem dX6_receiveByTurns_68 : decode cX6_receiveByTurns 68 = .ok (.iinc 4 1, 3) := by decide +kernel
theorem dX6_receiveByTurns_71 : decode cX6_receiveByTurns 71 = .ok (.goto (-49), 3) := by decide +kernel
theorem dX6_receiveByTurns_74 : decode cX6_receiveByTurns 74 = .ok (.return_, 1) := by decide +kernel
theorem dX6_passTurn_0 : decode cX6_passTurn 0 = .ok (.aload_n 0, 1) := by decide +kernel
theorem dX6_passTurn_1 : decode cX6_passTurn 1 = .ok (.getfield 10, 3) := by decide +kernel
theorem dX6_passTurn_4 : decode cX6_passTurn 4 = .ok (.aload_n 0, 1) := by decide +kernel
theorem dX6_passTurn_5 : decode cX6_passTurn 5 = .ok (.getfield 10, 3) := by decide +kernel
theorem dX6_passTurn_8 : decode cX6_passTurn 8 = .ok (.getfield 45, 3) := by decide +kernel
theorem dX6_passTurn_11 : decode cX6_passTurn 11 = .ok (.iload_n 1, 1) := by decide +kernel
theorem dX6_passTurn_12 : decode cX6_passTurn 12 = .ok (.aaload, 1) := by decide +kernel
theorem dX6_passTurn_13 : decode cX6_passTurn 13 = .ok (.getfield 300, 3) := by decide +kernel
theorem dX6_passTurn_16 : decode cX6_passTurn 16 = .ok (.iload_n 1, 1) := by decide +kernel
theorem dX6_passTurn_17 : decode cX6_passTurn 17 = .ok (.invokevirtual 303, 3) := by decide +kernel
theorem dX6_passTurn_20 : decode cX6_passTurn 20 = .ok (.istore_n 2, 1) := by decide +kernel
theorem dX6_passTurn_21 : decode cX6_passTurn 21 = .ok (.aload_n 0, 1) := by decide +kernel
theorem dX6_passTurn_22 : decode cX6_passTurn 22 = .ok (.getfield 10, 3) := by decide +kernel
theorem dX6_passTurn_25 : decode cX6_passTurn 25 = .ok (.iload_n 2, 1) := by decide +kernel
theorem dX6_passTurn_26 : decode cX6_passTurn 26 = .ok (.invokevirtual 85, 3) := by decide +kernel
theorem dX6_passTurn_29 : decode cX6_passTurn 29 = .ok (.ifCond .eq 28, 3) := by decide +kernel
theorem dX6_passTurn_32 : decode cX6_passTurn 32 = .ok (.aload_n 0, 1) := by decide +kernel
theorem dX6_passTurn_33 : decode cX6_passTurn 33 = .ok (.getfield 10, 3) := by decide +kernel
theorem dX6_passTurn_36 : decode cX6_passTurn 36 = .ok (.getfield 45, 3) := by decide +kernel
theorem dX6_passTurn_39 : decode cX6_passTurn 39 = .ok (.iload_n 1, 1) := by decide +kernel
theorem dX6_passTurn_40 : decode cX6_passTurn 40 = .ok (.aaload, 1) := by decide +kernel
theorem dX6_passTurn_41 : decode cX6_passTurn 41 = .ok (.iload_n 2, 1) := by decide +kernel
theorem dX6_passTurn_42 : decode cX6_passTurn 42 = .ok (.aload_n 0, 1) := by decide +kernel
theorem dX6_passTurn_43 : decode cX6_passTurn 43 = .ok (.getfield 10, 3) := by decide +kernel
theorem dX6_passTurn_46 : decode cX6_passTurn 46 = .ok (.getfield 72, 3) := by decide +kernel
theorem dX6_passTurn_49 : decode cX6_passTurn 49 = .ok (.iload_n 2, 1) := by decide +kernel
theorem dX6_passTurn_50 : decode cX6_passTurn 50 = .ok (.aaload, 1) := by decide +kernel
theorem dX6_passTurn_51 : decode cX6_passTurn 51 = .ok (.getfield 94, 3) := by decide +kernel
theorem dX6_passTurn_54 : decode cX6_passTurn 54 = .ok (.invokevirtual 306, 3) := by decide +kernel
theorem dX6_passTurn_57 : decode cX6_passTurn 57 = .ok (.return_, 1) := by decide +kernel
theorem dX6_receiveFrom_0 : decode cX6_receiveFrom 0 = .ok (.aload_n 0, 1) := by decide +kernel
theorem dX6_receiveFrom_1 : decode cX6_receiveFrom 1 = .ok (.getfield 10, 3) := by decide +kernel
theorem dX6_receiveFrom_4 : decode cX6_receiveFrom 4 = .ok (.iload_n 1, 1) := by decide +kernel
theorem dX6_receiveFrom_5 : decode cX6_receiveFrom 5 = .ok (.invokevirtual 85, 3) := by decide +kernel
theorem dX6_receiveFrom_8 : decode cX6_receiveFrom 8 = .ok (.ifCond .ne 5, 3) := by decide +kernel
theorem dX6_receiveFrom_11 : decode cX6_receiveFrom 11 = .ok (.iconst 0, 1) := by decide +kernel
theorem dX6_receiveFrom_12 : decode cX6_receiveFrom 12 = .ok (.ireturn, 1) := by decide +kernel
theorem dX6_receiveFrom_13 : decode cX6_receiveFrom 13 = .ok (.aload_n 0, 1) := by decide +kernel
theorem dX6_receiveFrom_14 : decode cX6_receiveFrom 14 = .ok (.getfield 10, 3) := by decide +kernel
theorem dX6_receiveFrom_17 : decode cX6_receiveFrom 17 = .ok (.getfield 72, 3) := by decide +kernel
theorem dX6_receiveFrom_20 : decode cX6_receiveFrom 20 = .ok (.iload_n 1, 1) := by decide +kernel
theorem dX6_receiveFrom_21 : decode cX6_receiveFrom 21 = .ok (.aaload, 1) := by decide +kernel
theorem dX6_receiveFrom_22 : decode cX6_receiveFrom 22 = .ok (.invokevirtual 309, 3) := by decide +kernel
theorem dX6_receiveFrom_25 : decode cX6_receiveFrom 25 = .ok (.istore_n 3, 1) := by decide +kernel
theorem dX6_receiveFrom_26 : decode cX6_receiveFrom 26 = .ok (.aload_n 0, 1) := by decide +kernel
theorem dX6_receiveFrom_27 : decode cX6_receiveFrom 27 = .ok (.getfield 10, 3) := by decide +kernel
theorem dX6_receiveFrom_30 : decode cX6_receiveFrom 30 = .ok (.iload_n 3, 1) := by decide +kernel
theorem dX6_receiveFrom_31 : decode cX6_receiveFrom 31 = .ok (.invokevirtual 132, 3) := by decide +kernel
theorem dX6_receiveFrom_34 : decode cX6_receiveFrom 34 = .ok (.ifCond .ne 5, 3) := by decide +kernel
theorem dX6_receiveFrom_37 : decode cX6_receiveFrom 37 = .ok (.iconst 0, 1) := by decide +kernel
theorem dX6_receiveFrom_38 : decode cX6_receiveFrom 38 = .ok (.ireturn, 1) := by decide +kernel
theorem dX6_receiveFrom_39 : decode cX6_receiveFrom 39 = .ok (.aload_n 0, 1) := by decide +kernel
theorem dX6_receiveFrom_40 : decode cX6_receiveFrom 40 = .ok (.getfield 10, 3) := by decide +kernel
theorem dX6_receiveFrom_43 : decode cX6_receiveFrom 43 = .ok (.getfield 72, 3) := by decide +kernel
theorem dX6_receiveFrom_46 : decode cX6_receiveFrom 46 = .ok (.iload_n 1, 1) := by decide +kernel
theorem dX6_receiveFrom_47 : decode cX6_receiveFrom 47 = .ok (.aaload, 1) := by decide +kernel
theorem dX6_receiveFrom_48 : decode cX6_receiveFrom 48 = .ok (.iload_n 3, 1) := by decide +kernel
theorem dX6_receiveFrom_49 : decode cX6_receiveFrom 49 = .ok (.invokevirtual 312, 3) := by decide +kernel
theorem dX6_receiveFrom_52 : decode cX6_receiveFrom 52 = .ok (.aload_n 0, 1) := by decide +kernel
theorem dX6_receiveFrom_53 : decode cX6_receiveFrom 53 = .ok (.getfield 10, 3) := by decide +kernel
theorem dX6_receiveFrom_56 : decode cX6_receiveFrom 56 = .ok (.getfield 45, 3) := by decide +kernel
theorem dX6_receiveFrom_59 : decode cX6_receiveFrom 59 = .ok (.iload_n 2, 1) := by decide +kernel
theorem dX6_receiveFrom_60 : decode cX6_receiveFrom 60 = .ok (.aaload, 1) := by decide +kernel
theorem dX6_receiveFrom_61 : decode cX6_receiveFrom 61 = .ok (.getfield 66, 3) := by decide +kernel
theorem dX6_receiveFrom_64 : decode cX6_receiveFrom 64 = .ok (.iconst 5, 1) := by decide +kernel
theorem dX6_receiveFrom_65 : decode cX6_receiveFrom 65 = .ok (.if_icmp .eq 16, 3) := by decide +kernel
theorem dX6_receiveFrom_68 : decode cX6_receiveFrom 68 = .ok (.aload_n 0, 1) := by decide +kernel
theorem dX6_receiveFrom_69 : decode cX6_receiveFrom 69 = .ok (.getfield 10, 3) := by decide +kernel
theorem dX6_receiveFrom_72 : decode cX6_receiveFrom 72 = .ok (.getfield 45, 3) := by decide +kernel
theorem dX6_receiveFrom_75 : decode cX6_receiveFrom 75 = .ok (.iload_n 2, 1) := by decide +kernel
theorem dX6_receiveFrom_76 : decode cX6_receiveFrom 76 = .ok (.aaload, 1) := by decide +kernel
theorem dX6_receiveFrom_77 : decode cX6_receiveFrom 77 = .ok (.iload_n 3, 1) := by decide +kernel
theorem dX6_receiveFrom_78 : decode cX6_receiveFrom 78 = .ok (.invokevirtual 313, 3) := by decide +kernel
theorem dX6_receiveFrom_81 : decode cX6_receiveFrom 81 = .ok (.aload_n 0, 1) := by decide +kernel
theorem dX6_receiveFrom_82 : decode cX6_receiveFrom 82 = .ok (.getfield 10, 3) := by decide +kernel
theorem dX6_receiveFrom_85 : decode cX6_receiveFrom 85 = .ok (.getfield 120, 3) := by decide +kernel
theorem dX6_receiveFrom_88 : decode cX6_receiveFrom 88 = .ok (.iload_n 3, 1) := by decide +kernel
theorem dX6_receiveFrom_89 : decode cX6_receiveFrom 89 = .ok (.aaload, 1) := by decide +kernel
theorem dX6_receiveFrom_90 : decode cX6_receiveFrom 90 = .ok (.astore 4, 2) := by decide +kernel
theorem dX6_receiveFrom_92 : decode cX6_receiveFrom 92 = .ok (.aload 4, 2) := by decide +kernel
theorem dX6_receiveFrom_94 : decode cX6_receiveFrom 94 = .ok (.aload_n 0, 1) := by decide +kernel
theorem dX6_receiveFrom_95 : decode cX6_receiveFrom 95 = .ok (.iload_n 2, 1) := by decide +kernel
theorem dX6_receiveFrom_96 : decode cX6_receiveFrom 96 = .ok (.aload 4, 2) := by decide +kernel
theorem dX6_receiveFrom_98 : decode cX6_receiveFrom 98 = .ok (.getfield 262, 3) := by decide +kernel
theorem dX6_receiveFrom_101 : decode cX6_receiveFrom 101 = .ok (.invokevirtual 316, 3) := by decide +kernel
theorem dX6_receiveFrom_104 : decode cX6_receiveFrom 104 = .ok (.iload_n 2, 1) := by decide +kernel
theorem dX6_receiveFrom_105 : decode cX6_receiveFrom 105 = .ok (.invokevirtual 250, 3) := by decide +kernel
theorem dX6_receiveFrom_108 : decode cX6_receiveFrom 108 = .ok (.aload 4, 2) := by decide +kernel
theorem dX6_receiveFrom_110 : decode cX6_receiveFrom 110 = .ok (.aload_n 0, 1) := by decide +kernel
theorem dX6_receiveFrom_111 : decode cX6_receiveFrom 111 = .ok (.getfield 10, 3) := by decide +kernel
theorem dX6_receiveFrom_114 : decode cX6_receiveFrom 114 = .ok (.getfield 171, 3) := by decide +kernel
theorem dX6_receiveFrom_117 : decode cX6_receiveFrom 117 = .ok (.putfield 153, 3) := by decide +kernel
theorem dX6_receiveFrom_120 : decode cX6_receiveFrom 120 = .ok (.aload 4, 2) := by decide +kernel
theorem dX6_receiveFrom_122 : decode cX6_receiveFrom 122 = .ok (.aload_n 0, 1) := by decide +kernel
theorem dX6_receiveFrom_123 : decode cX6_receiveFrom 123 = .ok (.getfield 10, 3) := by decide +kernel
theorem dX6_receiveFrom_126 : decode cX6_receiveFrom 126 = .ok (.getfield 171, 3) := by decide +kernel
theorem dX6_receiveFrom_129 : decode cX6_receiveFrom 129 = .ok (.iload_n 2, 1) := by decide +kernel
theorem dX6_receiveFrom_130 : decode cX6_receiveFrom 130 = .ok (.invokevirtual 253, 3) := by decide +kernel
theorem dX6_receiveFrom_133 : decode cX6_receiveFrom 133 = .ok (.iconst 1, 1) := by decide +kernel
theorem dX6_receiveFrom_134 : decode cX6_receiveFrom 134 = .ok (.ireturn, 1) := by decide +kernel
theorem dX6_whereAt_0 : decode cX6_whereAt 0 = .ok (.aload_n 0, 1) := by decide +kernel
theorem dX6_whereAt_1 : decode cX6_whereAt 1 = .ok (.getfield 10, 3) := by decide +kernel
theorem dX6_whereAt_4 : decode cX6_whereAt 4 = .ok (.getfield 45, 3) := by decide +kernel
theorem dX6_whereAt_7 : decode cX6_whereAt 7 = .ok (.iload_n 1, 1) := by decide +kernel
theorem dX6_whereAt_8 : decode cX6_whereAt 8 = .ok (.aaload, 1) := by decide +kernel
theorem dX6_whereAt_9 : decode cX6_whereAt 9 = .ok (.getfield 66, 3) := by decide +kernel
theorem dX6_whereAt_12 : decode cX6_whereAt 12 = .ok (.istore_n 3, 1) := by decide +kernel
theorem dX6_whereAt_13 : decode cX6_whereAt 13 = .ok (.iload_n 3, 1) := by decide +kernel
theorem dX6_whereAt_14 : decode cX6_whereAt 14 = .ok (.iconst 5, 1) := by decide +kernel
theorem dX6_whereAt_15 : decode cX6_whereAt 15 = .ok (.if_icmp .eq 14, 3) := by decide +kernel
theorem dX6_whereAt_18 : decode cX6_whereAt 18 = .ok (.iload_n 3, 1) := by decide +kernel
theorem dX6_whereAt_19 : decode cX6_whereAt 19 = .ok (.iconst 4, 1) := by decide +kernel
theorem dX6_whereAt_20 : decode cX6_whereAt 20 = .ok (.if_icmp .ne 7, 3) := by decide +kernel
theorem dX6_whereAt_23 : decode cX6_whereAt 23 = .ok (.iconst 3, 1) := by decide +kernel
theorem dX6_whereAt_24 : decode cX6_whereAt 24 = .ok (.goto 4, 3) := by decide +kernel
theorem dX6_whereAt_27 : decode cX6_whereAt 27 = .ok (.iconst 2, 1) := by decide +kernel
theorem dX6_whereAt_28 : decode cX6_whereAt 28 = .ok (.ireturn, 1) := by decide +kernel
theorem dX6_whereAt_29 : decode cX6_whereAt 29 = .ok (.aload_n 0, 1) := by decide +kernel
theorem dX6_whereAt_30 : decode cX6_whereAt 30 = .ok (.getfield 10, 3) := by decide +kernel
theorem dX6_whereAt_33 : decode cX6_whereAt 33 = .ok (.iload_n 2, 1) := by decide +kernel
theorem dX6_whereAt_34 : decode cX6_whereAt 34 = .ok (.invokevirtual 114, 3) := by decide +kernel
theorem dX6_whereAt_37 : decode cX6_whereAt 37 = .ok (.ifCond .eq 19, 3) := by decide +kernel
theorem dX6_whereAt_40 : decode cX6_whereAt 40 = .ok (.aload_n 0, 1) := by decide +kernel
theorem dX6_whereAt_41 : decode cX6_whereAt 41 = .ok (.getfield 10, 3) := by decide +kernel
theorem dX6_whereAt_44 : decode cX6_whereAt 44 = .ok (.getfield 103, 3) := by decide +kernel
theorem dX6_whereAt_47 : decode cX6_whereAt 47 = .ok (.iload_n 2, 1) := by decide +kernel
theorem dX6_whereAt_48 : decode cX6_whereAt 48 = .ok (.aaload, 1) := by decide +kernel
theorem dX6_whereAt_49 : decode cX6_whereAt 49 = .ok (.getfield 192, 3) := by decide +kernel
theorem dX6_whereAt_52 : decode cX6_whereAt 52 = .ok (.iload_n 1, 1) := by decide +kernel
theorem dX6_whereAt_53 : decode cX6_whereAt 53 = .ok (.if_icmp .eq 6, 3) := by decide +kernel
theorem dX6_whereAt_56 : decode cX6_whereAt 56 = .ok (.bipush 7, 2) := by decide +kernel
theorem dX6_whereAt_58 : decode cX6_whereAt 58 = .ok (.ireturn, 1) := by decide +kernel
theorem dX6_whereAt_59 : decode cX6_whereAt 59 = .ok (.aload_n 0, 1) := by decide +kernel
theorem dX6_whereAt_60 : decode cX6_whereAt 60 = .ok (.getfield 10, 3) := by decide +kernel
theorem dX6_whereAt_63 : decode cX6_whereAt 63 = .ok (.getfield 171, 3) := by decide +kernel
theorem dX6_whereAt_66 : decode cX6_whereAt 66 = .ok (.aload_n 0, 1) := by decide +kernel
theorem dX6_whereAt_67 : decode cX6_whereAt 67 = .ok (.getfield 10, 3) := by decide +kernel
theorem dX6_whereAt_70 : decode cX6_whereAt 70 = .ok (.getfield 103, 3) := by decide +kernel
theorem dX6_whereAt_73 : decode cX6_whereAt 73 = .ok (.iload_n 2, 1) := by decide +kernel
theorem dX6_whereAt_74 : decode cX6_whereAt 74 = .ok (.aaload, 1) := by decide +kernel
theorem dX6_whereAt_75 : decode cX6_whereAt 75 = .ok (.getfield 202, 3) := by decide +kernel
theorem dX6_whereAt_78 : decode cX6_whereAt 78 = .ok (.if_icmp .ge 7, 3) := by decide +kernel
theorem dX6_whereAt_81 : decode cX6_whereAt 81 = .ok (.iconst 5, 1) := by decide +kernel
theorem dX6_whereAt_82 : decode cX6_whereAt 82 = .ok (.goto 5, 3) := by decide +kernel
theorem dX6_whereAt_85 : decode cX6_whereAt 85 = .ok (.bipush 6, 2) := by decide +kernel
theorem dX6_whereAt_87 : decode cX6_whereAt 87 = .ok (.ireturn, 1) := by decide +kernel
theorem dX6_finding_0 : decode cX6_finding 0 = .ok (.aload_n 0, 1) := by decide +kernel
theorem dX6_finding_1 : decode cX6_finding 1 = .ok (.dup, 1) := by decide +kernel
theorem dX6_finding_2 : decode cX6_finding 2 = .ok (.getfield 26, 3) := by decide +kernel
theorem dX6_finding_5 : decode cX6_finding 5 = .ok (.iconst 1, 1) := by decide +kernel
theorem dX6_finding_6 : decode cX6_finding 6 = .ok (.iadd, 1) := by decide +kernel
theorem dX6_finding_7 : decode cX6_finding 7 = .ok (.putfield 26, 3) := by decide +kernel
theorem dX6_finding_10 : decode cX6_finding 10 = .ok (.iload_n 1, 1) := by decide +kernel
theorem dX6_finding_11 : decode cX6_finding 11 = .ok (.ireturn, 1) := by decide +kernel
theorem dX6_within_0 : decode cX6_within 0 = .ok (.iload_n 0, 1) := by decide +kernel
theorem dX6_within_1 : decode cX6_within 1 = .ok (.iload_n 1, 1) := by decide +kernel
theorem dX6_within_2 : decode cX6_within 2 = .ok (.if_icmp .lt 12, 3) := by decide +kernel
theorem dX6_within_5 : decode cX6_within 5 = .ok (.iload_n 0, 1) := by decide +kernel
theorem dX6_within_6 : decode cX6_within 6 = .ok (.iload_n 2, 1) := by decide +kernel
theorem dX6_within_7 : decode cX6_within 7 = .ok (.if_icmp .gt 7, 3) := by decide +kernel
theorem dX6_within_10 : decode cX6_within 10 = .ok (.iconst 1, 1) := by decide +kernel
theorem dX6_within_11 : decode cX6_within 11 = .ok (.goto 4, 3) := by decide +kernel
theorem dX6_within_14 : decode cX6_within 14 = .ok (.iconst 0, 1) := by decide +kernel
theorem dX6_within_15 : decode cX6_within 15 = .ok (.ireturn, 1) := by decide +kernel
theorem dX6_isKind_0 : decode cX6_isKind 0 = .ok (.iload_n 0, 1) := by decide +kernel
theorem dX6_isKind_1 : decode cX6_isKind 1 = .ok (.iconst 0, 1) := by decide +kernel
theorem dX6_isKind_2 : decode cX6_isKind 2 = .ok (.iconst 5, 1) := by decide +kernel
theorem dX6_isKind_3 : decode cX6_isKind 3 = .ok (.invokestatic 62, 3) := by decide +kernel
theorem dX6_isKind_6 : decode cX6_isKind 6 = .ok (.ireturn, 1) := by decide +kernel
theorem dX6_suits_0 : decode cX6_suits 0 = .ok (.iload_n 0, 1) := by decide +kernel
theorem dX6_suits_1 : decode cX6_suits 1 = .ok (.iconst 2, 1) := by decide +kernel
theorem dX6_suits_2 : decode cX6_suits 2 = .ok (.if_icmp .ne 11, 3) := by decide +kernel
theorem dX6_suits_5 : decode cX6_suits 5 = .ok (.iload_n 1, 1) := by decide +kernel
theorem dX6_suits_6 : decode cX6_suits 6 = .ok (.iconst 1, 1) := by decide +kernel
theorem dX6_suits_7 : decode cX6_suits 7 = .ok (.bipush 9, 2) := by decide +kernel
theorem dX6_suits_9 : decode cX6_suits 9 = .ok (.invokestatic 62, 3) := by decide +kernel
theorem dX6_suits_12 : decode cX6_suits 12 = .ok (.ireturn, 1) := by decide +kernel
theorem dX6_suits_13 : decode cX6_suits 13 = .ok (.iload_n 0, 1) := by decide +kernel
theorem dX6_suits_14 : decode cX6_suits 14 = .ok (.iconst 4, 1) := by decide +kernel
theorem dX6_suits_15 : decode cX6_suits 15 = .ok (.if_icmp .ne 13, 3) := by decide +kernel
theorem dX6_suits_18 : decode cX6_suits 18 = .ok (.iload_n 1, 1) := by decide +kernel
theorem dX6_suits_19 : decode cX6_suits 19 = .ok (.iconst 1, 1) := by decide +kernel
theorem dX6_suits_20 : decode cX6_suits 20 = .ok (.bipush 20, 2) := by decide +kernel
theorem dX6_suits_22 : decode cX6_suits 22 = .ok (.invokestatic 62, 3) := by decide +kernel
theorem dX6_suits_25 : decode cX6_suits 25 = .ok (.ifCond .eq 7, 3) := by decide +kernel
theorem dX6_suits_28 : decode cX6_suits 28 = .ok (.iconst 1, 1) := by decide +kernel
theorem dX6_suits_29 : decode cX6_suits 29 = .ok (.goto 4, 3) := by decide +kernel
theorem dX6_suits_32 : decode cX6_suits 32 = .ok (.iconst 0, 1) := by decide +kernel
theorem dX6_suits_33 : decode cX6_suits 33 = .ok (.ireturn, 1) := by decide +kernel
