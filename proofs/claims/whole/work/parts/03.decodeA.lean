theorem d_D_init_0 : decode m_D_init.2.1 0 = .ok (.aload_n 0, 1) := by decide +kernel
theorem d_D_init_1 : decode m_D_init.2.1 1 = .ok (.invokespecial 1, 3) := by decide +kernel
theorem d_D_init_4 : decode m_D_init.2.1 4 = .ok (.aload_n 0, 1) := by decide +kernel
theorem d_D_init_5 : decode m_D_init.2.1 5 = .ok (.bipush 40, 2) := by decide +kernel
theorem d_D_init_7 : decode m_D_init.2.1 7 = .ok (.anewarray 9, 3) := by decide +kernel
theorem d_D_init_10 : decode m_D_init.2.1 10 = .ok (.putfield 11, 3) := by decide +kernel
theorem d_D_init_13 : decode m_D_init.2.1 13 = .ok (.aload_n 0, 1) := by decide +kernel
theorem d_D_init_14 : decode m_D_init.2.1 14 = .ok (.iconst 0, 1) := by decide +kernel
theorem d_D_init_15 : decode m_D_init.2.1 15 = .ok (.putfield 15, 3) := by decide +kernel
theorem d_D_init_18 : decode m_D_init.2.1 18 = .ok (.aload_n 0, 1) := by decide +kernel
theorem d_D_init_19 : decode m_D_init.2.1 19 = .ok (.bipush 10, 2) := by decide +kernel
theorem d_D_init_21 : decode m_D_init.2.1 21 = .ok (.anewarray 19, 3) := by decide +kernel
theorem d_D_init_24 : decode m_D_init.2.1 24 = .ok (.putfield 21, 3) := by decide +kernel
theorem d_D_init_27 : decode m_D_init.2.1 27 = .ok (.aload_n 0, 1) := by decide +kernel
theorem d_D_init_28 : decode m_D_init.2.1 28 = .ok (.iconst 0, 1) := by decide +kernel
theorem d_D_init_29 : decode m_D_init.2.1 29 = .ok (.putfield 25, 3) := by decide +kernel
theorem d_D_init_32 : decode m_D_init.2.1 32 = .ok (.aload_n 0, 1) := by decide +kernel
theorem d_D_init_33 : decode m_D_init.2.1 33 = .ok (.new 28, 3) := by decide +kernel
theorem d_D_init_36 : decode m_D_init.2.1 36 = .ok (.dup, 1) := by decide +kernel
theorem d_D_init_37 : decode m_D_init.2.1 37 = .ok (.invokespecial 30, 3) := by decide +kernel
theorem d_D_init_40 : decode m_D_init.2.1 40 = .ok (.putfield 31, 3) := by decide +kernel
theorem d_D_init_43 : decode m_D_init.2.1 43 = .ok (.aload_n 0, 1) := by decide +kernel
theorem d_D_init_44 : decode m_D_init.2.1 44 = .ok (.iconst 4, 1) := by decide +kernel
theorem d_D_init_45 : decode m_D_init.2.1 45 = .ok (.anewarray 35, 3) := by decide +kernel
theorem d_D_init_48 : decode m_D_init.2.1 48 = .ok (.putfield 37, 3) := by decide +kernel
theorem d_D_init_51 : decode m_D_init.2.1 51 = .ok (.aload_n 0, 1) := by decide +kernel
theorem d_D_init_52 : decode m_D_init.2.1 52 = .ok (.bipush 24, 2) := by decide +kernel
theorem d_D_init_54 : decode m_D_init.2.1 54 = .ok (.newarray .int, 2) := by decide +kernel
theorem d_D_init_56 : decode m_D_init.2.1 56 = .ok (.putfield 41, 3) := by decide +kernel
theorem d_D_init_59 : decode m_D_init.2.1 59 = .ok (.aload_n 0, 1) := by decide +kernel
theorem d_D_init_60 : decode m_D_init.2.1 60 = .ok (.iconst 0, 1) := by decide +kernel
theorem d_D_init_61 : decode m_D_init.2.1 61 = .ok (.putfield 45, 3) := by decide +kernel
theorem d_D_init_64 : decode m_D_init.2.1 64 = .ok (.aload_n 0, 1) := by decide +kernel
theorem d_D_init_65 : decode m_D_init.2.1 65 = .ok (.iconst 0, 1) := by decide +kernel
theorem d_D_init_66 : decode m_D_init.2.1 66 = .ok (.putfield 48, 3) := by decide +kernel
theorem d_D_init_69 : decode m_D_init.2.1 69 = .ok (.aload_n 0, 1) := by decide +kernel
theorem d_D_init_70 : decode m_D_init.2.1 70 = .ok (.iconst 0, 1) := by decide +kernel
theorem d_D_init_71 : decode m_D_init.2.1 71 = .ok (.putfield 51, 3) := by decide +kernel
theorem d_D_init_74 : decode m_D_init.2.1 74 = .ok (.aload_n 0, 1) := by decide +kernel
theorem d_D_init_75 : decode m_D_init.2.1 75 = .ok (.iconst 0, 1) := by decide +kernel
theorem d_D_init_76 : decode m_D_init.2.1 76 = .ok (.putfield 54, 3) := by decide +kernel
theorem d_D_init_79 : decode m_D_init.2.1 79 = .ok (.aload_n 0, 1) := by decide +kernel
theorem d_D_init_80 : decode m_D_init.2.1 80 = .ok (.aconst_null, 1) := by decide +kernel
theorem d_D_init_81 : decode m_D_init.2.1 81 = .ok (.putfield 57, 3) := by decide +kernel
theorem d_D_init_84 : decode m_D_init.2.1 84 = .ok (.aload_n 0, 1) := by decide +kernel
theorem d_D_init_85 : decode m_D_init.2.1 85 = .ok (.iconst 0, 1) := by decide +kernel
theorem d_D_init_86 : decode m_D_init.2.1 86 = .ok (.putfield 61, 3) := by decide +kernel
theorem d_D_init_89 : decode m_D_init.2.1 89 = .ok (.iconst 0, 1) := by decide +kernel
theorem d_D_init_90 : decode m_D_init.2.1 90 = .ok (.istore_n 1, 1) := by decide +kernel
theorem d_D_init_91 : decode m_D_init.2.1 91 = .ok (.iload_n 1, 1) := by decide +kernel
theorem d_D_init_92 : decode m_D_init.2.1 92 = .ok (.iconst 4, 1) := by decide +kernel
theorem d_D_init_93 : decode m_D_init.2.1 93 = .ok (.if_icmp .ge 22, 3) := by decide +kernel
theorem d_D_init_96 : decode m_D_init.2.1 96 = .ok (.aload_n 0, 1) := by decide +kernel
theorem d_D_init_97 : decode m_D_init.2.1 97 = .ok (.getfield 37, 3) := by decide +kernel
theorem d_D_init_100 : decode m_D_init.2.1 100 = .ok (.iload_n 1, 1) := by decide +kernel
theorem d_D_init_101 : decode m_D_init.2.1 101 = .ok (.new 35, 3) := by decide +kernel
theorem d_D_init_104 : decode m_D_init.2.1 104 = .ok (.dup, 1) := by decide +kernel
theorem d_D_init_105 : decode m_D_init.2.1 105 = .ok (.invokespecial 64, 3) := by decide +kernel
theorem d_D_init_108 : decode m_D_init.2.1 108 = .ok (.aastore, 1) := by decide +kernel
theorem d_D_init_109 : decode m_D_init.2.1 109 = .ok (.iinc 1 1, 3) := by decide +kernel
theorem d_D_init_112 : decode m_D_init.2.1 112 = .ok (.goto (-21), 3) := by decide +kernel
theorem d_D_init_115 : decode m_D_init.2.1 115 = .ok (.return_, 1) := by decide +kernel
theorem d_D_effect_0 : decode m_D_effect.2.1 0 = .ok (.aload_n 0, 1) := by decide +kernel
theorem d_D_effect_1 : decode m_D_effect.2.1 1 = .ok (.iload_n 1, 1) := by decide +kernel
theorem d_D_effect_2 : decode m_D_effect.2.1 2 = .ok (.iload_n 2, 1) := by decide +kernel
theorem d_D_effect_3 : decode m_D_effect.2.1 3 = .ok (.iload_n 3, 1) := by decide +kernel
theorem d_D_effect_4 : decode m_D_effect.2.1 4 = .ok (.iload 4, 2) := by decide +kernel
theorem d_D_effect_6 : decode m_D_effect.2.1 6 = .ok (.invokevirtual 65, 3) := by decide +kernel
theorem d_D_effect_9 : decode m_D_effect.2.1 9 = .ok (.ifCond .ne 5, 3) := by decide +kernel
theorem d_D_effect_12 : decode m_D_effect.2.1 12 = .ok (.iconst (-1), 1) := by decide +kernel
theorem d_D_effect_13 : decode m_D_effect.2.1 13 = .ok (.ireturn, 1) := by decide +kernel
theorem d_D_effect_14 : decode m_D_effect.2.1 14 = .ok (.aload_n 0, 1) := by decide +kernel
theorem d_D_effect_15 : decode m_D_effect.2.1 15 = .ok (.getfield 15, 3) := by decide +kernel
theorem d_D_effect_18 : decode m_D_effect.2.1 18 = .ok (.bipush 40, 2) := by decide +kernel
theorem d_D_effect_20 : decode m_D_effect.2.1 20 = .ok (.if_icmp .lt 6, 3) := by decide +kernel
theorem d_D_effect_23 : decode m_D_effect.2.1 23 = .ok (.bipush (-2), 2) := by decide +kernel
theorem d_D_effect_25 : decode m_D_effect.2.1 25 = .ok (.ireturn, 1) := by decide +kernel
theorem d_D_effect_26 : decode m_D_effect.2.1 26 = .ok (.aload_n 0, 1) := by decide +kernel
theorem d_D_effect_27 : decode m_D_effect.2.1 27 = .ok (.getfield 15, 3) := by decide +kernel
theorem d_D_effect_30 : decode m_D_effect.2.1 30 = .ok (.istore 5, 2) := by decide +kernel
theorem d_D_effect_32 : decode m_D_effect.2.1 32 = .ok (.aload_n 0, 1) := by decide +kernel
theorem d_D_effect_33 : decode m_D_effect.2.1 33 = .ok (.getfield 11, 3) := by decide +kernel
theorem d_D_effect_36 : decode m_D_effect.2.1 36 = .ok (.iload 5, 2) := by decide +kernel
theorem d_D_effect_38 : decode m_D_effect.2.1 38 = .ok (.new 9, 3) := by decide +kernel
theorem d_D_effect_41 : decode m_D_effect.2.1 41 = .ok (.dup, 1) := by decide +kernel
theorem d_D_effect_42 : decode m_D_effect.2.1 42 = .ok (.iload_n 1, 1) := by decide +kernel
theorem d_D_effect_43 : decode m_D_effect.2.1 43 = .ok (.iload_n 2, 1) := by decide +kernel
theorem d_D_effect_44 : decode m_D_effect.2.1 44 = .ok (.aload_n 0, 1) := by decide +kernel
theorem d_D_effect_45 : decode m_D_effect.2.1 45 = .ok (.iload_n 2, 1) := by decide +kernel
theorem d_D_effect_46 : decode m_D_effect.2.1 46 = .ok (.invokevirtual 69, 3) := by decide +kernel
theorem d_D_effect_49 : decode m_D_effect.2.1 49 = .ok (.aload_n 0, 1) := by decide +kernel
theorem d_D_effect_50 : decode m_D_effect.2.1 50 = .ok (.iload_n 3, 1) := by decide +kernel
theorem d_D_effect_51 : decode m_D_effect.2.1 51 = .ok (.invokevirtual 69, 3) := by decide +kernel
theorem d_D_effect_54 : decode m_D_effect.2.1 54 = .ok (.aload_n 0, 1) := by decide +kernel
theorem d_D_effect_55 : decode m_D_effect.2.1 55 = .ok (.iload 4, 2) := by decide +kernel
theorem d_D_effect_57 : decode m_D_effect.2.1 57 = .ok (.invokevirtual 69, 3) := by decide +kernel
theorem d_D_effect_60 : decode m_D_effect.2.1 60 = .ok (.invokespecial 73, 3) := by decide +kernel
theorem d_D_effect_63 : decode m_D_effect.2.1 63 = .ok (.aastore, 1) := by decide +kernel
theorem d_D_effect_64 : decode m_D_effect.2.1 64 = .ok (.aload_n 0, 1) := by decide +kernel
theorem d_D_effect_65 : decode m_D_effect.2.1 65 = .ok (.dup, 1) := by decide +kernel
theorem d_D_effect_66 : decode m_D_effect.2.1 66 = .ok (.getfield 15, 3) := by decide +kernel
theorem d_D_effect_69 : decode m_D_effect.2.1 69 = .ok (.iconst 1, 1) := by decide +kernel
theorem d_D_effect_70 : decode m_D_effect.2.1 70 = .ok (.iadd, 1) := by decide +kernel
theorem d_D_effect_71 : decode m_D_effect.2.1 71 = .ok (.putfield 15, 3) := by decide +kernel
theorem d_D_effect_74 : decode m_D_effect.2.1 74 = .ok (.iload 5, 2) := by decide +kernel
theorem d_D_effect_76 : decode m_D_effect.2.1 76 = .ok (.ireturn, 1) := by decide +kernel
theorem d_D_start_0 : decode m_D_start.2.1 0 = .ok (.aload_n 0, 1) := by decide +kernel
theorem d_D_start_1 : decode m_D_start.2.1 1 = .ok (.iload_n 1, 1) := by decide +kernel
theorem d_D_start_2 : decode m_D_start.2.1 2 = .ok (.invokevirtual 69, 3) := by decide +kernel
theorem d_D_start_5 : decode m_D_start.2.1 5 = .ok (.astore_n 3, 1) := by decide +kernel
theorem d_D_start_6 : decode m_D_start.2.1 6 = .ok (.aload_n 3, 1) := by decide +kernel
theorem d_D_start_7 : decode m_D_start.2.1 7 = .ok (.ifnonnull 5, 3) := by decide +kernel
theorem d_D_start_10 : decode m_D_start.2.1 10 = .ok (.iconst 0, 1) := by decide +kernel
theorem d_D_start_11 : decode m_D_start.2.1 11 = .ok (.ireturn, 1) := by decide +kernel
theorem d_D_start_12 : decode m_D_start.2.1 12 = .ok (.aload_n 0, 1) := by decide +kernel
theorem d_D_start_13 : decode m_D_start.2.1 13 = .ok (.invokevirtual 76, 3) := by decide +kernel
theorem d_D_start_16 : decode m_D_start.2.1 16 = .ok (.aload_n 0, 1) := by decide +kernel
theorem d_D_start_17 : decode m_D_start.2.1 17 = .ok (.aload_n 3, 1) := by decide +kernel
theorem d_D_start_18 : decode m_D_start.2.1 18 = .ok (.iload_n 2, 1) := by decide +kernel
theorem d_D_start_19 : decode m_D_start.2.1 19 = .ok (.iconst (-1), 1) := by decide +kernel
theorem d_D_start_20 : decode m_D_start.2.1 20 = .ok (.invokevirtual 79, 3) := by decide +kernel
theorem d_D_start_23 : decode m_D_start.2.1 23 = .ok (.iconst 1, 1) := by decide +kernel
theorem d_D_start_24 : decode m_D_start.2.1 24 = .ok (.ireturn, 1) := by decide +kernel
theorem d_D_run_0 : decode m_D_run.2.1 0 = .ok (.iload_n 1, 1) := by decide +kernel
theorem d_D_run_1 : decode m_D_run.2.1 1 = .ok (.iconst 1, 1) := by decide +kernel
theorem d_D_run_2 : decode m_D_run.2.1 2 = .ok (.if_icmp .lt 16, 3) := by decide +kernel
theorem d_D_run_5 : decode m_D_run.2.1 5 = .ok (.iload_n 1, 1) := by decide +kernel
theorem d_D_run_6 : decode m_D_run.2.1 6 = .ok (.bipush 20, 2) := by decide +kernel
theorem d_D_run_8 : decode m_D_run.2.1 8 = .ok (.if_icmp .gt 10, 3) := by decide +kernel
theorem d_D_run_11 : decode m_D_run.2.1 11 = .ok (.aload_n 0, 1) := by decide +kernel
theorem d_D_run_12 : decode m_D_run.2.1 12 = .ok (.getfield 25, 3) := by decide +kernel
theorem d_D_run_15 : decode m_D_run.2.1 15 = .ok (.ifCond .ne 5, 3) := by decide +kernel
theorem d_D_run_18 : decode m_D_run.2.1 18 = .ok (.iconst (-1), 1) := by decide +kernel
theorem d_D_run_19 : decode m_D_run.2.1 19 = .ok (.ireturn, 1) := by decide +kernel
theorem d_D_run_20 : decode m_D_run.2.1 20 = .ok (.iconst 0, 1) := by decide +kernel
theorem d_D_run_21 : decode m_D_run.2.1 21 = .ok (.istore_n 2, 1) := by decide +kernel
theorem d_D_run_22 : decode m_D_run.2.1 22 = .ok (.iload_n 2, 1) := by decide +kernel
theorem d_D_run_23 : decode m_D_run.2.1 23 = .ok (.iload_n 1, 1) := by decide +kernel
theorem d_D_run_24 : decode m_D_run.2.1 24 = .ok (.if_icmp .ge 20, 3) := by decide +kernel
theorem d_D_run_27 : decode m_D_run.2.1 27 = .ok (.aload_n 0, 1) := by decide +kernel
theorem d_D_run_28 : decode m_D_run.2.1 28 = .ok (.invokevirtual 83, 3) := by decide +kernel
theorem d_D_run_31 : decode m_D_run.2.1 31 = .ok (.ifCond .eq 13, 3) := by decide +kernel
theorem d_D_run_34 : decode m_D_run.2.1 34 = .ok (.aload_n 0, 1) := by decide +kernel
theorem d_D_run_35 : decode m_D_run.2.1 35 = .ok (.invokevirtual 87, 3) := by decide +kernel
theorem d_D_run_38 : decode m_D_run.2.1 38 = .ok (.iinc 2 1, 3) := by decide +kernel
theorem d_D_run_41 : decode m_D_run.2.1 41 = .ok (.goto (-19), 3) := by decide +kernel
theorem d_D_run_44 : decode m_D_run.2.1 44 = .ok (.aload_n 0, 1) := by decide +kernel
theorem d_D_run_45 : decode m_D_run.2.1 45 = .ok (.invokevirtual 90, 3) := by decide +kernel
theorem d_D_run_48 : decode m_D_run.2.1 48 = .ok (.ireturn, 1) := by decide +kernel
theorem d_D_interrupt_0 : decode m_D_interrupt.2.1 0 = .ok (.aload_n 0, 1) := by decide +kernel
theorem d_D_interrupt_1 : decode m_D_interrupt.2.1 1 = .ok (.iload_n 1, 1) := by decide +kernel
theorem d_D_interrupt_2 : decode m_D_interrupt.2.1 2 = .ok (.invokevirtual 94, 3) := by decide +kernel
theorem d_D_interrupt_5 : decode m_D_interrupt.2.1 5 = .ok (.astore_n 2, 1) := by decide +kernel
theorem d_D_interrupt_6 : decode m_D_interrupt.2.1 6 = .ok (.aload_n 2, 1) := by decide +kernel
theorem d_D_interrupt_7 : decode m_D_interrupt.2.1 7 = .ok (.ifnull 10, 3) := by decide +kernel
theorem d_D_interrupt_10 : decode m_D_interrupt.2.1 10 = .ok (.aload_n 2, 1) := by decide +kernel
theorem d_D_interrupt_11 : decode m_D_interrupt.2.1 11 = .ok (.getfield 98, 3) := by decide +kernel
theorem d_D_interrupt_14 : decode m_D_interrupt.2.1 14 = .ok (.ifCond .eq 5, 3) := by decide +kernel
theorem d_D_interrupt_17 : decode m_D_interrupt.2.1 17 = .ok (.iconst 0, 1) := by decide +kernel
theorem d_D_interrupt_18 : decode m_D_interrupt.2.1 18 = .ok (.ireturn, 1) := by decide +kernel
theorem d_D_interrupt_19 : decode m_D_interrupt.2.1 19 = .ok (.aload_n 0, 1) := by decide +kernel
theorem d_D_interrupt_20 : decode m_D_interrupt.2.1 20 = .ok (.aload_n 2, 1) := by decide +kernel
theorem d_D_interrupt_21 : decode m_D_interrupt.2.1 21 = .ok (.iconst (-1), 1) := by decide +kernel
theorem d_D_interrupt_22 : decode m_D_interrupt.2.1 22 = .ok (.invokevirtual 102, 3) := by decide +kernel
theorem d_D_interrupt_25 : decode m_D_interrupt.2.1 25 = .ok (.iconst 1, 1) := by decide +kernel
theorem d_D_interrupt_26 : decode m_D_interrupt.2.1 26 = .ok (.ireturn, 1) := by decide +kernel
theorem d_D_keep_0 : decode m_D_keep.2.1 0 = .ok (.aload_n 0, 1) := by decide +kernel
theorem d_D_keep_1 : decode m_D_keep.2.1 1 = .ok (.iload_n 1, 1) := by decide +kernel
theorem d_D_keep_2 : decode m_D_keep.2.1 2 = .ok (.invokevirtual 106, 3) := by decide +kernel
theorem d_D_keep_5 : decode m_D_keep.2.1 5 = .ok (.astore_n 3, 1) := by decide +kernel
theorem d_D_keep_6 : decode m_D_keep.2.1 6 = .ok (.aload_n 0, 1) := by decide +kernel
theorem d_D_keep_7 : decode m_D_keep.2.1 7 = .ok (.getfield 25, 3) := by decide +kernel
theorem d_D_keep_10 : decode m_D_keep.2.1 10 = .ok (.ifCond .le 20, 3) := by decide +kernel
theorem d_D_keep_13 : decode m_D_keep.2.1 13 = .ok (.aload_n 3, 1) := by decide +kernel
theorem d_D_keep_14 : decode m_D_keep.2.1 14 = .ok (.ifnull 16, 3) := by decide +kernel
theorem d_D_keep_17 : decode m_D_keep.2.1 17 = .ok (.aload_n 0, 1) := by decide +kernel
theorem d_D_keep_18 : decode m_D_keep.2.1 18 = .ok (.aload_n 3, 1) := by decide +kernel
theorem d_D_keep_19 : decode m_D_keep.2.1 19 = .ok (.iload_n 2, 1) := by decide +kernel
theorem d_D_keep_20 : decode m_D_keep.2.1 20 = .ok (.invokevirtual 110, 3) := by decide +kernel
theorem d_D_keep_23 : decode m_D_keep.2.1 23 = .ok (.ifCond .eq 7, 3) := by decide +kernel
theorem d_D_keep_26 : decode m_D_keep.2.1 26 = .ok (.iconst 1, 1) := by decide +kernel
theorem d_D_keep_27 : decode m_D_keep.2.1 27 = .ok (.goto 4, 3) := by decide +kernel
theorem d_D_keep_30 : decode m_D_keep.2.1 30 = .ok (.iconst 0, 1) := by decide +kernel
theorem d_D_keep_31 : decode m_D_keep.2.1 31 = .ok (.ireturn, 1) := by decide +kernel
theorem d_D_fiber_0 : decode m_D_fiber.2.1 0 = .ok (.aload_n 0, 1) := by decide +kernel
theorem d_D_fiber_1 : decode m_D_fiber.2.1 1 = .ok (.iload_n 1, 1) := by decide +kernel
theorem d_D_fiber_2 : decode m_D_fiber.2.1 2 = .ok (.invokevirtual 94, 3) := by decide +kernel
theorem d_D_fiber_5 : decode m_D_fiber.2.1 5 = .ok (.astore_n 3, 1) := by decide +kernel
theorem d_D_fiber_6 : decode m_D_fiber.2.1 6 = .ok (.aload_n 3, 1) := by decide +kernel
theorem d_D_fiber_7 : decode m_D_fiber.2.1 7 = .ok (.ifnonnull 5, 3) := by decide +kernel
theorem d_D_fiber_10 : decode m_D_fiber.2.1 10 = .ok (.iconst (-1), 1) := by decide +kernel
theorem d_D_fiber_11 : decode m_D_fiber.2.1 11 = .ok (.ireturn, 1) := by decide +kernel
theorem d_D_fiber_12 : decode m_D_fiber.2.1 12 = .ok (.iload_n 2, 1) := by decide +kernel
theorem d_D_fiber_13 : decode m_D_fiber.2.1 13 = .ok (.tableswitch 107 0 7 #[47, 52, 65, 70, 75, 80, 97, 102], 47) := by decide +kernel
theorem d_D_fiber_60 : decode m_D_fiber.2.1 60 = .ok (.aload_n 3, 1) := by decide +kernel
theorem d_D_fiber_61 : decode m_D_fiber.2.1 61 = .ok (.invokevirtual 114, 3) := by decide +kernel
theorem d_D_fiber_64 : decode m_D_fiber.2.1 64 = .ok (.ireturn, 1) := by decide +kernel
theorem d_D_fiber_65 : decode m_D_fiber.2.1 65 = .ok (.aload_n 3, 1) := by decide +kernel
theorem d_D_fiber_66 : decode m_D_fiber.2.1 66 = .ok (.getfield 117, 3) := by decide +kernel
theorem d_D_fiber_69 : decode m_D_fiber.2.1 69 = .ok (.ifCond .eq 7, 3) := by decide +kernel
theorem d_D_fiber_72 : decode m_D_fiber.2.1 72 = .ok (.iconst 1, 1) := by decide +kernel
theorem d_D_fiber_73 : decode m_D_fiber.2.1 73 = .ok (.goto 4, 3) := by decide +kernel
theorem d_D_fiber_76 : decode m_D_fiber.2.1 76 = .ok (.iconst 0, 1) := by decide +kernel
theorem d_D_fiber_77 : decode m_D_fiber.2.1 77 = .ok (.ireturn, 1) := by decide +kernel
theorem d_D_fiber_78 : decode m_D_fiber.2.1 78 = .ok (.aload_n 3, 1) := by decide +kernel
theorem d_D_fiber_79 : decode m_D_fiber.2.1 79 = .ok (.getfield 120, 3) := by decide +kernel
theorem d_D_fiber_82 : decode m_D_fiber.2.1 82 = .ok (.ireturn, 1) := by decide +kernel
theorem d_D_fiber_83 : decode m_D_fiber.2.1 83 = .ok (.aload_n 3, 1) := by decide +kernel
theorem d_D_fiber_84 : decode m_D_fiber.2.1 84 = .ok (.getfield 123, 3) := by decide +kernel
theorem d_D_fiber_87 : decode m_D_fiber.2.1 87 = .ok (.ireturn, 1) := by decide +kernel
theorem d_D_fiber_88 : decode m_D_fiber.2.1 88 = .ok (.aload_n 3, 1) := by decide +kernel
theorem d_D_fiber_89 : decode m_D_fiber.2.1 89 = .ok (.getfield 126, 3) := by decide +kernel
theorem d_D_fiber_92 : decode m_D_fiber.2.1 92 = .ok (.ireturn, 1) := by decide +kernel
theorem d_D_fiber_93 : decode m_D_fiber.2.1 93 = .ok (.aload_n 3, 1) := by decide +kernel
theorem d_D_fiber_94 : decode m_D_fiber.2.1 94 = .ok (.invokevirtual 114, 3) := by decide +kernel
theorem d_D_fiber_97 : decode m_D_fiber.2.1 97 = .ok (.iconst 2, 1) := by decide +kernel
theorem d_D_fiber_98 : decode m_D_fiber.2.1 98 = .ok (.if_icmp .ne 10, 3) := by decide +kernel
theorem d_D_fiber_101 : decode m_D_fiber.2.1 101 = .ok (.aload_n 3, 1) := by decide +kernel
theorem d_D_fiber_102 : decode m_D_fiber.2.1 102 = .ok (.getfield 129, 3) := by decide +kernel
theorem d_D_fiber_105 : decode m_D_fiber.2.1 105 = .ok (.goto 4, 3) := by decide +kernel
theorem d_D_fiber_108 : decode m_D_fiber.2.1 108 = .ok (.iconst 0, 1) := by decide +kernel
theorem d_D_fiber_109 : decode m_D_fiber.2.1 109 = .ok (.ireturn, 1) := by decide +kernel
theorem d_D_fiber_110 : decode m_D_fiber.2.1 110 = .ok (.aload_n 3, 1) := by decide +kernel
theorem d_D_fiber_111 : decode m_D_fiber.2.1 111 = .ok (.getfield 132, 3) := by decide +kernel
theorem d_D_fiber_114 : decode m_D_fiber.2.1 114 = .ok (.ireturn, 1) := by decide +kernel
theorem d_D_fiber_115 : decode m_D_fiber.2.1 115 = .ok (.aload_n 3, 1) := by decide +kernel
theorem d_D_fiber_116 : decode m_D_fiber.2.1 116 = .ok (.getfield 133, 3) := by decide +kernel
theorem d_D_fiber_119 : decode m_D_fiber.2.1 119 = .ok (.ireturn, 1) := by decide +kernel
theorem d_D_fiber_120 : decode m_D_fiber.2.1 120 = .ok (.iconst (-1), 1) := by decide +kernel
theorem d_D_fiber_121 : decode m_D_fiber.2.1 121 = .ok (.ireturn, 1) := by decide +kernel
theorem d_D_cause_0 : decode m_D_cause.2.1 0 = .ok (.aload_n 0, 1) := by decide +kernel
theorem d_D_cause_1 : decode m_D_cause.2.1 1 = .ok (.iload_n 1, 1) := by decide +kernel
theorem d_D_cause_2 : decode m_D_cause.2.1 2 = .ok (.invokevirtual 94, 3) := by decide +kernel
theorem d_D_cause_5 : decode m_D_cause.2.1 5 = .ok (.astore 4, 2) := by decide +kernel
theorem d_D_cause_7 : decode m_D_cause.2.1 7 = .ok (.aload 4, 2) := by decide +kernel
theorem d_D_cause_9 : decode m_D_cause.2.1 9 = .ok (.ifnull 36, 3) := by decide +kernel
theorem d_D_cause_12 : decode m_D_cause.2.1 12 = .ok (.aload 4, 2) := by decide +kernel
theorem d_D_cause_14 : decode m_D_cause.2.1 14 = .ok (.getfield 98, 3) := by decide +kernel
theorem d_D_cause_17 : decode m_D_cause.2.1 17 = .ok (.ifCond .eq 28, 3) := by decide +kernel
theorem d_D_cause_20 : decode m_D_cause.2.1 20 = .ok (.aload 4, 2) := by decide +kernel
theorem d_D_cause_22 : decode m_D_cause.2.1 22 = .ok (.getfield 136, 3) := by decide +kernel
theorem d_D_cause_25 : decode m_D_cause.2.1 25 = .ok (.ifnull 20, 3) := by decide +kernel
theorem d_D_cause_28 : decode m_D_cause.2.1 28 = .ok (.iload_n 2, 1) := by decide +kernel
theorem d_D_cause_29 : decode m_D_cause.2.1 29 = .ok (.ifCond .lt 16, 3) := by decide +kernel
theorem d_D_cause_32 : decode m_D_cause.2.1 32 = .ok (.iload_n 2, 1) := by decide +kernel
theorem d_D_cause_33 : decode m_D_cause.2.1 33 = .ok (.aload 4, 2) := by decide +kernel
theorem d_D_cause_35 : decode m_D_cause.2.1 35 = .ok (.getfield 136, 3) := by decide +kernel
theorem d_D_cause_38 : decode m_D_cause.2.1 38 = .ok (.getfield 140, 3) := by decide +kernel
theorem d_D_cause_41 : decode m_D_cause.2.1 41 = .ok (.arraylength, 1) := by decide +kernel
theorem d_D_cause_42 : decode m_D_cause.2.1 42 = .ok (.if_icmp .lt 5, 3) := by decide +kernel
theorem d_D_cause_45 : decode m_D_cause.2.1 45 = .ok (.iconst (-1), 1) := by decide +kernel
theorem d_D_cause_46 : decode m_D_cause.2.1 46 = .ok (.ireturn, 1) := by decide +kernel
theorem d_D_cause_47 : decode m_D_cause.2.1 47 = .ok (.iload_n 3, 1) := by decide +kernel
theorem d_D_cause_48 : decode m_D_cause.2.1 48 = .ok (.lookupswitch 50 #[(0, 28), (1, 39)], 28) := by decide +kernel
theorem d_D_cause_76 : decode m_D_cause.2.1 76 = .ok (.aload 4, 2) := by decide +kernel
theorem d_D_cause_78 : decode m_D_cause.2.1 78 = .ok (.getfield 136, 3) := by decide +kernel
theorem d_D_cause_81 : decode m_D_cause.2.1 81 = .ok (.getfield 140, 3) := by decide +kernel
theorem d_D_cause_84 : decode m_D_cause.2.1 84 = .ok (.iload_n 2, 1) := by decide +kernel
theorem d_D_cause_85 : decode m_D_cause.2.1 85 = .ok (.iaload, 1) := by decide +kernel
theorem d_D_cause_86 : decode m_D_cause.2.1 86 = .ok (.ireturn, 1) := by decide +kernel
theorem d_D_cause_87 : decode m_D_cause.2.1 87 = .ok (.aload 4, 2) := by decide +kernel
theorem d_D_cause_89 : decode m_D_cause.2.1 89 = .ok (.getfield 136, 3) := by decide +kernel
theorem d_D_cause_92 : decode m_D_cause.2.1 92 = .ok (.getfield 145, 3) := by decide +kernel
theorem d_D_cause_95 : decode m_D_cause.2.1 95 = .ok (.iload_n 2, 1) := by decide +kernel
theorem d_D_cause_96 : decode m_D_cause.2.1 96 = .ok (.iaload, 1) := by decide +kernel
theorem d_D_cause_97 : decode m_D_cause.2.1 97 = .ok (.ireturn, 1) := by decide +kernel
theorem d_D_cause_98 : decode m_D_cause.2.1 98 = .ok (.iconst (-1), 1) := by decide +kernel
theorem d_D_cause_99 : decode m_D_cause.2.1 99 = .ok (.ireturn, 1) := by decide +kernel
theorem d_D_queued_0 : decode m_D_queued.2.1 0 = .ok (.iload_n 1, 1) := by decide +kernel
theorem d_D_queued_1 : decode m_D_queued.2.1 1 = .ok (.ifCond .lt 25, 3) := by decide +kernel
theorem d_D_queued_4 : decode m_D_queued.2.1 4 = .ok (.iload_n 1, 1) := by decide +kernel
theorem d_D_queued_5 : decode m_D_queued.2.1 5 = .ok (.aload_n 0, 1) := by decide +kernel
theorem d_D_queued_6 : decode m_D_queued.2.1 6 = .ok (.getfield 31, 3) := by decide +kernel
theorem d_D_queued_9 : decode m_D_queued.2.1 9 = .ok (.getfield 148, 3) := by decide +kernel
theorem d_D_queued_12 : decode m_D_queued.2.1 12 = .ok (.if_icmp .ge 14, 3) := by decide +kernel
theorem d_D_queued_15 : decode m_D_queued.2.1 15 = .ok (.aload_n 0, 1) := by decide +kernel
theorem d_D_queued_16 : decode m_D_queued.2.1 16 = .ok (.getfield 31, 3) := by decide +kernel
theorem d_D_queued_19 : decode m_D_queued.2.1 19 = .ok (.iload_n 1, 1) := by decide +kernel
theorem d_D_queued_20 : decode m_D_queued.2.1 20 = .ok (.invokevirtual 151, 3) := by decide +kernel
theorem d_D_queued_23 : decode m_D_queued.2.1 23 = .ok (.goto 4, 3) := by decide +kernel
theorem d_D_queued_26 : decode m_D_queued.2.1 26 = .ok (.iconst (-1), 1) := by decide +kernel
theorem d_D_queued_27 : decode m_D_queued.2.1 27 = .ok (.ireturn, 1) := by decide +kernel
theorem d_D_printed_0 : decode m_D_printed.2.1 0 = .ok (.iload_n 1, 1) := by decide +kernel
theorem d_D_printed_1 : decode m_D_printed.2.1 1 = .ok (.ifCond .lt 26, 3) := by decide +kernel
theorem d_D_printed_4 : decode m_D_printed.2.1 4 = .ok (.iload_n 1, 1) := by decide +kernel
theorem d_D_printed_5 : decode m_D_printed.2.1 5 = .ok (.aload_n 0, 1) := by decide +kernel
theorem d_D_printed_6 : decode m_D_printed.2.1 6 = .ok (.getfield 45, 3) := by decide +kernel
theorem d_D_printed_9 : decode m_D_printed.2.1 9 = .ok (.if_icmp .ge 18, 3) := by decide +kernel
theorem d_D_printed_12 : decode m_D_printed.2.1 12 = .ok (.iload_n 1, 1) := by decide +kernel
theorem d_D_printed_13 : decode m_D_printed.2.1 13 = .ok (.bipush 24, 2) := by decide +kernel
theorem d_D_printed_15 : decode m_D_printed.2.1 15 = .ok (.if_icmp .ge 12, 3) := by decide +kernel
theorem d_D_printed_18 : decode m_D_printed.2.1 18 = .ok (.aload_n 0, 1) := by decide +kernel
theorem d_D_printed_19 : decode m_D_printed.2.1 19 = .ok (.getfield 41, 3) := by decide +kernel
theorem d_D_printed_22 : decode m_D_printed.2.1 22 = .ok (.iload_n 1, 1) := by decide +kernel
theorem d_D_printed_23 : decode m_D_printed.2.1 23 = .ok (.iaload, 1) := by decide +kernel
theorem d_D_printed_24 : decode m_D_printed.2.1 24 = .ok (.goto 4, 3) := by decide +kernel
theorem d_D_printed_27 : decode m_D_printed.2.1 27 = .ok (.iconst 0, 1) := by decide +kernel
theorem d_D_printed_28 : decode m_D_printed.2.1 28 = .ok (.ireturn, 1) := by decide +kernel
theorem d_D_cell_0 : decode m_D_cell.2.1 0 = .ok (.aload_n 0, 1) := by decide +kernel
theorem d_D_cell_1 : decode m_D_cell.2.1 1 = .ok (.iload_n 1, 1) := by decide +kernel
theorem d_D_cell_2 : decode m_D_cell.2.1 2 = .ok (.invokevirtual 106, 3) := by decide +kernel
theorem d_D_cell_5 : decode m_D_cell.2.1 5 = .ok (.astore_n 3, 1) := by decide +kernel
theorem d_D_cell_6 : decode m_D_cell.2.1 6 = .ok (.aload_n 3, 1) := by decide +kernel
theorem d_D_cell_7 : decode m_D_cell.2.1 7 = .ok (.ifnull 10, 3) := by decide +kernel
theorem d_D_cell_10 : decode m_D_cell.2.1 10 = .ok (.aload_n 0, 1) := by decide +kernel
theorem d_D_cell_11 : decode m_D_cell.2.1 11 = .ok (.getfield 25, 3) := by decide +kernel
theorem d_D_cell_14 : decode m_D_cell.2.1 14 = .ok (.ifCond .ne 5, 3) := by decide +kernel
theorem d_D_cell_17 : decode m_D_cell.2.1 17 = .ok (.iconst (-1), 1) := by decide +kernel
theorem d_D_cell_18 : decode m_D_cell.2.1 18 = .ok (.ireturn, 1) := by decide +kernel
theorem d_D_cell_19 : decode m_D_cell.2.1 19 = .ok (.iload_n 2, 1) := by decide +kernel
theorem d_D_cell_20 : decode m_D_cell.2.1 20 = .ok (.tableswitch 84 0 5 #[40, 45, 58, 63, 68, 76], 40) := by decide +kernel
theorem d_D_cell_60 : decode m_D_cell.2.1 60 = .ok (.aload_n 3, 1) := by decide +kernel
theorem d_D_cell_61 : decode m_D_cell.2.1 61 = .ok (.getfield 155, 3) := by decide +kernel
theorem d_D_cell_64 : decode m_D_cell.2.1 64 = .ok (.ireturn, 1) := by decide +kernel
theorem d_D_cell_65 : decode m_D_cell.2.1 65 = .ok (.aload_n 3, 1) := by decide +kernel
theorem d_D_cell_66 : decode m_D_cell.2.1 66 = .ok (.getfield 158, 3) := by decide +kernel
theorem d_D_cell_69 : decode m_D_cell.2.1 69 = .ok (.ifCond .eq 7, 3) := by decide +kernel
theorem d_D_cell_72 : decode m_D_cell.2.1 72 = .ok (.iconst 1, 1) := by decide +kernel
theorem d_D_cell_73 : decode m_D_cell.2.1 73 = .ok (.goto 4, 3) := by decide +kernel
theorem d_D_cell_76 : decode m_D_cell.2.1 76 = .ok (.iconst 0, 1) := by decide +kernel
theorem d_D_cell_77 : decode m_D_cell.2.1 77 = .ok (.ireturn, 1) := by decide +kernel
theorem d_D_cell_78 : decode m_D_cell.2.1 78 = .ok (.aload_n 3, 1) := by decide +kernel
theorem d_D_cell_79 : decode m_D_cell.2.1 79 = .ok (.getfield 161, 3) := by decide +kernel
theorem d_D_cell_82 : decode m_D_cell.2.1 82 = .ok (.ireturn, 1) := by decide +kernel
theorem d_D_cell_83 : decode m_D_cell.2.1 83 = .ok (.aload_n 3, 1) := by decide +kernel
theorem d_D_cell_84 : decode m_D_cell.2.1 84 = .ok (.getfield 164, 3) := by decide +kernel
theorem d_D_cell_87 : decode m_D_cell.2.1 87 = .ok (.ireturn, 1) := by decide +kernel
theorem d_D_cell_88 : decode m_D_cell.2.1 88 = .ok (.aload_n 3, 1) := by decide +kernel
theorem d_D_cell_89 : decode m_D_cell.2.1 89 = .ok (.getfield 167, 3) := by decide +kernel
theorem d_D_cell_92 : decode m_D_cell.2.1 92 = .ok (.getfield 148, 3) := by decide +kernel
theorem d_D_cell_95 : decode m_D_cell.2.1 95 = .ok (.ireturn, 1) := by decide +kernel
theorem d_D_cell_96 : decode m_D_cell.2.1 96 = .ok (.aload_n 3, 1) := by decide +kernel
theorem d_D_cell_97 : decode m_D_cell.2.1 97 = .ok (.getfield 170, 3) := by decide +kernel
theorem d_D_cell_100 : decode m_D_cell.2.1 100 = .ok (.getfield 148, 3) := by decide +kernel
theorem d_D_cell_103 : decode m_D_cell.2.1 103 = .ok (.ireturn, 1) := by decide +kernel
theorem d_D_cell_104 : decode m_D_cell.2.1 104 = .ok (.iconst (-1), 1) := by decide +kernel
theorem d_D_cell_105 : decode m_D_cell.2.1 105 = .ok (.ireturn, 1) := by decide +kernel
theorem d_D_count_0 : decode m_D_count.2.1 0 = .ok (.iload_n 1, 1) := by decide +kernel
theorem d_D_count_1 : decode m_D_count.2.1 1 = .ok (.tableswitch 112 0 7 #[47, 52, 57, 62, 67, 72, 77, 96], 47) := by decide +kernel
theorem d_D_count_48 : decode m_D_count.2.1 48 = .ok (.aload_n 0, 1) := by decide +kernel
theorem d_D_count_49 : decode m_D_count.2.1 49 = .ok (.getfield 15, 3) := by decide +kernel
theorem d_D_count_52 : decode m_D_count.2.1 52 = .ok (.ireturn, 1) := by decide +kernel
theorem d_D_count_53 : decode m_D_count.2.1 53 = .ok (.aload_n 0, 1) := by decide +kernel
theorem d_D_count_54 : decode m_D_count.2.1 54 = .ok (.getfield 25, 3) := by decide +kernel
theorem d_D_count_57 : decode m_D_count.2.1 57 = .ok (.ireturn, 1) := by decide +kernel
theorem d_D_count_58 : decode m_D_count.2.1 58 = .ok (.aload_n 0, 1) := by decide +kernel
theorem d_D_count_59 : decode m_D_count.2.1 59 = .ok (.getfield 48, 3) := by decide +kernel
theorem d_D_count_62 : decode m_D_count.2.1 62 = .ok (.ireturn, 1) := by decide +kernel
theorem d_D_count_63 : decode m_D_count.2.1 63 = .ok (.aload_n 0, 1) := by decide +kernel
theorem d_D_count_64 : decode m_D_count.2.1 64 = .ok (.getfield 51, 3) := by decide +kernel
theorem d_D_count_67 : decode m_D_count.2.1 67 = .ok (.ireturn, 1) := by decide +kernel
theorem d_D_count_68 : decode m_D_count.2.1 68 = .ok (.aload_n 0, 1) := by decide +kernel
theorem d_D_count_69 : decode m_D_count.2.1 69 = .ok (.getfield 45, 3) := by decide +kernel
theorem d_D_count_72 : decode m_D_count.2.1 72 = .ok (.ireturn, 1) := by decide +kernel
theorem d_D_count_73 : decode m_D_count.2.1 73 = .ok (.aload_n 0, 1) := by decide +kernel
theorem d_D_count_74 : decode m_D_count.2.1 74 = .ok (.getfield 54, 3) := by decide +kernel
theorem d_D_count_77 : decode m_D_count.2.1 77 = .ok (.ireturn, 1) := by decide +kernel
theorem d_D_count_78 : decode m_D_count.2.1 78 = .ok (.aload_n 0, 1) := by decide +kernel
theorem d_D_count_79 : decode m_D_count.2.1 79 = .ok (.getfield 57, 3) := by decide +kernel
theorem d_D_count_82 : decode m_D_count.2.1 82 = .ok (.ifnonnull 7, 3) := by decide +kernel
theorem d_D_count_85 : decode m_D_count.2.1 85 = .ok (.iconst (-1), 1) := by decide +kernel
theorem d_D_count_86 : decode m_D_count.2.1 86 = .ok (.goto 10, 3) := by decide +kernel
theorem d_D_count_89 : decode m_D_count.2.1 89 = .ok (.aload_n 0, 1) := by decide +kernel
theorem d_D_count_90 : decode m_D_count.2.1 90 = .ok (.getfield 57, 3) := by decide +kernel
theorem d_D_count_93 : decode m_D_count.2.1 93 = .ok (.getfield 173, 3) := by decide +kernel
theorem d_D_count_96 : decode m_D_count.2.1 96 = .ok (.ireturn, 1) := by decide +kernel
theorem d_D_count_97 : decode m_D_count.2.1 97 = .ok (.aload_n 0, 1) := by decide +kernel
theorem d_D_count_98 : decode m_D_count.2.1 98 = .ok (.getfield 25, 3) := by decide +kernel
theorem d_D_count_101 : decode m_D_count.2.1 101 = .ok (.ifCond .ne 7, 3) := by decide +kernel
theorem d_D_count_104 : decode m_D_count.2.1 104 = .ok (.iconst (-1), 1) := by decide +kernel
theorem d_D_count_105 : decode m_D_count.2.1 105 = .ok (.goto 7, 3) := by decide +kernel
theorem d_D_count_108 : decode m_D_count.2.1 108 = .ok (.aload_n 0, 1) := by decide +kernel
theorem d_D_count_109 : decode m_D_count.2.1 109 = .ok (.invokevirtual 90, 3) := by decide +kernel
theorem d_D_count_112 : decode m_D_count.2.1 112 = .ok (.ireturn, 1) := by decide +kernel
theorem d_D_count_113 : decode m_D_count.2.1 113 = .ok (.iconst (-1), 1) := by decide +kernel
theorem d_D_count_114 : decode m_D_count.2.1 114 = .ok (.ireturn, 1) := by decide +kernel
theorem d_D_isWellFormed_0 : decode m_D_isWellFormed.2.1 0 = .ok (.iload_n 1, 1) := by decide +kernel
theorem d_D_isWellFormed_1 : decode m_D_isWellFormed.2.1 1 = .ok (.ifCond .lt 11, 3) := by decide +kernel
theorem d_D_isWellFormed_4 : decode m_D_isWellFormed.2.1 4 = .ok (.iload_n 1, 1) := by decide +kernel
theorem d_D_isWellFormed_5 : decode m_D_isWellFormed.2.1 5 = .ok (.getstatic 176, 3) := by decide +kernel
theorem d_D_isWellFormed_8 : decode m_D_isWellFormed.2.1 8 = .ok (.arraylength, 1) := by decide +kernel
theorem d_D_isWellFormed_9 : decode m_D_isWellFormed.2.1 9 = .ok (.if_icmp .lt 5, 3) := by decide +kernel
theorem d_D_isWellFormed_12 : decode m_D_isWellFormed.2.1 12 = .ok (.iconst 0, 1) := by decide +kernel
theorem d_D_isWellFormed_13 : decode m_D_isWellFormed.2.1 13 = .ok (.ireturn, 1) := by decide +kernel
theorem d_D_isWellFormed_14 : decode m_D_isWellFormed.2.1 14 = .ok (.getstatic 176, 3) := by decide +kernel
theorem d_D_isWellFormed_17 : decode m_D_isWellFormed.2.1 17 = .ok (.iload_n 1, 1) := by decide +kernel
theorem d_D_isWellFormed_18 : decode m_D_isWellFormed.2.1 18 = .ok (.iaload, 1) := by decide +kernel
theorem d_D_isWellFormed_19 : decode m_D_isWellFormed.2.1 19 = .ok (.istore 5, 2) := by decide +kernel
theorem d_D_isWellFormed_21 : decode m_D_isWellFormed.2.1 21 = .ok (.iload 5, 2) := by decide +kernel
theorem d_D_isWellFormed_23 : decode m_D_isWellFormed.2.1 23 = .ok (.iconst 1, 1) := by decide +kernel
theorem d_D_isWellFormed_24 : decode m_D_isWellFormed.2.1 24 = .ok (.if_icmp .lt 11, 3) := by decide +kernel
theorem d_D_isWellFormed_27 : decode m_D_isWellFormed.2.1 27 = .ok (.aload_n 0, 1) := by decide +kernel
theorem d_D_isWellFormed_28 : decode m_D_isWellFormed.2.1 28 = .ok (.iload_n 2, 1) := by decide +kernel
theorem d_D_isWellFormed_29 : decode m_D_isWellFormed.2.1 29 = .ok (.invokevirtual 69, 3) := by decide +kernel
theorem d_D_isWellFormed_32 : decode m_D_isWellFormed.2.1 32 = .ok (.ifnull 51, 3) := by decide +kernel
theorem d_D_isWellFormed_35 : decode m_D_isWellFormed.2.1 35 = .ok (.iload 5, 2) := by decide +kernel
theorem d_D_isWellFormed_37 : decode m_D_isWellFormed.2.1 37 = .ok (.iconst 2, 1) := by decide +kernel
theorem d_D_isWellFormed_38 : decode m_D_isWellFormed.2.1 38 = .ok (.if_icmp .lt 11, 3) := by decide +kernel
theorem d_D_isWellFormed_41 : decode m_D_isWellFormed.2.1 41 = .ok (.aload_n 0, 1) := by decide +kernel
theorem d_D_isWellFormed_42 : decode m_D_isWellFormed.2.1 42 = .ok (.iload_n 3, 1) := by decide +kernel
theorem d_D_isWellFormed_43 : decode m_D_isWellFormed.2.1 43 = .ok (.invokevirtual 69, 3) := by decide +kernel
theorem d_D_isWellFormed_46 : decode m_D_isWellFormed.2.1 46 = .ok (.ifnull 37, 3) := by decide +kernel
theorem d_D_isWellFormed_49 : decode m_D_isWellFormed.2.1 49 = .ok (.iload 5, 2) := by decide +kernel
theorem d_D_isWellFormed_51 : decode m_D_isWellFormed.2.1 51 = .ok (.iconst 3, 1) := by decide +kernel
theorem d_D_isWellFormed_52 : decode m_D_isWellFormed.2.1 52 = .ok (.if_icmp .lt 12, 3) := by decide +kernel
theorem d_D_isWellFormed_55 : decode m_D_isWellFormed.2.1 55 = .ok (.aload_n 0, 1) := by decide +kernel
theorem d_D_isWellFormed_56 : decode m_D_isWellFormed.2.1 56 = .ok (.iload 4, 2) := by decide +kernel
theorem d_D_isWellFormed_58 : decode m_D_isWellFormed.2.1 58 = .ok (.invokevirtual 69, 3) := by decide +kernel
theorem d_D_isWellFormed_61 : decode m_D_isWellFormed.2.1 61 = .ok (.ifnull 22, 3) := by decide +kernel
theorem d_D_isWellFormed_64 : decode m_D_isWellFormed.2.1 64 = .ok (.iload_n 1, 1) := by decide +kernel
theorem d_D_isWellFormed_65 : decode m_D_isWellFormed.2.1 65 = .ok (.invokestatic 179, 3) := by decide +kernel
theorem d_D_isWellFormed_68 : decode m_D_isWellFormed.2.1 68 = .ok (.ifCond .eq 11, 3) := by decide +kernel
theorem d_D_isWellFormed_71 : decode m_D_isWellFormed.2.1 71 = .ok (.aload_n 0, 1) := by decide +kernel
theorem d_D_isWellFormed_72 : decode m_D_isWellFormed.2.1 72 = .ok (.iload_n 2, 1) := by decide +kernel
theorem d_D_isWellFormed_73 : decode m_D_isWellFormed.2.1 73 = .ok (.invokevirtual 106, 3) := by decide +kernel
theorem d_D_isWellFormed_76 : decode m_D_isWellFormed.2.1 76 = .ok (.ifnull 7, 3) := by decide +kernel
theorem d_D_isWellFormed_79 : decode m_D_isWellFormed.2.1 79 = .ok (.iconst 1, 1) := by decide +kernel
theorem d_D_isWellFormed_80 : decode m_D_isWellFormed.2.1 80 = .ok (.goto 4, 3) := by decide +kernel
theorem d_D_isWellFormed_83 : decode m_D_isWellFormed.2.1 83 = .ok (.iconst 0, 1) := by decide +kernel
theorem d_D_isWellFormed_84 : decode m_D_isWellFormed.2.1 84 = .ok (.ireturn, 1) := by decide +kernel
theorem d_D_isAtPlace_0 : decode m_D_isAtPlace.2.1 0 = .ok (.iload_n 0, 1) := by decide +kernel
theorem d_D_isAtPlace_1 : decode m_D_isAtPlace.2.1 1 = .ok (.bipush 19, 2) := by decide +kernel
theorem d_D_isAtPlace_3 : decode m_D_isAtPlace.2.1 3 = .ok (.if_icmp .lt 13, 3) := by decide +kernel
theorem d_D_isAtPlace_6 : decode m_D_isAtPlace.2.1 6 = .ok (.iload_n 0, 1) := by decide +kernel
theorem d_D_isAtPlace_7 : decode m_D_isAtPlace.2.1 7 = .ok (.bipush 24, 2) := by decide +kernel
theorem d_D_isAtPlace_9 : decode m_D_isAtPlace.2.1 9 = .ok (.if_icmp .gt 7, 3) := by decide +kernel
theorem d_D_isAtPlace_12 : decode m_D_isAtPlace.2.1 12 = .ok (.iconst 1, 1) := by decide +kernel
theorem d_D_isAtPlace_13 : decode m_D_isAtPlace.2.1 13 = .ok (.goto 4, 3) := by decide +kernel
theorem d_D_isAtPlace_16 : decode m_D_isAtPlace.2.1 16 = .ok (.iconst 0, 1) := by decide +kernel
theorem d_D_isAtPlace_17 : decode m_D_isAtPlace.2.1 17 = .ok (.ireturn, 1) := by decide +kernel
theorem d_D_effectAt_0 : decode m_D_effectAt.2.1 0 = .ok (.iload_n 1, 1) := by decide +kernel
theorem d_D_effectAt_1 : decode m_D_effectAt.2.1 1 = .ok (.ifCond .lt 20, 3) := by decide +kernel
theorem d_D_effectAt_4 : decode m_D_effectAt.2.1 4 = .ok (.iload_n 1, 1) := by decide +kernel
theorem d_D_effectAt_5 : decode m_D_effectAt.2.1 5 = .ok (.aload_n 0, 1) := by decide +kernel
theorem d_D_effectAt_6 : decode m_D_effectAt.2.1 6 = .ok (.getfield 15, 3) := by decide +kernel
theorem d_D_effectAt_9 : decode m_D_effectAt.2.1 9 = .ok (.if_icmp .ge 12, 3) := by decide +kernel
theorem d_D_effectAt_12 : decode m_D_effectAt.2.1 12 = .ok (.aload_n 0, 1) := by decide +kernel
theorem d_D_effectAt_13 : decode m_D_effectAt.2.1 13 = .ok (.getfield 11, 3) := by decide +kernel
theorem d_D_effectAt_16 : decode m_D_effectAt.2.1 16 = .ok (.iload_n 1, 1) := by decide +kernel
theorem d_D_effectAt_17 : decode m_D_effectAt.2.1 17 = .ok (.aaload, 1) := by decide +kernel
theorem d_D_effectAt_18 : decode m_D_effectAt.2.1 18 = .ok (.goto 4, 3) := by decide +kernel
theorem d_D_effectAt_21 : decode m_D_effectAt.2.1 21 = .ok (.aconst_null, 1) := by decide +kernel
theorem d_D_effectAt_22 : decode m_D_effectAt.2.1 22 = .ok (.areturn, 1) := by decide +kernel
theorem d_D_fiberAt_0 : decode m_D_fiberAt.2.1 0 = .ok (.iload_n 1, 1) := by decide +kernel
theorem d_D_fiberAt_1 : decode m_D_fiberAt.2.1 1 = .ok (.ifCond .lt 20, 3) := by decide +kernel
theorem d_D_fiberAt_4 : decode m_D_fiberAt.2.1 4 = .ok (.iload_n 1, 1) := by decide +kernel
theorem d_D_fiberAt_5 : decode m_D_fiberAt.2.1 5 = .ok (.aload_n 0, 1) := by decide +kernel
theorem d_D_fiberAt_6 : decode m_D_fiberAt.2.1 6 = .ok (.getfield 25, 3) := by decide +kernel
theorem d_D_fiberAt_9 : decode m_D_fiberAt.2.1 9 = .ok (.if_icmp .ge 12, 3) := by decide +kernel
theorem d_D_fiberAt_12 : decode m_D_fiberAt.2.1 12 = .ok (.aload_n 0, 1) := by decide +kernel
theorem d_D_fiberAt_13 : decode m_D_fiberAt.2.1 13 = .ok (.getfield 21, 3) := by decide +kernel
theorem d_D_fiberAt_16 : decode m_D_fiberAt.2.1 16 = .ok (.iload_n 1, 1) := by decide +kernel
theorem d_D_fiberAt_17 : decode m_D_fiberAt.2.1 17 = .ok (.aaload, 1) := by decide +kernel
theorem d_D_fiberAt_18 : decode m_D_fiberAt.2.1 18 = .ok (.goto 4, 3) := by decide +kernel
theorem d_D_fiberAt_21 : decode m_D_fiberAt.2.1 21 = .ok (.aconst_null, 1) := by decide +kernel
theorem d_D_fiberAt_22 : decode m_D_fiberAt.2.1 22 = .ok (.areturn, 1) := by decide +kernel
theorem d_D_placeAt_0 : decode m_D_placeAt.2.1 0 = .ok (.iload_n 1, 1) := by decide +kernel
theorem d_D_placeAt_1 : decode m_D_placeAt.2.1 1 = .ok (.ifCond .lt 17, 3) := by decide +kernel
theorem d_D_placeAt_4 : decode m_D_placeAt.2.1 4 = .ok (.iload_n 1, 1) := by decide +kernel
theorem d_D_placeAt_5 : decode m_D_placeAt.2.1 5 = .ok (.iconst 4, 1) := by decide +kernel
theorem d_D_placeAt_6 : decode m_D_placeAt.2.1 6 = .ok (.if_icmp .ge 12, 3) := by decide +kernel
theorem d_D_placeAt_9 : decode m_D_placeAt.2.1 9 = .ok (.aload_n 0, 1) := by decide +kernel
theorem d_D_placeAt_10 : decode m_D_placeAt.2.1 10 = .ok (.getfield 37, 3) := by decide +kernel
theorem d_D_placeAt_13 : decode m_D_placeAt.2.1 13 = .ok (.iload_n 1, 1) := by decide +kernel
theorem d_D_placeAt_14 : decode m_D_placeAt.2.1 14 = .ok (.aaload, 1) := by decide +kernel
theorem d_D_placeAt_15 : decode m_D_placeAt.2.1 15 = .ok (.goto 4, 3) := by decide +kernel
theorem d_D_placeAt_18 : decode m_D_placeAt.2.1 18 = .ok (.aconst_null, 1) := by decide +kernel
theorem d_D_placeAt_19 : decode m_D_placeAt.2.1 19 = .ok (.areturn, 1) := by decide +kernel
theorem d_D_standing_0 : decode m_D_standing.2.1 0 = .ok (.iconst 1, 1) := by decide +kernel
theorem d_D_standing_1 : decode m_D_standing.2.1 1 = .ok (.istore_n 1, 1) := by decide +kernel
theorem d_D_standing_2 : decode m_D_standing.2.1 2 = .ok (.iconst 0, 1) := by decide +kernel
theorem d_D_standing_3 : decode m_D_standing.2.1 3 = .ok (.istore_n 2, 1) := by decide +kernel
theorem d_D_standing_4 : decode m_D_standing.2.1 4 = .ok (.iload_n 2, 1) := by decide +kernel
theorem d_D_standing_5 : decode m_D_standing.2.1 5 = .ok (.aload_n 0, 1) := by decide +kernel
theorem d_D_standing_6 : decode m_D_standing.2.1 6 = .ok (.getfield 25, 3) := by decide +kernel
theorem d_D_standing_9 : decode m_D_standing.2.1 9 = .ok (.if_icmp .ge 48, 3) := by decide +kernel
theorem d_D_standing_12 : decode m_D_standing.2.1 12 = .ok (.aload_n 0, 1) := by decide +kernel
theorem d_D_standing_13 : decode m_D_standing.2.1 13 = .ok (.iload_n 2, 1) := by decide +kernel
theorem d_D_standing_14 : decode m_D_standing.2.1 14 = .ok (.invokevirtual 94, 3) := by decide +kernel
theorem d_D_standing_17 : decode m_D_standing.2.1 17 = .ok (.astore_n 3, 1) := by decide +kernel
theorem d_D_standing_18 : decode m_D_standing.2.1 18 = .ok (.aload_n 3, 1) := by decide +kernel
theorem d_D_standing_19 : decode m_D_standing.2.1 19 = .ok (.ifnull 32, 3) := by decide +kernel
theorem d_D_standing_22 : decode m_D_standing.2.1 22 = .ok (.aload_n 3, 1) := by decide +kernel
theorem d_D_standing_23 : decode m_D_standing.2.1 23 = .ok (.getfield 98, 3) := by decide +kernel
theorem d_D_standing_26 : decode m_D_standing.2.1 26 = .ok (.ifCond .eq 6, 3) := by decide +kernel
theorem d_D_standing_29 : decode m_D_standing.2.1 29 = .ok (.goto 22, 3) := by decide +kernel
theorem d_D_standing_32 : decode m_D_standing.2.1 32 = .ok (.aload_n 3, 1) := by decide +kernel
theorem d_D_standing_33 : decode m_D_standing.2.1 33 = .ok (.getfield 133, 3) := by decide +kernel
theorem d_D_standing_36 : decode m_D_standing.2.1 36 = .ok (.ifCond .eq 11, 3) := by decide +kernel
theorem d_D_standing_39 : decode m_D_standing.2.1 39 = .ok (.aload_n 3, 1) := by decide +kernel
theorem d_D_standing_40 : decode m_D_standing.2.1 40 = .ok (.getfield 133, 3) := by decide +kernel
theorem d_D_standing_43 : decode m_D_standing.2.1 43 = .ok (.iconst 4, 1) := by decide +kernel
theorem d_D_standing_44 : decode m_D_standing.2.1 44 = .ok (.if_icmp .ne 5, 3) := by decide +kernel
theorem d_D_standing_47 : decode m_D_standing.2.1 47 = .ok (.iconst 0, 1) := by decide +kernel
theorem d_D_standing_48 : decode m_D_standing.2.1 48 = .ok (.ireturn, 1) := by decide +kernel
theorem d_D_standing_49 : decode m_D_standing.2.1 49 = .ok (.iconst 2, 1) := by decide +kernel
theorem d_D_standing_50 : decode m_D_standing.2.1 50 = .ok (.istore_n 1, 1) := by decide +kernel
theorem d_D_standing_51 : decode m_D_standing.2.1 51 = .ok (.iinc 2 1, 3) := by decide +kernel
theorem d_D_standing_54 : decode m_D_standing.2.1 54 = .ok (.goto (-50), 3) := by decide +kernel
theorem d_D_standing_57 : decode m_D_standing.2.1 57 = .ok (.iload_n 1, 1) := by decide +kernel
theorem d_D_standing_58 : decode m_D_standing.2.1 58 = .ok (.ireturn, 1) := by decide +kernel
theorem d_D_clearAll_0 : decode m_D_clearAll.2.1 0 = .ok (.iconst 0, 1) := by decide +kernel
theorem d_D_clearAll_1 : decode m_D_clearAll.2.1 1 = .ok (.istore_n 1, 1) := by decide +kernel
theorem d_D_clearAll_2 : decode m_D_clearAll.2.1 2 = .ok (.iload_n 1, 1) := by decide +kernel
theorem d_D_clearAll_3 : decode m_D_clearAll.2.1 3 = .ok (.iconst 4, 1) := by decide +kernel
theorem d_D_clearAll_4 : decode m_D_clearAll.2.1 4 = .ok (.if_icmp .ge 23, 3) := by decide +kernel
theorem d_D_clearAll_7 : decode m_D_clearAll.2.1 7 = .ok (.aload_n 0, 1) := by decide +kernel
theorem d_D_clearAll_8 : decode m_D_clearAll.2.1 8 = .ok (.iload_n 1, 1) := by decide +kernel
theorem d_D_clearAll_9 : decode m_D_clearAll.2.1 9 = .ok (.invokevirtual 106, 3) := by decide +kernel
theorem d_D_clearAll_12 : decode m_D_clearAll.2.1 12 = .ok (.astore_n 2, 1) := by decide +kernel
theorem d_D_clearAll_13 : decode m_D_clearAll.2.1 13 = .ok (.aload_n 2, 1) := by decide +kernel
theorem d_D_clearAll_14 : decode m_D_clearAll.2.1 14 = .ok (.ifnull 7, 3) := by decide +kernel
theorem d_D_clearAll_17 : decode m_D_clearAll.2.1 17 = .ok (.aload_n 2, 1) := by decide +kernel
theorem d_D_clearAll_18 : decode m_D_clearAll.2.1 18 = .ok (.invokevirtual 183, 3) := by decide +kernel
theorem d_D_clearAll_21 : decode m_D_clearAll.2.1 21 = .ok (.iinc 1 1, 3) := by decide +kernel
theorem d_D_clearAll_24 : decode m_D_clearAll.2.1 24 = .ok (.goto (-22), 3) := by decide +kernel
theorem d_D_clearAll_27 : decode m_D_clearAll.2.1 27 = .ok (.aload_n 0, 1) := by decide +kernel
theorem d_D_clearAll_28 : decode m_D_clearAll.2.1 28 = .ok (.iconst 0, 1) := by decide +kernel
theorem d_D_clearAll_29 : decode m_D_clearAll.2.1 29 = .ok (.putfield 25, 3) := by decide +kernel
theorem d_D_clearAll_32 : decode m_D_clearAll.2.1 32 = .ok (.aload_n 0, 1) := by decide +kernel
theorem d_D_clearAll_33 : decode m_D_clearAll.2.1 33 = .ok (.getfield 31, 3) := by decide +kernel
theorem d_D_clearAll_36 : decode m_D_clearAll.2.1 36 = .ok (.invokevirtual 186, 3) := by decide +kernel
theorem d_D_clearAll_39 : decode m_D_clearAll.2.1 39 = .ok (.aload_n 0, 1) := by decide +kernel
theorem d_D_clearAll_40 : decode m_D_clearAll.2.1 40 = .ok (.iconst 0, 1) := by decide +kernel
theorem d_D_clearAll_41 : decode m_D_clearAll.2.1 41 = .ok (.putfield 45, 3) := by decide +kernel
theorem d_D_clearAll_44 : decode m_D_clearAll.2.1 44 = .ok (.aload_n 0, 1) := by decide +kernel
theorem d_D_clearAll_45 : decode m_D_clearAll.2.1 45 = .ok (.iconst 0, 1) := by decide +kernel
theorem d_D_clearAll_46 : decode m_D_clearAll.2.1 46 = .ok (.putfield 48, 3) := by decide +kernel
theorem d_D_clearAll_49 : decode m_D_clearAll.2.1 49 = .ok (.aload_n 0, 1) := by decide +kernel
theorem d_D_clearAll_50 : decode m_D_clearAll.2.1 50 = .ok (.iconst 0, 1) := by decide +kernel
theorem d_D_clearAll_51 : decode m_D_clearAll.2.1 51 = .ok (.putfield 51, 3) := by decide +kernel
theorem d_D_clearAll_54 : decode m_D_clearAll.2.1 54 = .ok (.aload_n 0, 1) := by decide +kernel
theorem d_D_clearAll_55 : decode m_D_clearAll.2.1 55 = .ok (.iconst 0, 1) := by decide +kernel
theorem d_D_clearAll_56 : decode m_D_clearAll.2.1 56 = .ok (.putfield 54, 3) := by decide +kernel
theorem d_D_clearAll_59 : decode m_D_clearAll.2.1 59 = .ok (.aload_n 0, 1) := by decide +kernel
theorem d_D_clearAll_60 : decode m_D_clearAll.2.1 60 = .ok (.aconst_null, 1) := by decide +kernel
theorem d_D_clearAll_61 : decode m_D_clearAll.2.1 61 = .ok (.putfield 57, 3) := by decide +kernel
theorem d_D_clearAll_64 : decode m_D_clearAll.2.1 64 = .ok (.return_, 1) := by decide +kernel
theorem d_D_hasTurn_0 : decode m_D_hasTurn.2.1 0 = .ok (.aload_n 0, 1) := by decide +kernel
theorem d_D_hasTurn_1 : decode m_D_hasTurn.2.1 1 = .ok (.getfield 57, 3) := by decide +kernel
theorem d_D_hasTurn_4 : decode m_D_hasTurn.2.1 4 = .ok (.ifnull 5, 3) := by decide +kernel
theorem d_D_hasTurn_7 : decode m_D_hasTurn.2.1 7 = .ok (.iconst 1, 1) := by decide +kernel
theorem d_D_hasTurn_8 : decode m_D_hasTurn.2.1 8 = .ok (.ireturn, 1) := by decide +kernel
theorem d_D_hasTurn_9 : decode m_D_hasTurn.2.1 9 = .ok (.aload_n 0, 1) := by decide +kernel
theorem d_D_hasTurn_10 : decode m_D_hasTurn.2.1 10 = .ok (.getfield 31, 3) := by decide +kernel
theorem d_D_hasTurn_13 : decode m_D_hasTurn.2.1 13 = .ok (.getfield 148, 3) := by decide +kernel
theorem d_D_hasTurn_16 : decode m_D_hasTurn.2.1 16 = .ok (.ifCond .ne 7, 3) := by decide +kernel
theorem d_D_hasTurn_19 : decode m_D_hasTurn.2.1 19 = .ok (.aload_n 0, 1) := by decide +kernel
theorem d_D_hasTurn_20 : decode m_D_hasTurn.2.1 20 = .ok (.invokevirtual 187, 3) := by decide +kernel
theorem d_D_hasTurn_23 : decode m_D_hasTurn.2.1 23 = .ok (.aload_n 0, 1) := by decide +kernel
theorem d_D_hasTurn_24 : decode m_D_hasTurn.2.1 24 = .ok (.getfield 31, 3) := by decide +kernel
theorem d_D_hasTurn_27 : decode m_D_hasTurn.2.1 27 = .ok (.getfield 148, 3) := by decide +kernel
theorem d_D_hasTurn_30 : decode m_D_hasTurn.2.1 30 = .ok (.ifCond .ne 5, 3) := by decide +kernel
theorem d_D_hasTurn_33 : decode m_D_hasTurn.2.1 33 = .ok (.iconst 0, 1) := by decide +kernel
theorem d_D_hasTurn_34 : decode m_D_hasTurn.2.1 34 = .ok (.ireturn, 1) := by decide +kernel
theorem d_D_hasTurn_35 : decode m_D_hasTurn.2.1 35 = .ok (.aload_n 0, 1) := by decide +kernel
theorem d_D_hasTurn_36 : decode m_D_hasTurn.2.1 36 = .ok (.aload_n 0, 1) := by decide +kernel
theorem d_D_hasTurn_37 : decode m_D_hasTurn.2.1 37 = .ok (.aload_n 0, 1) := by decide +kernel
theorem d_D_hasTurn_38 : decode m_D_hasTurn.2.1 38 = .ok (.getfield 31, 3) := by decide +kernel
theorem d_D_hasTurn_41 : decode m_D_hasTurn.2.1 41 = .ok (.invokevirtual 190, 3) := by decide +kernel
theorem d_D_hasTurn_44 : decode m_D_hasTurn.2.1 44 = .ok (.invokevirtual 94, 3) := by decide +kernel
theorem d_D_hasTurn_47 : decode m_D_hasTurn.2.1 47 = .ok (.putfield 57, 3) := by decide +kernel
theorem d_D_hasTurn_50 : decode m_D_hasTurn.2.1 50 = .ok (.aload_n 0, 1) := by decide +kernel
theorem d_D_hasTurn_51 : decode m_D_hasTurn.2.1 51 = .ok (.iconst 5, 1) := by decide +kernel
theorem d_D_hasTurn_52 : decode m_D_hasTurn.2.1 52 = .ok (.putfield 61, 3) := by decide +kernel
theorem d_D_hasTurn_55 : decode m_D_hasTurn.2.1 55 = .ok (.aload_n 0, 1) := by decide +kernel
theorem d_D_hasTurn_56 : decode m_D_hasTurn.2.1 56 = .ok (.dup, 1) := by decide +kernel
theorem d_D_hasTurn_57 : decode m_D_hasTurn.2.1 57 = .ok (.getfield 54, 3) := by decide +kernel
theorem d_D_hasTurn_60 : decode m_D_hasTurn.2.1 60 = .ok (.iconst 1, 1) := by decide +kernel
theorem d_D_hasTurn_61 : decode m_D_hasTurn.2.1 61 = .ok (.iadd, 1) := by decide +kernel
theorem d_D_hasTurn_62 : decode m_D_hasTurn.2.1 62 = .ok (.putfield 54, 3) := by decide +kernel
theorem d_D_hasTurn_65 : decode m_D_hasTurn.2.1 65 = .ok (.aload_n 0, 1) := by decide +kernel
theorem d_D_hasTurn_66 : decode m_D_hasTurn.2.1 66 = .ok (.getfield 57, 3) := by decide +kernel
theorem d_D_hasTurn_69 : decode m_D_hasTurn.2.1 69 = .ok (.ifnull 7, 3) := by decide +kernel
theorem d_D_hasTurn_72 : decode m_D_hasTurn.2.1 72 = .ok (.iconst 1, 1) := by decide +kernel
theorem d_D_hasTurn_73 : decode m_D_hasTurn.2.1 73 = .ok (.goto 4, 3) := by decide +kernel
theorem d_D_hasTurn_76 : decode m_D_hasTurn.2.1 76 = .ok (.iconst 0, 1) := by decide +kernel
theorem d_D_hasTurn_77 : decode m_D_hasTurn.2.1 77 = .ok (.ireturn, 1) := by decide +kernel
theorem d_D_work_0 : decode m_D_work.2.1 0 = .ok (.aload_n 0, 1) := by decide +kernel
theorem d_D_work_1 : decode m_D_work.2.1 1 = .ok (.getfield 57, 3) := by decide +kernel
theorem d_D_work_4 : decode m_D_work.2.1 4 = .ok (.astore_n 1, 1) := by decide +kernel
theorem d_D_work_5 : decode m_D_work.2.1 5 = .ok (.aload_n 1, 1) := by decide +kernel
theorem d_D_work_6 : decode m_D_work.2.1 6 = .ok (.ifnonnull 4, 3) := by decide +kernel
theorem d_D_work_9 : decode m_D_work.2.1 9 = .ok (.return_, 1) := by decide +kernel
theorem d_D_work_10 : decode m_D_work.2.1 10 = .ok (.aload_n 0, 1) := by decide +kernel
theorem d_D_work_11 : decode m_D_work.2.1 11 = .ok (.dup, 1) := by decide +kernel
theorem d_D_work_12 : decode m_D_work.2.1 12 = .ok (.getfield 61, 3) := by decide +kernel
theorem d_D_work_15 : decode m_D_work.2.1 15 = .ok (.iconst 1, 1) := by decide +kernel
theorem d_D_work_16 : decode m_D_work.2.1 16 = .ok (.isub, 1) := by decide +kernel
theorem d_D_work_17 : decode m_D_work.2.1 17 = .ok (.putfield 61, 3) := by decide +kernel
theorem d_D_work_20 : decode m_D_work.2.1 20 = .ok (.aload_n 0, 1) := by decide +kernel
theorem d_D_work_21 : decode m_D_work.2.1 21 = .ok (.dup, 1) := by decide +kernel
theorem d_D_work_22 : decode m_D_work.2.1 22 = .ok (.getfield 51, 3) := by decide +kernel
theorem d_D_work_25 : decode m_D_work.2.1 25 = .ok (.iconst 1, 1) := by decide +kernel
theorem d_D_work_26 : decode m_D_work.2.1 26 = .ok (.iadd, 1) := by decide +kernel
theorem d_D_work_27 : decode m_D_work.2.1 27 = .ok (.putfield 51, 3) := by decide +kernel
theorem d_D_work_30 : decode m_D_work.2.1 30 = .ok (.aload_n 1, 1) := by decide +kernel
theorem d_D_work_31 : decode m_D_work.2.1 31 = .ok (.dup, 1) := by decide +kernel
theorem d_D_work_32 : decode m_D_work.2.1 32 = .ok (.getfield 132, 3) := by decide +kernel
theorem d_D_work_35 : decode m_D_work.2.1 35 = .ok (.iconst 1, 1) := by decide +kernel
theorem d_D_work_36 : decode m_D_work.2.1 36 = .ok (.iadd, 1) := by decide +kernel
theorem d_D_work_37 : decode m_D_work.2.1 37 = .ok (.putfield 132, 3) := by decide +kernel
theorem d_D_work_40 : decode m_D_work.2.1 40 = .ok (.aload_n 1, 1) := by decide +kernel
theorem d_D_work_41 : decode m_D_work.2.1 41 = .ok (.getfield 123, 3) := by decide +kernel
theorem d_D_work_44 : decode m_D_work.2.1 44 = .ok (.iconst 1, 1) := by decide +kernel
theorem d_D_work_45 : decode m_D_work.2.1 45 = .ok (.if_icmp .ne 34, 3) := by decide +kernel
theorem d_D_work_48 : decode m_D_work.2.1 48 = .ok (.aload_n 1, 1) := by decide +kernel
theorem d_D_work_49 : decode m_D_work.2.1 49 = .ok (.getfield 117, 3) := by decide +kernel
theorem d_D_work_52 : decode m_D_work.2.1 52 = .ok (.ifCond .ne 27, 3) := by decide +kernel
theorem d_D_work_55 : decode m_D_work.2.1 55 = .ok (.aload_n 1, 1) := by decide +kernel
theorem d_D_work_56 : decode m_D_work.2.1 56 = .ok (.iconst 2, 1) := by decide +kernel
theorem d_D_work_57 : decode m_D_work.2.1 57 = .ok (.putfield 123, 3) := by decide +kernel
theorem d_D_work_60 : decode m_D_work.2.1 60 = .ok (.aload_n 1, 1) := by decide +kernel
theorem d_D_work_61 : decode m_D_work.2.1 61 = .ok (.new 141, 3) := by decide +kernel
theorem d_D_work_64 : decode m_D_work.2.1 64 = .ok (.dup, 1) := by decide +kernel
theorem d_D_work_65 : decode m_D_work.2.1 65 = .ok (.iconst 3, 1) := by decide +kernel
theorem d_D_work_66 : decode m_D_work.2.1 66 = .ok (.aload_n 1, 1) := by decide +kernel
theorem d_D_work_67 : decode m_D_work.2.1 67 = .ok (.getfield 193, 3) := by decide +kernel
theorem d_D_work_70 : decode m_D_work.2.1 70 = .ok (.invokespecial 196, 3) := by decide +kernel
theorem d_D_work_73 : decode m_D_work.2.1 73 = .ok (.invokevirtual 199, 3) := by decide +kernel
theorem d_D_work_76 : decode m_D_work.2.1 76 = .ok (.goto 49, 3) := by decide +kernel
theorem d_D_work_79 : decode m_D_work.2.1 79 = .ok (.aload_n 1, 1) := by decide +kernel
theorem d_D_work_80 : decode m_D_work.2.1 80 = .ok (.getfield 203, 3) := by decide +kernel
theorem d_D_work_83 : decode m_D_work.2.1 83 = .ok (.ifnull 19, 3) := by decide +kernel
theorem d_D_work_86 : decode m_D_work.2.1 86 = .ok (.aload_n 0, 1) := by decide +kernel
theorem d_D_work_87 : decode m_D_work.2.1 87 = .ok (.aload_n 1, 1) := by decide +kernel
theorem d_D_work_88 : decode m_D_work.2.1 88 = .ok (.aload_n 1, 1) := by decide +kernel
theorem d_D_work_89 : decode m_D_work.2.1 89 = .ok (.getfield 203, 3) := by decide +kernel
theorem d_D_work_92 : decode m_D_work.2.1 92 = .ok (.aload_n 1, 1) := by decide +kernel
theorem d_D_work_93 : decode m_D_work.2.1 93 = .ok (.getfield 207, 3) := by decide +kernel
theorem d_D_work_96 : decode m_D_work.2.1 96 = .ok (.invokevirtual 210, 3) := by decide +kernel
theorem d_D_work_99 : decode m_D_work.2.1 99 = .ok (.goto 26, 3) := by decide +kernel
theorem d_D_work_102 : decode m_D_work.2.1 102 = .ok (.aload_n 1, 1) := by decide +kernel
theorem d_D_work_103 : decode m_D_work.2.1 103 = .ok (.getfield 214, 3) := by decide +kernel
theorem d_D_work_106 : decode m_D_work.2.1 106 = .ok (.ifnull 14, 3) := by decide +kernel
theorem d_D_work_109 : decode m_D_work.2.1 109 = .ok (.aload_n 1, 1) := by decide +kernel
theorem d_D_work_110 : decode m_D_work.2.1 110 = .ok (.aload_n 1, 1) := by decide +kernel
theorem d_D_work_111 : decode m_D_work.2.1 111 = .ok (.getfield 214, 3) := by decide +kernel
theorem d_D_work_114 : decode m_D_work.2.1 114 = .ok (.invokevirtual 218, 3) := by decide +kernel
theorem d_D_work_117 : decode m_D_work.2.1 117 = .ok (.goto 8, 3) := by decide +kernel
theorem d_D_work_120 : decode m_D_work.2.1 120 = .ok (.aload_n 0, 1) := by decide +kernel
theorem d_D_work_121 : decode m_D_work.2.1 121 = .ok (.aload_n 1, 1) := by decide +kernel
theorem d_D_work_122 : decode m_D_work.2.1 122 = .ok (.invokevirtual 222, 3) := by decide +kernel
theorem d_D_work_125 : decode m_D_work.2.1 125 = .ok (.aload_n 1, 1) := by decide +kernel
theorem d_D_work_126 : decode m_D_work.2.1 126 = .ok (.invokevirtual 114, 3) := by decide +kernel
theorem d_D_work_129 : decode m_D_work.2.1 129 = .ok (.ifCond .eq 11, 3) := by decide +kernel
theorem d_D_work_132 : decode m_D_work.2.1 132 = .ok (.aload_n 0, 1) := by decide +kernel
theorem d_D_work_133 : decode m_D_work.2.1 133 = .ok (.aconst_null, 1) := by decide +kernel
theorem d_D_work_134 : decode m_D_work.2.1 134 = .ok (.putfield 57, 3) := by decide +kernel
theorem d_D_work_137 : decode m_D_work.2.1 137 = .ok (.goto 26, 3) := by decide +kernel
theorem d_D_work_140 : decode m_D_work.2.1 140 = .ok (.aload_n 0, 1) := by decide +kernel
theorem d_D_work_141 : decode m_D_work.2.1 141 = .ok (.getfield 61, 3) := by decide +kernel
theorem d_D_work_144 : decode m_D_work.2.1 144 = .ok (.ifCond .gt 19, 3) := by decide +kernel
theorem d_D_work_147 : decode m_D_work.2.1 147 = .ok (.aload_n 0, 1) := by decide +kernel
theorem d_D_work_148 : decode m_D_work.2.1 148 = .ok (.aconst_null, 1) := by decide +kernel
theorem d_D_work_149 : decode m_D_work.2.1 149 = .ok (.putfield 57, 3) := by decide +kernel
theorem d_D_work_152 : decode m_D_work.2.1 152 = .ok (.aload_n 0, 1) := by decide +kernel
theorem d_D_work_153 : decode m_D_work.2.1 153 = .ok (.getfield 31, 3) := by decide +kernel
theorem d_D_work_156 : decode m_D_work.2.1 156 = .ok (.aload_n 1, 1) := by decide +kernel
theorem d_D_work_157 : decode m_D_work.2.1 157 = .ok (.getfield 173, 3) := by decide +kernel
theorem d_D_work_160 : decode m_D_work.2.1 160 = .ok (.invokevirtual 226, 3) := by decide +kernel
theorem d_D_work_163 : decode m_D_work.2.1 163 = .ok (.return_, 1) := by decide +kernel
theorem d_D_wakeSleepers_0 : decode m_D_wakeSleepers.2.1 0 = .ok (.iconst 0, 1) := by decide +kernel
theorem d_D_wakeSleepers_1 : decode m_D_wakeSleepers.2.1 1 = .ok (.istore_n 1, 1) := by decide +kernel
theorem d_D_wakeSleepers_2 : decode m_D_wakeSleepers.2.1 2 = .ok (.iconst 0, 1) := by decide +kernel
theorem d_D_wakeSleepers_3 : decode m_D_wakeSleepers.2.1 3 = .ok (.istore_n 2, 1) := by decide +kernel
theorem d_D_wakeSleepers_4 : decode m_D_wakeSleepers.2.1 4 = .ok (.iconst 0, 1) := by decide +kernel
theorem d_D_wakeSleepers_5 : decode m_D_wakeSleepers.2.1 5 = .ok (.istore_n 3, 1) := by decide +kernel
theorem d_D_wakeSleepers_6 : decode m_D_wakeSleepers.2.1 6 = .ok (.iload_n 3, 1) := by decide +kernel
theorem d_D_wakeSleepers_7 : decode m_D_wakeSleepers.2.1 7 = .ok (.aload_n 0, 1) := by decide +kernel
theorem d_D_wakeSleepers_8 : decode m_D_wakeSleepers.2.1 8 = .ok (.getfield 25, 3) := by decide +kernel
theorem d_D_wakeSleepers_11 : decode m_D_wakeSleepers.2.1 11 = .ok (.if_icmp .ge 51, 3) := by decide +kernel
theorem d_D_wakeSleepers_14 : decode m_D_wakeSleepers.2.1 14 = .ok (.aload_n 0, 1) := by decide +kernel
theorem d_D_wakeSleepers_15 : decode m_D_wakeSleepers.2.1 15 = .ok (.iload_n 3, 1) := by decide +kernel
theorem d_D_wakeSleepers_16 : decode m_D_wakeSleepers.2.1 16 = .ok (.invokevirtual 94, 3) := by decide +kernel
theorem d_D_wakeSleepers_19 : decode m_D_wakeSleepers.2.1 19 = .ok (.astore 4, 2) := by decide +kernel
theorem d_D_wakeSleepers_21 : decode m_D_wakeSleepers.2.1 21 = .ok (.aload 4, 2) := by decide +kernel
theorem d_D_wakeSleepers_23 : decode m_D_wakeSleepers.2.1 23 = .ok (.ifnull 33, 3) := by decide +kernel
theorem d_D_wakeSleepers_26 : decode m_D_wakeSleepers.2.1 26 = .ok (.aload 4, 2) := by decide +kernel
theorem d_D_wakeSleepers_28 : decode m_D_wakeSleepers.2.1 28 = .ok (.getfield 133, 3) := by decide +kernel
theorem d_D_wakeSleepers_31 : decode m_D_wakeSleepers.2.1 31 = .ok (.iconst 4, 1) := by decide +kernel
theorem d_D_wakeSleepers_32 : decode m_D_wakeSleepers.2.1 32 = .ok (.if_icmp .ne 24, 3) := by decide +kernel
theorem d_D_wakeSleepers_35 : decode m_D_wakeSleepers.2.1 35 = .ok (.iload_n 1, 1) := by decide +kernel
theorem d_D_wakeSleepers_36 : decode m_D_wakeSleepers.2.1 36 = .ok (.ifCond .eq 12, 3) := by decide +kernel
theorem d_D_wakeSleepers_39 : decode m_D_wakeSleepers.2.1 39 = .ok (.aload 4, 2) := by decide +kernel
theorem d_D_wakeSleepers_41 : decode m_D_wakeSleepers.2.1 41 = .ok (.getfield 230, 3) := by decide +kernel
theorem d_D_wakeSleepers_44 : decode m_D_wakeSleepers.2.1 44 = .ok (.iload_n 2, 1) := by decide +kernel
theorem d_D_wakeSleepers_45 : decode m_D_wakeSleepers.2.1 45 = .ok (.if_icmp .ge 11, 3) := by decide +kernel
theorem d_D_wakeSleepers_48 : decode m_D_wakeSleepers.2.1 48 = .ok (.iconst 1, 1) := by decide +kernel
theorem d_D_wakeSleepers_49 : decode m_D_wakeSleepers.2.1 49 = .ok (.istore_n 1, 1) := by decide +kernel
theorem d_D_wakeSleepers_50 : decode m_D_wakeSleepers.2.1 50 = .ok (.aload 4, 2) := by decide +kernel
theorem d_D_wakeSleepers_52 : decode m_D_wakeSleepers.2.1 52 = .ok (.getfield 230, 3) := by decide +kernel
theorem d_D_wakeSleepers_55 : decode m_D_wakeSleepers.2.1 55 = .ok (.istore_n 2, 1) := by decide +kernel
theorem d_D_wakeSleepers_56 : decode m_D_wakeSleepers.2.1 56 = .ok (.iinc 3 1, 3) := by decide +kernel
theorem d_D_wakeSleepers_59 : decode m_D_wakeSleepers.2.1 59 = .ok (.goto (-53), 3) := by decide +kernel
theorem d_D_wakeSleepers_62 : decode m_D_wakeSleepers.2.1 62 = .ok (.iload_n 1, 1) := by decide +kernel
theorem d_D_wakeSleepers_63 : decode m_D_wakeSleepers.2.1 63 = .ok (.ifCond .ne 4, 3) := by decide +kernel
theorem d_D_wakeSleepers_66 : decode m_D_wakeSleepers.2.1 66 = .ok (.return_, 1) := by decide +kernel
theorem d_D_wakeSleepers_67 : decode m_D_wakeSleepers.2.1 67 = .ok (.aload_n 0, 1) := by decide +kernel
theorem d_D_wakeSleepers_68 : decode m_D_wakeSleepers.2.1 68 = .ok (.iload_n 2, 1) := by decide +kernel
theorem d_D_wakeSleepers_69 : decode m_D_wakeSleepers.2.1 69 = .ok (.putfield 48, 3) := by decide +kernel
theorem d_D_wakeSleepers_72 : decode m_D_wakeSleepers.2.1 72 = .ok (.iconst 0, 1) := by decide +kernel
theorem d_D_wakeSleepers_73 : decode m_D_wakeSleepers.2.1 73 = .ok (.istore_n 3, 1) := by decide +kernel
theorem d_D_wakeSleepers_74 : decode m_D_wakeSleepers.2.1 74 = .ok (.iload_n 3, 1) := by decide +kernel
theorem d_D_wakeSleepers_75 : decode m_D_wakeSleepers.2.1 75 = .ok (.aload_n 0, 1) := by decide +kernel
theorem d_D_wakeSleepers_76 : decode m_D_wakeSleepers.2.1 76 = .ok (.getfield 25, 3) := by decide +kernel
theorem d_D_wakeSleepers_79 : decode m_D_wakeSleepers.2.1 79 = .ok (.if_icmp .ge 45, 3) := by decide +kernel
theorem d_D_wakeSleepers_82 : decode m_D_wakeSleepers.2.1 82 = .ok (.aload_n 0, 1) := by decide +kernel
theorem d_D_wakeSleepers_83 : decode m_D_wakeSleepers.2.1 83 = .ok (.iload_n 3, 1) := by decide +kernel
theorem d_D_wakeSleepers_84 : decode m_D_wakeSleepers.2.1 84 = .ok (.invokevirtual 94, 3) := by decide +kernel
theorem d_D_wakeSleepers_87 : decode m_D_wakeSleepers.2.1 87 = .ok (.astore 4, 2) := by decide +kernel
theorem d_D_wakeSleepers_89 : decode m_D_wakeSleepers.2.1 89 = .ok (.aload 4, 2) := by decide +kernel
theorem d_D_wakeSleepers_91 : decode m_D_wakeSleepers.2.1 91 = .ok (.ifnull 27, 3) := by decide +kernel
theorem d_D_wakeSleepers_94 : decode m_D_wakeSleepers.2.1 94 = .ok (.aload 4, 2) := by decide +kernel
theorem d_D_wakeSleepers_96 : decode m_D_wakeSleepers.2.1 96 = .ok (.getfield 133, 3) := by decide +kernel
theorem d_D_wakeSleepers_99 : decode m_D_wakeSleepers.2.1 99 = .ok (.iconst 4, 1) := by decide +kernel
theorem d_D_wakeSleepers_100 : decode m_D_wakeSleepers.2.1 100 = .ok (.if_icmp .ne 18, 3) := by decide +kernel
theorem d_D_wakeSleepers_103 : decode m_D_wakeSleepers.2.1 103 = .ok (.aload 4, 2) := by decide +kernel
theorem d_D_wakeSleepers_105 : decode m_D_wakeSleepers.2.1 105 = .ok (.getfield 230, 3) := by decide +kernel
theorem d_D_wakeSleepers_108 : decode m_D_wakeSleepers.2.1 108 = .ok (.iload_n 2, 1) := by decide +kernel
theorem d_D_wakeSleepers_109 : decode m_D_wakeSleepers.2.1 109 = .ok (.if_icmp .ne 9, 3) := by decide +kernel
theorem d_D_wakeSleepers_112 : decode m_D_wakeSleepers.2.1 112 = .ok (.aload_n 0, 1) := by decide +kernel
theorem d_D_wakeSleepers_113 : decode m_D_wakeSleepers.2.1 113 = .ok (.aload 4, 2) := by decide +kernel
theorem d_D_wakeSleepers_115 : decode m_D_wakeSleepers.2.1 115 = .ok (.invokevirtual 233, 3) := by decide +kernel
theorem d_D_wakeSleepers_118 : decode m_D_wakeSleepers.2.1 118 = .ok (.iinc 3 1, 3) := by decide +kernel
theorem d_D_wakeSleepers_121 : decode m_D_wakeSleepers.2.1 121 = .ok (.goto (-47), 3) := by decide +kernel
theorem d_D_wakeSleepers_124 : decode m_D_wakeSleepers.2.1 124 = .ok (.return_, 1) := by decide +kernel
theorem d_D_goOn_0 : decode m_D_goOn.2.1 0 = .ok (.aload_n 1, 1) := by decide +kernel
theorem d_D_goOn_1 : decode m_D_goOn.2.1 1 = .ok (.iconst 0, 1) := by decide +kernel
theorem d_D_goOn_2 : decode m_D_goOn.2.1 2 = .ok (.putfield 133, 3) := by decide +kernel
theorem d_D_goOn_5 : decode m_D_goOn.2.1 5 = .ok (.aload_n 0, 1) := by decide +kernel
theorem d_D_goOn_6 : decode m_D_goOn.2.1 6 = .ok (.getfield 31, 3) := by decide +kernel
theorem d_D_goOn_9 : decode m_D_goOn.2.1 9 = .ok (.aload_n 1, 1) := by decide +kernel
theorem d_D_goOn_10 : decode m_D_goOn.2.1 10 = .ok (.getfield 173, 3) := by decide +kernel
theorem d_D_goOn_13 : decode m_D_goOn.2.1 13 = .ok (.invokevirtual 226, 3) := by decide +kernel
theorem d_D_goOn_16 : decode m_D_goOn.2.1 16 = .ok (.return_, 1) := by decide +kernel
theorem d_D_begin_0 : decode m_D_begin.2.1 0 = .ok (.aload_n 2, 1) := by decide +kernel
theorem d_D_begin_1 : decode m_D_begin.2.1 1 = .ok (.getfield 236, 3) := by decide +kernel
theorem d_D_begin_4 : decode m_D_begin.2.1 4 = .ok (.tableswitch 286 0 25 #[120, 131, 144, 163, 286, 286, 286, 286, 286, 286, 286, 174, 186, 196, 205, 214, 224, 237, 250, 286, 286, 286, 286, 286, 286, 263], 120) := by decide +kernel
theorem d_D_begin_124 : decode m_D_begin.2.1 124 = .ok (.aload_n 1, 1) := by decide +kernel
theorem d_D_begin_125 : decode m_D_begin.2.1 125 = .ok (.aload_n 2, 1) := by decide +kernel
theorem d_D_begin_126 : decode m_D_begin.2.1 126 = .ok (.getfield 239, 3) := by decide +kernel
theorem d_D_begin_129 : decode m_D_begin.2.1 129 = .ok (.invokevirtual 242, 3) := by decide +kernel
theorem d_D_begin_132 : decode m_D_begin.2.1 132 = .ok (.goto 184, 3) := by decide +kernel
theorem d_D_begin_135 : decode m_D_begin.2.1 135 = .ok (.aload_n 1, 1) := by decide +kernel
theorem d_D_begin_136 : decode m_D_begin.2.1 136 = .ok (.iload_n 3, 1) := by decide +kernel
theorem d_D_begin_137 : decode m_D_begin.2.1 137 = .ok (.aload_n 2, 1) := by decide +kernel
theorem d_D_begin_138 : decode m_D_begin.2.1 138 = .ok (.getfield 239, 3) := by decide +kernel
theorem d_D_begin_141 : decode m_D_begin.2.1 141 = .ok (.iadd, 1) := by decide +kernel
theorem d_D_begin_142 : decode m_D_begin.2.1 142 = .ok (.invokevirtual 242, 3) := by decide +kernel
theorem d_D_begin_145 : decode m_D_begin.2.1 145 = .ok (.goto 171, 3) := by decide +kernel
theorem d_D_begin_148 : decode m_D_begin.2.1 148 = .ok (.aload_n 1, 1) := by decide +kernel
theorem d_D_begin_149 : decode m_D_begin.2.1 149 = .ok (.new 141, 3) := by decide +kernel
theorem d_D_begin_152 : decode m_D_begin.2.1 152 = .ok (.dup, 1) := by decide +kernel
theorem d_D_begin_153 : decode m_D_begin.2.1 153 = .ok (.iconst 1, 1) := by decide +kernel
theorem d_D_begin_154 : decode m_D_begin.2.1 154 = .ok (.aload_n 2, 1) := by decide +kernel
theorem d_D_begin_155 : decode m_D_begin.2.1 155 = .ok (.getfield 239, 3) := by decide +kernel
theorem d_D_begin_158 : decode m_D_begin.2.1 158 = .ok (.invokespecial 196, 3) := by decide +kernel
theorem d_D_begin_161 : decode m_D_begin.2.1 161 = .ok (.invokevirtual 199, 3) := by decide +kernel
theorem d_D_begin_164 : decode m_D_begin.2.1 164 = .ok (.goto 152, 3) := by decide +kernel
theorem d_D_begin_167 : decode m_D_begin.2.1 167 = .ok (.aload_n 1, 1) := by decide +kernel
theorem d_D_begin_168 : decode m_D_begin.2.1 168 = .ok (.aload_n 2, 1) := by decide +kernel
theorem d_D_begin_169 : decode m_D_begin.2.1 169 = .ok (.getfield 239, 3) := by decide +kernel
theorem d_D_begin_172 : decode m_D_begin.2.1 172 = .ok (.invokevirtual 245, 3) := by decide +kernel
theorem d_D_begin_175 : decode m_D_begin.2.1 175 = .ok (.goto 141, 3) := by decide +kernel
theorem d_D_begin_178 : decode m_D_begin.2.1 178 = .ok (.aload_n 1, 1) := by decide +kernel
theorem d_D_begin_179 : decode m_D_begin.2.1 179 = .ok (.aload_n 2, 1) := by decide +kernel
theorem d_D_begin_180 : decode m_D_begin.2.1 180 = .ok (.getfield 248, 3) := by decide +kernel
theorem d_D_begin_183 : decode m_D_begin.2.1 183 = .ok (.iload_n 3, 1) := by decide +kernel
theorem d_D_begin_184 : decode m_D_begin.2.1 184 = .ok (.invokevirtual 251, 3) := by decide +kernel
theorem d_D_begin_187 : decode m_D_begin.2.1 187 = .ok (.goto 129, 3) := by decide +kernel
theorem d_D_begin_190 : decode m_D_begin.2.1 190 = .ok (.aload_n 0, 1) := by decide +kernel
theorem d_D_begin_191 : decode m_D_begin.2.1 191 = .ok (.aload_n 1, 1) := by decide +kernel
theorem d_D_begin_192 : decode m_D_begin.2.1 192 = .ok (.aload_n 2, 1) := by decide +kernel
theorem d_D_begin_193 : decode m_D_begin.2.1 193 = .ok (.iload_n 3, 1) := by decide +kernel
theorem d_D_begin_194 : decode m_D_begin.2.1 194 = .ok (.invokevirtual 255, 3) := by decide +kernel
theorem d_D_begin_197 : decode m_D_begin.2.1 197 = .ok (.goto 119, 3) := by decide +kernel
theorem d_D_begin_200 : decode m_D_begin.2.1 200 = .ok (.aload_n 0, 1) := by decide +kernel
theorem d_D_begin_201 : decode m_D_begin.2.1 201 = .ok (.aload_n 1, 1) := by decide +kernel
theorem d_D_begin_202 : decode m_D_begin.2.1 202 = .ok (.iload_n 3, 1) := by decide +kernel
theorem d_D_begin_203 : decode m_D_begin.2.1 203 = .ok (.invokevirtual 258, 3) := by decide +kernel
theorem d_D_begin_206 : decode m_D_begin.2.1 206 = .ok (.goto 110, 3) := by decide +kernel
theorem d_D_begin_209 : decode m_D_begin.2.1 209 = .ok (.aload_n 0, 1) := by decide +kernel
theorem d_D_begin_210 : decode m_D_begin.2.1 210 = .ok (.aload_n 1, 1) := by decide +kernel
theorem d_D_begin_211 : decode m_D_begin.2.1 211 = .ok (.iload_n 3, 1) := by decide +kernel
theorem d_D_begin_212 : decode m_D_begin.2.1 212 = .ok (.invokevirtual 261, 3) := by decide +kernel
theorem d_D_begin_215 : decode m_D_begin.2.1 215 = .ok (.goto 101, 3) := by decide +kernel
theorem d_D_begin_218 : decode m_D_begin.2.1 218 = .ok (.aload_n 0, 1) := by decide +kernel
theorem d_D_begin_219 : decode m_D_begin.2.1 219 = .ok (.aload_n 1, 1) := by decide +kernel
theorem d_D_begin_220 : decode m_D_begin.2.1 220 = .ok (.aload_n 2, 1) := by decide +kernel
theorem d_D_begin_221 : decode m_D_begin.2.1 221 = .ok (.iload_n 3, 1) := by decide +kernel
theorem d_D_begin_222 : decode m_D_begin.2.1 222 = .ok (.invokevirtual 264, 3) := by decide +kernel
theorem d_D_begin_225 : decode m_D_begin.2.1 225 = .ok (.goto 91, 3) := by decide +kernel
theorem d_D_begin_228 : decode m_D_begin.2.1 228 = .ok (.aload_n 0, 1) := by decide +kernel
theorem d_D_begin_229 : decode m_D_begin.2.1 229 = .ok (.aload_n 1, 1) := by decide +kernel
theorem d_D_begin_230 : decode m_D_begin.2.1 230 = .ok (.aload_n 2, 1) := by decide +kernel
theorem d_D_begin_231 : decode m_D_begin.2.1 231 = .ok (.getfield 239, 3) := by decide +kernel
theorem d_D_begin_234 : decode m_D_begin.2.1 234 = .ok (.iload_n 3, 1) := by decide +kernel
theorem d_D_begin_235 : decode m_D_begin.2.1 235 = .ok (.invokevirtual 267, 3) := by decide +kernel
theorem d_D_begin_238 : decode m_D_begin.2.1 238 = .ok (.goto 78, 3) := by decide +kernel
theorem d_D_begin_241 : decode m_D_begin.2.1 241 = .ok (.aload_n 1, 1) := by decide +kernel
theorem d_D_begin_242 : decode m_D_begin.2.1 242 = .ok (.iload_n 3, 1) := by decide +kernel
theorem d_D_begin_243 : decode m_D_begin.2.1 243 = .ok (.invokevirtual 242, 3) := by decide +kernel
theorem d_D_begin_246 : decode m_D_begin.2.1 246 = .ok (.aload_n 0, 1) := by decide +kernel
theorem d_D_begin_247 : decode m_D_begin.2.1 247 = .ok (.iconst 0, 1) := by decide +kernel
theorem d_D_begin_248 : decode m_D_begin.2.1 248 = .ok (.putfield 61, 3) := by decide +kernel
theorem d_D_begin_251 : decode m_D_begin.2.1 251 = .ok (.goto 65, 3) := by decide +kernel
theorem d_D_begin_254 : decode m_D_begin.2.1 254 = .ok (.aload_n 1, 1) := by decide +kernel
theorem d_D_begin_255 : decode m_D_begin.2.1 255 = .ok (.iload_n 3, 1) := by decide +kernel
theorem d_D_begin_256 : decode m_D_begin.2.1 256 = .ok (.invokevirtual 242, 3) := by decide +kernel
theorem d_D_begin_259 : decode m_D_begin.2.1 259 = .ok (.aload_n 0, 1) := by decide +kernel
theorem d_D_begin_260 : decode m_D_begin.2.1 260 = .ok (.iload_n 3, 1) := by decide +kernel
theorem d_D_begin_261 : decode m_D_begin.2.1 261 = .ok (.invokevirtual 271, 3) := by decide +kernel
theorem d_D_begin_264 : decode m_D_begin.2.1 264 = .ok (.goto 52, 3) := by decide +kernel
theorem d_D_begin_267 : decode m_D_begin.2.1 267 = .ok (.aload_n 1, 1) := by decide +kernel
theorem d_D_begin_268 : decode m_D_begin.2.1 268 = .ok (.iload_n 3, 1) := by decide +kernel
theorem d_D_begin_269 : decode m_D_begin.2.1 269 = .ok (.ifCond .eq 10, 3) := by decide +kernel
theorem d_D_begin_272 : decode m_D_begin.2.1 272 = .ok (.aload_n 2, 1) := by decide +kernel
theorem d_D_begin_273 : decode m_D_begin.2.1 273 = .ok (.getfield 248, 3) := by decide +kernel
theorem d_D_begin_276 : decode m_D_begin.2.1 276 = .ok (.goto 7, 3) := by decide +kernel
theorem d_D_begin_279 : decode m_D_begin.2.1 279 = .ok (.aload_n 2, 1) := by decide +kernel
theorem d_D_begin_280 : decode m_D_begin.2.1 280 = .ok (.getfield 274, 3) := by decide +kernel
theorem d_D_begin_283 : decode m_D_begin.2.1 283 = .ok (.iload_n 3, 1) := by decide +kernel
theorem d_D_begin_284 : decode m_D_begin.2.1 284 = .ok (.invokevirtual 277, 3) := by decide +kernel
theorem d_D_begin_287 : decode m_D_begin.2.1 287 = .ok (.goto 29, 3) := by decide +kernel
theorem d_D_begin_290 : decode m_D_begin.2.1 290 = .ok (.aload_n 2, 1) := by decide +kernel
theorem d_D_begin_291 : decode m_D_begin.2.1 291 = .ok (.getfield 236, 3) := by decide +kernel
theorem d_D_begin_294 : decode m_D_begin.2.1 294 = .ok (.invokestatic 179, 3) := by decide +kernel
theorem d_D_begin_297 : decode m_D_begin.2.1 297 = .ok (.ifCond .eq 13, 3) := by decide +kernel
theorem d_D_begin_300 : decode m_D_begin.2.1 300 = .ok (.aload_n 0, 1) := by decide +kernel
theorem d_D_begin_301 : decode m_D_begin.2.1 301 = .ok (.aload_n 1, 1) := by decide +kernel
theorem d_D_begin_302 : decode m_D_begin.2.1 302 = .ok (.aload_n 2, 1) := by decide +kernel
theorem d_D_begin_303 : decode m_D_begin.2.1 303 = .ok (.iload_n 3, 1) := by decide +kernel
theorem d_D_begin_304 : decode m_D_begin.2.1 304 = .ok (.invokevirtual 280, 3) := by decide +kernel
theorem d_D_begin_307 : decode m_D_begin.2.1 307 = .ok (.goto 9, 3) := by decide +kernel
theorem d_D_begin_310 : decode m_D_begin.2.1 310 = .ok (.aload_n 1, 1) := by decide +kernel
theorem d_D_begin_311 : decode m_D_begin.2.1 311 = .ok (.aload_n 2, 1) := by decide +kernel
theorem d_D_begin_312 : decode m_D_begin.2.1 312 = .ok (.iload_n 3, 1) := by decide +kernel
theorem d_D_begin_313 : decode m_D_begin.2.1 313 = .ok (.invokevirtual 283, 3) := by decide +kernel
theorem d_D_begin_316 : decode m_D_begin.2.1 316 = .ok (.return_, 1) := by decide +kernel
theorem d_D_put_0 : decode m_D_put.2.1 0 = .ok (.aload_n 0, 1) := by decide +kernel
theorem d_D_put_1 : decode m_D_put.2.1 1 = .ok (.getfield 45, 3) := by decide +kernel
theorem d_D_put_4 : decode m_D_put.2.1 4 = .ok (.bipush 24, 2) := by decide +kernel
theorem d_D_put_6 : decode m_D_put.2.1 6 = .ok (.if_icmp .ge 13, 3) := by decide +kernel
theorem d_D_put_9 : decode m_D_put.2.1 9 = .ok (.aload_n 0, 1) := by decide +kernel
theorem d_D_put_10 : decode m_D_put.2.1 10 = .ok (.getfield 41, 3) := by decide +kernel
theorem d_D_put_13 : decode m_D_put.2.1 13 = .ok (.aload_n 0, 1) := by decide +kernel
theorem d_D_put_14 : decode m_D_put.2.1 14 = .ok (.getfield 45, 3) := by decide +kernel
theorem d_D_put_17 : decode m_D_put.2.1 17 = .ok (.iload_n 1, 1) := by decide +kernel
theorem d_D_put_18 : decode m_D_put.2.1 18 = .ok (.iastore, 1) := by decide +kernel
theorem d_D_put_19 : decode m_D_put.2.1 19 = .ok (.aload_n 0, 1) := by decide +kernel
theorem d_D_put_20 : decode m_D_put.2.1 20 = .ok (.dup, 1) := by decide +kernel
theorem d_D_put_21 : decode m_D_put.2.1 21 = .ok (.getfield 45, 3) := by decide +kernel
theorem d_D_put_24 : decode m_D_put.2.1 24 = .ok (.iconst 1, 1) := by decide +kernel
theorem d_D_put_25 : decode m_D_put.2.1 25 = .ok (.iadd, 1) := by decide +kernel
theorem d_D_put_26 : decode m_D_put.2.1 26 = .ok (.putfield 45, 3) := by decide +kernel
theorem d_D_put_29 : decode m_D_put.2.1 29 = .ok (.return_, 1) := by decide +kernel
theorem d_D_beginFork_0 : decode m_D_beginFork.2.1 0 = .ok (.aload_n 0, 1) := by decide +kernel
theorem d_D_beginFork_1 : decode m_D_beginFork.2.1 1 = .ok (.getfield 25, 3) := by decide +kernel
theorem d_D_beginFork_4 : decode m_D_beginFork.2.1 4 = .ok (.bipush 10, 2) := by decide +kernel
theorem d_D_beginFork_6 : decode m_D_beginFork.2.1 6 = .ok (.if_icmp .lt 9, 3) := by decide +kernel
theorem d_D_beginFork_9 : decode m_D_beginFork.2.1 9 = .ok (.aload_n 1, 1) := by decide +kernel
theorem d_D_beginFork_10 : decode m_D_beginFork.2.1 10 = .ok (.iconst (-1), 1) := by decide +kernel
theorem d_D_beginFork_11 : decode m_D_beginFork.2.1 11 = .ok (.invokevirtual 245, 3) := by decide +kernel
theorem d_D_beginFork_14 : decode m_D_beginFork.2.1 14 = .ok (.return_, 1) := by decide +kernel
theorem d_D_beginFork_15 : decode m_D_beginFork.2.1 15 = .ok (.aload_n 1, 1) := by decide +kernel
theorem d_D_beginFork_16 : decode m_D_beginFork.2.1 16 = .ok (.aload_n 0, 1) := by decide +kernel
theorem d_D_beginFork_17 : decode m_D_beginFork.2.1 17 = .ok (.getfield 25, 3) := by decide +kernel
theorem d_D_beginFork_20 : decode m_D_beginFork.2.1 20 = .ok (.invokevirtual 242, 3) := by decide +kernel
theorem d_D_beginFork_23 : decode m_D_beginFork.2.1 23 = .ok (.aload_n 0, 1) := by decide +kernel
theorem d_D_beginFork_24 : decode m_D_beginFork.2.1 24 = .ok (.aload_n 2, 1) := by decide +kernel
theorem d_D_beginFork_25 : decode m_D_beginFork.2.1 25 = .ok (.getfield 248, 3) := by decide +kernel
theorem d_D_beginFork_28 : decode m_D_beginFork.2.1 28 = .ok (.iload_n 3, 1) := by decide +kernel
theorem d_D_beginFork_29 : decode m_D_beginFork.2.1 29 = .ok (.aload_n 1, 1) := by decide +kernel
theorem d_D_beginFork_30 : decode m_D_beginFork.2.1 30 = .ok (.getfield 173, 3) := by decide +kernel
theorem d_D_beginFork_33 : decode m_D_beginFork.2.1 33 = .ok (.invokevirtual 79, 3) := by decide +kernel
theorem d_D_beginFork_36 : decode m_D_beginFork.2.1 36 = .ok (.return_, 1) := by decide +kernel
theorem d_D_makeFiber_0 : decode m_D_makeFiber.2.1 0 = .ok (.aload_n 0, 1) := by decide +kernel
theorem d_D_makeFiber_1 : decode m_D_makeFiber.2.1 1 = .ok (.getfield 25, 3) := by decide +kernel
theorem d_D_makeFiber_4 : decode m_D_makeFiber.2.1 4 = .ok (.bipush 10, 2) := by decide +kernel
theorem d_D_makeFiber_6 : decode m_D_makeFiber.2.1 6 = .ok (.if_icmp .lt 4, 3) := by decide +kernel
theorem d_D_makeFiber_9 : decode m_D_makeFiber.2.1 9 = .ok (.return_, 1) := by decide +kernel
theorem d_D_makeFiber_10 : decode m_D_makeFiber.2.1 10 = .ok (.aload_n 0, 1) := by decide +kernel
theorem d_D_makeFiber_11 : decode m_D_makeFiber.2.1 11 = .ok (.getfield 25, 3) := by decide +kernel
theorem d_D_makeFiber_14 : decode m_D_makeFiber.2.1 14 = .ok (.istore 4, 2) := by decide +kernel
theorem d_D_makeFiber_16 : decode m_D_makeFiber.2.1 16 = .ok (.new 19, 3) := by decide +kernel
theorem d_D_makeFiber_19 : decode m_D_makeFiber.2.1 19 = .ok (.dup, 1) := by decide +kernel
theorem d_D_makeFiber_20 : decode m_D_makeFiber.2.1 20 = .ok (.iload 4, 2) := by decide +kernel
theorem d_D_makeFiber_22 : decode m_D_makeFiber.2.1 22 = .ok (.iload_n 3, 1) := by decide +kernel
theorem d_D_makeFiber_23 : decode m_D_makeFiber.2.1 23 = .ok (.invokespecial 286, 3) := by decide +kernel
theorem d_D_makeFiber_26 : decode m_D_makeFiber.2.1 26 = .ok (.astore 5, 2) := by decide +kernel
theorem d_D_makeFiber_28 : decode m_D_makeFiber.2.1 28 = .ok (.aload 5, 2) := by decide +kernel
theorem d_D_makeFiber_30 : decode m_D_makeFiber.2.1 30 = .ok (.aload_n 1, 1) := by decide +kernel
theorem d_D_makeFiber_31 : decode m_D_makeFiber.2.1 31 = .ok (.iload_n 2, 1) := by decide +kernel
theorem d_D_makeFiber_32 : decode m_D_makeFiber.2.1 32 = .ok (.invokevirtual 277, 3) := by decide +kernel
theorem d_D_makeFiber_35 : decode m_D_makeFiber.2.1 35 = .ok (.aload_n 0, 1) := by decide +kernel
theorem d_D_makeFiber_36 : decode m_D_makeFiber.2.1 36 = .ok (.getfield 21, 3) := by decide +kernel
theorem d_D_makeFiber_39 : decode m_D_makeFiber.2.1 39 = .ok (.iload 4, 2) := by decide +kernel
theorem d_D_makeFiber_41 : decode m_D_makeFiber.2.1 41 = .ok (.aload 5, 2) := by decide +kernel
theorem d_D_makeFiber_43 : decode m_D_makeFiber.2.1 43 = .ok (.aastore, 1) := by decide +kernel
theorem d_D_makeFiber_44 : decode m_D_makeFiber.2.1 44 = .ok (.aload_n 0, 1) := by decide +kernel
theorem d_D_makeFiber_45 : decode m_D_makeFiber.2.1 45 = .ok (.dup, 1) := by decide +kernel
theorem d_D_makeFiber_46 : decode m_D_makeFiber.2.1 46 = .ok (.getfield 25, 3) := by decide +kernel
theorem d_D_makeFiber_49 : decode m_D_makeFiber.2.1 49 = .ok (.iconst 1, 1) := by decide +kernel
theorem d_D_makeFiber_50 : decode m_D_makeFiber.2.1 50 = .ok (.iadd, 1) := by decide +kernel
theorem d_D_makeFiber_51 : decode m_D_makeFiber.2.1 51 = .ok (.putfield 25, 3) := by decide +kernel
theorem d_D_makeFiber_54 : decode m_D_makeFiber.2.1 54 = .ok (.aload_n 0, 1) := by decide +kernel
theorem d_D_makeFiber_55 : decode m_D_makeFiber.2.1 55 = .ok (.getfield 31, 3) := by decide +kernel
theorem d_D_makeFiber_58 : decode m_D_makeFiber.2.1 58 = .ok (.iload 4, 2) := by decide +kernel
theorem d_D_makeFiber_60 : decode m_D_makeFiber.2.1 60 = .ok (.invokevirtual 226, 3) := by decide +kernel
theorem d_D_makeFiber_63 : decode m_D_makeFiber.2.1 63 = .ok (.return_, 1) := by decide +kernel
theorem d_D_beginJoin_0 : decode m_D_beginJoin.2.1 0 = .ok (.aload_n 0, 1) := by decide +kernel
theorem d_D_beginJoin_1 : decode m_D_beginJoin.2.1 1 = .ok (.iload_n 2, 1) := by decide +kernel
theorem d_D_beginJoin_2 : decode m_D_beginJoin.2.1 2 = .ok (.invokevirtual 94, 3) := by decide +kernel
theorem d_D_beginJoin_5 : decode m_D_beginJoin.2.1 5 = .ok (.astore_n 3, 1) := by decide +kernel
theorem d_D_beginJoin_6 : decode m_D_beginJoin.2.1 6 = .ok (.aload_n 3, 1) := by decide +kernel
theorem d_D_beginJoin_7 : decode m_D_beginJoin.2.1 7 = .ok (.ifnonnull 12, 3) := by decide +kernel
theorem d_D_beginJoin_10 : decode m_D_beginJoin.2.1 10 = .ok (.aload_n 1, 1) := by decide +kernel
theorem d_D_beginJoin_11 : decode m_D_beginJoin.2.1 11 = .ok (.bipush (-2), 2) := by decide +kernel
theorem d_D_beginJoin_13 : decode m_D_beginJoin.2.1 13 = .ok (.invokevirtual 245, 3) := by decide +kernel
theorem d_D_beginJoin_16 : decode m_D_beginJoin.2.1 16 = .ok (.goto 31, 3) := by decide +kernel
theorem d_D_beginJoin_19 : decode m_D_beginJoin.2.1 19 = .ok (.aload_n 3, 1) := by decide +kernel
theorem d_D_beginJoin_20 : decode m_D_beginJoin.2.1 20 = .ok (.getfield 98, 3) := by decide +kernel
theorem d_D_beginJoin_23 : decode m_D_beginJoin.2.1 23 = .ok (.ifCond .eq 18, 3) := by decide +kernel
theorem d_D_beginJoin_26 : decode m_D_beginJoin.2.1 26 = .ok (.aload_n 1, 1) := by decide +kernel
theorem d_D_beginJoin_27 : decode m_D_beginJoin.2.1 27 = .ok (.aload_n 3, 1) := by decide +kernel
theorem d_D_beginJoin_28 : decode m_D_beginJoin.2.1 28 = .ok (.getfield 129, 3) := by decide +kernel
theorem d_D_beginJoin_31 : decode m_D_beginJoin.2.1 31 = .ok (.aload_n 3, 1) := by decide +kernel
theorem d_D_beginJoin_32 : decode m_D_beginJoin.2.1 32 = .ok (.getfield 136, 3) := by decide +kernel
theorem d_D_beginJoin_35 : decode m_D_beginJoin.2.1 35 = .ok (.invokevirtual 287, 3) := by decide +kernel
theorem d_D_beginJoin_38 : decode m_D_beginJoin.2.1 38 = .ok (.goto 9, 3) := by decide +kernel
theorem d_D_beginJoin_41 : decode m_D_beginJoin.2.1 41 = .ok (.aload_n 1, 1) := by decide +kernel
theorem d_D_beginJoin_42 : decode m_D_beginJoin.2.1 42 = .ok (.iconst 1, 1) := by decide +kernel
theorem d_D_beginJoin_43 : decode m_D_beginJoin.2.1 43 = .ok (.iload_n 2, 1) := by decide +kernel
theorem d_D_beginJoin_44 : decode m_D_beginJoin.2.1 44 = .ok (.invokevirtual 291, 3) := by decide +kernel
theorem d_D_beginJoin_47 : decode m_D_beginJoin.2.1 47 = .ok (.return_, 1) := by decide +kernel
theorem d_D_beginHalt_0 : decode m_D_beginHalt.2.1 0 = .ok (.aload_n 0, 1) := by decide +kernel
theorem d_D_beginHalt_1 : decode m_D_beginHalt.2.1 1 = .ok (.iload_n 2, 1) := by decide +kernel
theorem d_D_beginHalt_2 : decode m_D_beginHalt.2.1 2 = .ok (.invokevirtual 94, 3) := by decide +kernel
theorem d_D_beginHalt_5 : decode m_D_beginHalt.2.1 5 = .ok (.astore_n 3, 1) := by decide +kernel
theorem d_D_beginHalt_6 : decode m_D_beginHalt.2.1 6 = .ok (.aload_n 3, 1) := by decide +kernel
theorem d_D_beginHalt_7 : decode m_D_beginHalt.2.1 7 = .ok (.ifnonnull 10, 3) := by decide +kernel
theorem d_D_beginHalt_10 : decode m_D_beginHalt.2.1 10 = .ok (.aload_n 1, 1) := by decide +kernel
theorem d_D_beginHalt_11 : decode m_D_beginHalt.2.1 11 = .ok (.bipush (-2), 2) := by decide +kernel
theorem d_D_beginHalt_13 : decode m_D_beginHalt.2.1 13 = .ok (.invokevirtual 245, 3) := by decide +kernel
theorem d_D_beginHalt_16 : decode m_D_beginHalt.2.1 16 = .ok (.return_, 1) := by decide +kernel
theorem d_D_beginHalt_17 : decode m_D_beginHalt.2.1 17 = .ok (.aload_n 1, 1) := by decide +kernel
theorem d_D_beginHalt_18 : decode m_D_beginHalt.2.1 18 = .ok (.iconst 0, 1) := by decide +kernel
theorem d_D_beginHalt_19 : decode m_D_beginHalt.2.1 19 = .ok (.invokevirtual 242, 3) := by decide +kernel
theorem d_D_beginHalt_22 : decode m_D_beginHalt.2.1 22 = .ok (.aload_n 0, 1) := by decide +kernel
theorem d_D_beginHalt_23 : decode m_D_beginHalt.2.1 23 = .ok (.aload_n 3, 1) := by decide +kernel
theorem d_D_beginHalt_24 : decode m_D_beginHalt.2.1 24 = .ok (.aload_n 1, 1) := by decide +kernel
theorem d_D_beginHalt_25 : decode m_D_beginHalt.2.1 25 = .ok (.getfield 173, 3) := by decide +kernel
theorem d_D_beginHalt_28 : decode m_D_beginHalt.2.1 28 = .ok (.invokevirtual 102, 3) := by decide +kernel
theorem d_D_beginHalt_31 : decode m_D_beginHalt.2.1 31 = .ok (.aload_n 3, 1) := by decide +kernel
theorem d_D_beginHalt_32 : decode m_D_beginHalt.2.1 32 = .ok (.getfield 98, 3) := by decide +kernel
theorem d_D_beginHalt_35 : decode m_D_beginHalt.2.1 35 = .ok (.ifCond .ne 14, 3) := by decide +kernel
theorem d_D_beginHalt_38 : decode m_D_beginHalt.2.1 38 = .ok (.aload_n 3, 1) := by decide +kernel
theorem d_D_beginHalt_39 : decode m_D_beginHalt.2.1 39 = .ok (.aload_n 1, 1) := by decide +kernel
theorem d_D_beginHalt_40 : decode m_D_beginHalt.2.1 40 = .ok (.if_acmp .eq 9, 3) := by decide +kernel
theorem d_D_beginHalt_43 : decode m_D_beginHalt.2.1 43 = .ok (.aload_n 1, 1) := by decide +kernel
theorem d_D_beginHalt_44 : decode m_D_beginHalt.2.1 44 = .ok (.iconst 2, 1) := by decide +kernel
theorem d_D_beginHalt_45 : decode m_D_beginHalt.2.1 45 = .ok (.iload_n 2, 1) := by decide +kernel
theorem d_D_beginHalt_46 : decode m_D_beginHalt.2.1 46 = .ok (.invokevirtual 291, 3) := by decide +kernel
theorem d_D_beginHalt_49 : decode m_D_beginHalt.2.1 49 = .ok (.return_, 1) := by decide +kernel
theorem d_D_beginRace_0 : decode m_D_beginRace.2.1 0 = .ok (.aload_n 0, 1) := by decide +kernel
theorem d_D_beginRace_1 : decode m_D_beginRace.2.1 1 = .ok (.getfield 25, 3) := by decide +kernel
theorem d_D_beginRace_4 : decode m_D_beginRace.2.1 4 = .ok (.iconst 2, 1) := by decide +kernel
theorem d_D_beginRace_5 : decode m_D_beginRace.2.1 5 = .ok (.iadd, 1) := by decide +kernel
theorem d_D_beginRace_6 : decode m_D_beginRace.2.1 6 = .ok (.bipush 10, 2) := by decide +kernel
theorem d_D_beginRace_8 : decode m_D_beginRace.2.1 8 = .ok (.if_icmp .le 9, 3) := by decide +kernel
theorem d_D_beginRace_11 : decode m_D_beginRace.2.1 11 = .ok (.aload_n 1, 1) := by decide +kernel
theorem d_D_beginRace_12 : decode m_D_beginRace.2.1 12 = .ok (.iconst (-1), 1) := by decide +kernel
theorem d_D_beginRace_13 : decode m_D_beginRace.2.1 13 = .ok (.invokevirtual 245, 3) := by decide +kernel
theorem d_D_beginRace_16 : decode m_D_beginRace.2.1 16 = .ok (.return_, 1) := by decide +kernel
theorem d_D_beginRace_17 : decode m_D_beginRace.2.1 17 = .ok (.aload_n 1, 1) := by decide +kernel
theorem d_D_beginRace_18 : decode m_D_beginRace.2.1 18 = .ok (.iconst 3, 1) := by decide +kernel
theorem d_D_beginRace_19 : decode m_D_beginRace.2.1 19 = .ok (.aload_n 0, 1) := by decide +kernel
theorem d_D_beginRace_20 : decode m_D_beginRace.2.1 20 = .ok (.getfield 25, 3) := by decide +kernel
theorem d_D_beginRace_23 : decode m_D_beginRace.2.1 23 = .ok (.invokevirtual 291, 3) := by decide +kernel
theorem d_D_beginRace_26 : decode m_D_beginRace.2.1 26 = .ok (.aload_n 0, 1) := by decide +kernel
theorem d_D_beginRace_27 : decode m_D_beginRace.2.1 27 = .ok (.aload_n 2, 1) := by decide +kernel
theorem d_D_beginRace_28 : decode m_D_beginRace.2.1 28 = .ok (.getfield 248, 3) := by decide +kernel
theorem d_D_beginRace_31 : decode m_D_beginRace.2.1 31 = .ok (.iload_n 3, 1) := by decide +kernel
theorem d_D_beginRace_32 : decode m_D_beginRace.2.1 32 = .ok (.aload_n 1, 1) := by decide +kernel
theorem d_D_beginRace_33 : decode m_D_beginRace.2.1 33 = .ok (.getfield 173, 3) := by decide +kernel
theorem d_D_beginRace_36 : decode m_D_beginRace.2.1 36 = .ok (.invokevirtual 79, 3) := by decide +kernel
theorem d_D_beginRace_39 : decode m_D_beginRace.2.1 39 = .ok (.aload_n 0, 1) := by decide +kernel
theorem d_D_beginRace_40 : decode m_D_beginRace.2.1 40 = .ok (.aload_n 2, 1) := by decide +kernel
theorem d_D_beginRace_41 : decode m_D_beginRace.2.1 41 = .ok (.getfield 274, 3) := by decide +kernel
theorem d_D_beginRace_44 : decode m_D_beginRace.2.1 44 = .ok (.iload_n 3, 1) := by decide +kernel
theorem d_D_beginRace_45 : decode m_D_beginRace.2.1 45 = .ok (.aload_n 1, 1) := by decide +kernel
theorem d_D_beginRace_46 : decode m_D_beginRace.2.1 46 = .ok (.getfield 173, 3) := by decide +kernel
theorem d_D_beginRace_49 : decode m_D_beginRace.2.1 49 = .ok (.invokevirtual 79, 3) := by decide +kernel
theorem d_D_beginRace_52 : decode m_D_beginRace.2.1 52 = .ok (.return_, 1) := by decide +kernel
theorem d_D_beginSleep_0 : decode m_D_beginSleep.2.1 0 = .ok (.aload_n 1, 1) := by decide +kernel
theorem d_D_beginSleep_1 : decode m_D_beginSleep.2.1 1 = .ok (.iload_n 3, 1) := by decide +kernel
theorem d_D_beginSleep_2 : decode m_D_beginSleep.2.1 2 = .ok (.invokevirtual 242, 3) := by decide +kernel
theorem d_D_beginSleep_5 : decode m_D_beginSleep.2.1 5 = .ok (.iload_n 2, 1) := by decide +kernel
theorem d_D_beginSleep_6 : decode m_D_beginSleep.2.1 6 = .ok (.iconst 1, 1) := by decide +kernel
theorem d_D_beginSleep_7 : decode m_D_beginSleep.2.1 7 = .ok (.if_icmp .lt 25, 3) := by decide +kernel
theorem d_D_beginSleep_10 : decode m_D_beginSleep.2.1 10 = .ok (.aload_n 1, 1) := by decide +kernel
theorem d_D_beginSleep_11 : decode m_D_beginSleep.2.1 11 = .ok (.aload_n 0, 1) := by decide +kernel
theorem d_D_beginSleep_12 : decode m_D_beginSleep.2.1 12 = .ok (.getfield 48, 3) := by decide +kernel
theorem d_D_beginSleep_15 : decode m_D_beginSleep.2.1 15 = .ok (.iload_n 2, 1) := by decide +kernel
theorem d_D_beginSleep_16 : decode m_D_beginSleep.2.1 16 = .ok (.sipush 1000, 3) := by decide +kernel
theorem d_D_beginSleep_19 : decode m_D_beginSleep.2.1 19 = .ok (.invokestatic 294, 3) := by decide +kernel
theorem d_D_beginSleep_22 : decode m_D_beginSleep.2.1 22 = .ok (.iadd, 1) := by decide +kernel
theorem d_D_beginSleep_23 : decode m_D_beginSleep.2.1 23 = .ok (.putfield 230, 3) := by decide +kernel
theorem d_D_beginSleep_26 : decode m_D_beginSleep.2.1 26 = .ok (.aload_n 1, 1) := by decide +kernel
theorem d_D_beginSleep_27 : decode m_D_beginSleep.2.1 27 = .ok (.iconst 4, 1) := by decide +kernel
theorem d_D_beginSleep_28 : decode m_D_beginSleep.2.1 28 = .ok (.iconst (-1), 1) := by decide +kernel
theorem d_D_beginSleep_29 : decode m_D_beginSleep.2.1 29 = .ok (.invokevirtual 291, 3) := by decide +kernel
theorem d_D_beginSleep_32 : decode m_D_beginSleep.2.1 32 = .ok (.return_, 1) := by decide +kernel
theorem d_D_beginAtPlace_0 : decode m_D_beginAtPlace.2.1 0 = .ok (.aload_n 0, 1) := by decide +kernel
theorem d_D_beginAtPlace_1 : decode m_D_beginAtPlace.2.1 1 = .ok (.aload_n 2, 1) := by decide +kernel
theorem d_D_beginAtPlace_2 : decode m_D_beginAtPlace.2.1 2 = .ok (.getfield 239, 3) := by decide +kernel
theorem d_D_beginAtPlace_5 : decode m_D_beginAtPlace.2.1 5 = .ok (.invokevirtual 106, 3) := by decide +kernel
theorem d_D_beginAtPlace_8 : decode m_D_beginAtPlace.2.1 8 = .ok (.astore 4, 2) := by decide +kernel
theorem d_D_beginAtPlace_10 : decode m_D_beginAtPlace.2.1 10 = .ok (.aload 4, 2) := by decide +kernel
theorem d_D_beginAtPlace_12 : decode m_D_beginAtPlace.2.1 12 = .ok (.ifnonnull 4, 3) := by decide +kernel
theorem d_D_beginAtPlace_15 : decode m_D_beginAtPlace.2.1 15 = .ok (.return_, 1) := by decide +kernel
theorem d_D_beginAtPlace_16 : decode m_D_beginAtPlace.2.1 16 = .ok (.aload_n 1, 1) := by decide +kernel
theorem d_D_beginAtPlace_17 : decode m_D_beginAtPlace.2.1 17 = .ok (.iload_n 3, 1) := by decide +kernel
theorem d_D_beginAtPlace_18 : decode m_D_beginAtPlace.2.1 18 = .ok (.invokevirtual 242, 3) := by decide +kernel
theorem d_D_beginAtPlace_21 : decode m_D_beginAtPlace.2.1 21 = .ok (.aload_n 2, 1) := by decide +kernel
theorem d_D_beginAtPlace_22 : decode m_D_beginAtPlace.2.1 22 = .ok (.getfield 236, 3) := by decide +kernel
theorem d_D_beginAtPlace_25 : decode m_D_beginAtPlace.2.1 25 = .ok (.tableswitch 106 19 23 #[35, 47, 56, 70, 92], 35) := by decide +kernel
theorem d_D_beginAtPlace_60 : decode m_D_beginAtPlace.2.1 60 = .ok (.aload_n 1, 1) := by decide +kernel
theorem d_D_beginAtPlace_61 : decode m_D_beginAtPlace.2.1 61 = .ok (.aload 4, 2) := by decide +kernel
theorem d_D_beginAtPlace_63 : decode m_D_beginAtPlace.2.1 63 = .ok (.getfield 155, 3) := by decide +kernel
theorem d_D_beginAtPlace_66 : decode m_D_beginAtPlace.2.1 66 = .ok (.invokevirtual 242, 3) := by decide +kernel
theorem d_D_beginAtPlace_69 : decode m_D_beginAtPlace.2.1 69 = .ok (.goto 68, 3) := by decide +kernel
theorem d_D_beginAtPlace_72 : decode m_D_beginAtPlace.2.1 72 = .ok (.aload 4, 2) := by decide +kernel
theorem d_D_beginAtPlace_74 : decode m_D_beginAtPlace.2.1 74 = .ok (.iload_n 3, 1) := by decide +kernel
theorem d_D_beginAtPlace_75 : decode m_D_beginAtPlace.2.1 75 = .ok (.putfield 155, 3) := by decide +kernel
theorem d_D_beginAtPlace_78 : decode m_D_beginAtPlace.2.1 78 = .ok (.goto 59, 3) := by decide +kernel
theorem d_D_beginAtPlace_81 : decode m_D_beginAtPlace.2.1 81 = .ok (.aload_n 0, 1) := by decide +kernel
theorem d_D_beginAtPlace_82 : decode m_D_beginAtPlace.2.1 82 = .ok (.aload_n 1, 1) := by decide +kernel
theorem d_D_beginAtPlace_83 : decode m_D_beginAtPlace.2.1 83 = .ok (.aload 4, 2) := by decide +kernel
theorem d_D_beginAtPlace_85 : decode m_D_beginAtPlace.2.1 85 = .ok (.aload_n 2, 1) := by decide +kernel
theorem d_D_beginAtPlace_86 : decode m_D_beginAtPlace.2.1 86 = .ok (.getfield 239, 3) := by decide +kernel
theorem d_D_beginAtPlace_89 : decode m_D_beginAtPlace.2.1 89 = .ok (.invokevirtual 300, 3) := by decide +kernel
theorem d_D_beginAtPlace_92 : decode m_D_beginAtPlace.2.1 92 = .ok (.goto 45, 3) := by decide +kernel
theorem d_D_beginAtPlace_95 : decode m_D_beginAtPlace.2.1 95 = .ok (.aload_n 1, 1) := by decide +kernel
theorem d_D_beginAtPlace_96 : decode m_D_beginAtPlace.2.1 96 = .ok (.aload_n 0, 1) := by decide +kernel
theorem d_D_beginAtPlace_97 : decode m_D_beginAtPlace.2.1 97 = .ok (.aload 4, 2) := by decide +kernel
theorem d_D_beginAtPlace_99 : decode m_D_beginAtPlace.2.1 99 = .ok (.iload_n 3, 1) := by decide +kernel
theorem d_D_beginAtPlace_100 : decode m_D_beginAtPlace.2.1 100 = .ok (.invokevirtual 110, 3) := by decide +kernel
theorem d_D_beginAtPlace_103 : decode m_D_beginAtPlace.2.1 103 = .ok (.ifCond .eq 7, 3) := by decide +kernel
theorem d_D_beginAtPlace_106 : decode m_D_beginAtPlace.2.1 106 = .ok (.iconst 1, 1) := by decide +kernel
theorem d_D_beginAtPlace_107 : decode m_D_beginAtPlace.2.1 107 = .ok (.goto 4, 3) := by decide +kernel
theorem d_D_beginAtPlace_110 : decode m_D_beginAtPlace.2.1 110 = .ok (.iconst 0, 1) := by decide +kernel
theorem d_D_beginAtPlace_111 : decode m_D_beginAtPlace.2.1 111 = .ok (.invokevirtual 242, 3) := by decide +kernel
theorem d_D_beginAtPlace_114 : decode m_D_beginAtPlace.2.1 114 = .ok (.goto 23, 3) := by decide +kernel
theorem d_D_beginAtPlace_117 : decode m_D_beginAtPlace.2.1 117 = .ok (.aload_n 0, 1) := by decide +kernel
theorem d_D_beginAtPlace_118 : decode m_D_beginAtPlace.2.1 118 = .ok (.aload_n 1, 1) := by decide +kernel
theorem d_D_beginAtPlace_119 : decode m_D_beginAtPlace.2.1 119 = .ok (.aload 4, 2) := by decide +kernel
theorem d_D_beginAtPlace_121 : decode m_D_beginAtPlace.2.1 121 = .ok (.aload_n 2, 1) := by decide +kernel
theorem d_D_beginAtPlace_122 : decode m_D_beginAtPlace.2.1 122 = .ok (.getfield 239, 3) := by decide +kernel
theorem d_D_beginAtPlace_125 : decode m_D_beginAtPlace.2.1 125 = .ok (.invokevirtual 304, 3) := by decide +kernel
theorem d_D_beginAtPlace_128 : decode m_D_beginAtPlace.2.1 128 = .ok (.goto 9, 3) := by decide +kernel
theorem d_D_beginAtPlace_131 : decode m_D_beginAtPlace.2.1 131 = .ok (.aload_n 0, 1) := by decide +kernel
theorem d_D_beginAtPlace_132 : decode m_D_beginAtPlace.2.1 132 = .ok (.aload 4, 2) := by decide +kernel
theorem d_D_beginAtPlace_134 : decode m_D_beginAtPlace.2.1 134 = .ok (.invokevirtual 307, 3) := by decide +kernel
theorem d_D_beginAtPlace_137 : decode m_D_beginAtPlace.2.1 137 = .ok (.return_, 1) := by decide +kernel
theorem d_D_beginAwait_0 : decode m_D_beginAwait.2.1 0 = .ok (.aload_n 2, 1) := by decide +kernel
theorem d_D_beginAwait_1 : decode m_D_beginAwait.2.1 1 = .ok (.getfield 158, 3) := by decide +kernel
theorem d_D_beginAwait_4 : decode m_D_beginAwait.2.1 4 = .ok (.ifCond .eq 12, 3) := by decide +kernel
theorem d_D_beginAwait_7 : decode m_D_beginAwait.2.1 7 = .ok (.aload_n 1, 1) := by decide +kernel
theorem d_D_beginAwait_8 : decode m_D_beginAwait.2.1 8 = .ok (.aload_n 2, 1) := by decide +kernel
theorem d_D_beginAwait_9 : decode m_D_beginAwait.2.1 9 = .ok (.getfield 161, 3) := by decide +kernel
theorem d_D_beginAwait_12 : decode m_D_beginAwait.2.1 12 = .ok (.invokevirtual 242, 3) := by decide +kernel
theorem d_D_beginAwait_15 : decode m_D_beginAwait.2.1 15 = .ok (.return_, 1) := by decide +kernel
theorem d_D_beginAwait_16 : decode m_D_beginAwait.2.1 16 = .ok (.aload_n 1, 1) := by decide +kernel
theorem d_D_beginAwait_17 : decode m_D_beginAwait.2.1 17 = .ok (.iconst 5, 1) := by decide +kernel
theorem d_D_beginAwait_18 : decode m_D_beginAwait.2.1 18 = .ok (.iload_n 3, 1) := by decide +kernel
theorem d_D_beginAwait_19 : decode m_D_beginAwait.2.1 19 = .ok (.invokevirtual 291, 3) := by decide +kernel
theorem d_D_beginAwait_22 : decode m_D_beginAwait.2.1 22 = .ok (.aload_n 2, 1) := by decide +kernel
theorem d_D_beginAwait_23 : decode m_D_beginAwait.2.1 23 = .ok (.getfield 167, 3) := by decide +kernel
theorem d_D_beginAwait_26 : decode m_D_beginAwait.2.1 26 = .ok (.aload_n 1, 1) := by decide +kernel
theorem d_D_beginAwait_27 : decode m_D_beginAwait.2.1 27 = .ok (.getfield 173, 3) := by decide +kernel
theorem d_D_beginAwait_30 : decode m_D_beginAwait.2.1 30 = .ok (.invokevirtual 226, 3) := by decide +kernel
theorem d_D_beginAwait_33 : decode m_D_beginAwait.2.1 33 = .ok (.return_, 1) := by decide +kernel
theorem d_D_beginTake_0 : decode m_D_beginTake.2.1 0 = .ok (.aload_n 2, 1) := by decide +kernel
theorem d_D_beginTake_1 : decode m_D_beginTake.2.1 1 = .ok (.getfield 164, 3) := by decide +kernel
theorem d_D_beginTake_4 : decode m_D_beginTake.2.1 4 = .ok (.ifCond .le 14, 3) := by decide +kernel
theorem d_D_beginTake_7 : decode m_D_beginTake.2.1 7 = .ok (.aload_n 2, 1) := by decide +kernel
theorem d_D_beginTake_8 : decode m_D_beginTake.2.1 8 = .ok (.dup, 1) := by decide +kernel
theorem d_D_beginTake_9 : decode m_D_beginTake.2.1 9 = .ok (.getfield 164, 3) := by decide +kernel
theorem d_D_beginTake_12 : decode m_D_beginTake.2.1 12 = .ok (.iconst 1, 1) := by decide +kernel
theorem d_D_beginTake_13 : decode m_D_beginTake.2.1 13 = .ok (.isub, 1) := by decide +kernel
theorem d_D_beginTake_14 : decode m_D_beginTake.2.1 14 = .ok (.putfield 164, 3) := by decide +kernel
theorem d_D_beginTake_17 : decode m_D_beginTake.2.1 17 = .ok (.return_, 1) := by decide +kernel
theorem d_D_beginTake_18 : decode m_D_beginTake.2.1 18 = .ok (.aload_n 1, 1) := by decide +kernel
theorem d_D_beginTake_19 : decode m_D_beginTake.2.1 19 = .ok (.bipush 6, 2) := by decide +kernel
theorem d_D_beginTake_21 : decode m_D_beginTake.2.1 21 = .ok (.iload_n 3, 1) := by decide +kernel
theorem d_D_beginTake_22 : decode m_D_beginTake.2.1 22 = .ok (.invokevirtual 291, 3) := by decide +kernel
theorem d_D_beginTake_25 : decode m_D_beginTake.2.1 25 = .ok (.aload_n 2, 1) := by decide +kernel
theorem d_D_beginTake_26 : decode m_D_beginTake.2.1 26 = .ok (.getfield 170, 3) := by decide +kernel
theorem d_D_beginTake_29 : decode m_D_beginTake.2.1 29 = .ok (.aload_n 1, 1) := by decide +kernel
theorem d_D_beginTake_30 : decode m_D_beginTake.2.1 30 = .ok (.getfield 173, 3) := by decide +kernel
theorem d_D_beginTake_33 : decode m_D_beginTake.2.1 33 = .ok (.invokevirtual 226, 3) := by decide +kernel
theorem d_D_beginTake_36 : decode m_D_beginTake.2.1 36 = .ok (.return_, 1) := by decide +kernel
theorem d_D_leaveGate_0 : decode m_D_leaveGate.2.1 0 = .ok (.aload_n 0, 1) := by decide +kernel
theorem d_D_leaveGate_1 : decode m_D_leaveGate.2.1 1 = .ok (.aload_n 1, 1) := by decide +kernel
theorem d_D_leaveGate_2 : decode m_D_leaveGate.2.1 2 = .ok (.getfield 170, 3) := by decide +kernel
theorem d_D_leaveGate_5 : decode m_D_leaveGate.2.1 5 = .ok (.invokevirtual 190, 3) := by decide +kernel
theorem d_D_leaveGate_8 : decode m_D_leaveGate.2.1 8 = .ok (.invokevirtual 94, 3) := by decide +kernel
theorem d_D_leaveGate_11 : decode m_D_leaveGate.2.1 11 = .ok (.astore_n 2, 1) := by decide +kernel
theorem d_D_leaveGate_12 : decode m_D_leaveGate.2.1 12 = .ok (.aload_n 2, 1) := by decide +kernel
theorem d_D_leaveGate_13 : decode m_D_leaveGate.2.1 13 = .ok (.ifnonnull 16, 3) := by decide +kernel
theorem d_D_leaveGate_16 : decode m_D_leaveGate.2.1 16 = .ok (.aload_n 1, 1) := by decide +kernel
theorem d_D_leaveGate_17 : decode m_D_leaveGate.2.1 17 = .ok (.dup, 1) := by decide +kernel
theorem d_D_leaveGate_18 : decode m_D_leaveGate.2.1 18 = .ok (.getfield 164, 3) := by decide +kernel
theorem d_D_leaveGate_21 : decode m_D_leaveGate.2.1 21 = .ok (.iconst 1, 1) := by decide +kernel
theorem d_D_leaveGate_22 : decode m_D_leaveGate.2.1 22 = .ok (.iadd, 1) := by decide +kernel
theorem d_D_leaveGate_23 : decode m_D_leaveGate.2.1 23 = .ok (.putfield 164, 3) := by decide +kernel
theorem d_D_leaveGate_26 : decode m_D_leaveGate.2.1 26 = .ok (.goto 8, 3) := by decide +kernel
theorem d_D_leaveGate_29 : decode m_D_leaveGate.2.1 29 = .ok (.aload_n 0, 1) := by decide +kernel
theorem d_D_leaveGate_30 : decode m_D_leaveGate.2.1 30 = .ok (.aload_n 2, 1) := by decide +kernel
theorem d_D_leaveGate_31 : decode m_D_leaveGate.2.1 31 = .ok (.invokevirtual 233, 3) := by decide +kernel
theorem d_D_leaveGate_34 : decode m_D_leaveGate.2.1 34 = .ok (.return_, 1) := by decide +kernel
theorem d_D_keepPromise_0 : decode m_D_keepPromise.2.1 0 = .ok (.aload_n 1, 1) := by decide +kernel
theorem d_D_keepPromise_1 : decode m_D_keepPromise.2.1 1 = .ok (.getfield 158, 3) := by decide +kernel
theorem d_D_keepPromise_4 : decode m_D_keepPromise.2.1 4 = .ok (.ifCond .eq 5, 3) := by decide +kernel
theorem d_D_keepPromise_7 : decode m_D_keepPromise.2.1 7 = .ok (.iconst 0, 1) := by decide +kernel
theorem d_D_keepPromise_8 : decode m_D_keepPromise.2.1 8 = .ok (.ireturn, 1) := by decide +kernel
theorem d_D_keepPromise_9 : decode m_D_keepPromise.2.1 9 = .ok (.aload_n 1, 1) := by decide +kernel
theorem d_D_keepPromise_10 : decode m_D_keepPromise.2.1 10 = .ok (.iconst 1, 1) := by decide +kernel
theorem d_D_keepPromise_11 : decode m_D_keepPromise.2.1 11 = .ok (.putfield 158, 3) := by decide +kernel
theorem d_D_keepPromise_14 : decode m_D_keepPromise.2.1 14 = .ok (.aload_n 1, 1) := by decide +kernel
theorem d_D_keepPromise_15 : decode m_D_keepPromise.2.1 15 = .ok (.iload_n 2, 1) := by decide +kernel
theorem d_D_keepPromise_16 : decode m_D_keepPromise.2.1 16 = .ok (.putfield 161, 3) := by decide +kernel
theorem d_D_keepPromise_19 : decode m_D_keepPromise.2.1 19 = .ok (.iconst 0, 1) := by decide +kernel
theorem d_D_keepPromise_20 : decode m_D_keepPromise.2.1 20 = .ok (.istore_n 3, 1) := by decide +kernel
theorem d_D_keepPromise_21 : decode m_D_keepPromise.2.1 21 = .ok (.iload_n 3, 1) := by decide +kernel
theorem d_D_keepPromise_22 : decode m_D_keepPromise.2.1 22 = .ok (.aload_n 1, 1) := by decide +kernel
theorem d_D_keepPromise_23 : decode m_D_keepPromise.2.1 23 = .ok (.getfield 167, 3) := by decide +kernel
theorem d_D_keepPromise_26 : decode m_D_keepPromise.2.1 26 = .ok (.getfield 148, 3) := by decide +kernel
theorem d_D_keepPromise_29 : decode m_D_keepPromise.2.1 29 = .ok (.if_icmp .ge 40, 3) := by decide +kernel
theorem d_D_keepPromise_32 : decode m_D_keepPromise.2.1 32 = .ok (.aload_n 0, 1) := by decide +kernel
theorem d_D_keepPromise_33 : decode m_D_keepPromise.2.1 33 = .ok (.aload_n 1, 1) := by decide +kernel
theorem d_D_keepPromise_34 : decode m_D_keepPromise.2.1 34 = .ok (.getfield 167, 3) := by decide +kernel
theorem d_D_keepPromise_37 : decode m_D_keepPromise.2.1 37 = .ok (.iload_n 3, 1) := by decide +kernel
theorem d_D_keepPromise_38 : decode m_D_keepPromise.2.1 38 = .ok (.invokevirtual 151, 3) := by decide +kernel
theorem d_D_keepPromise_41 : decode m_D_keepPromise.2.1 41 = .ok (.invokevirtual 94, 3) := by decide +kernel
theorem d_D_keepPromise_44 : decode m_D_keepPromise.2.1 44 = .ok (.astore 4, 2) := by decide +kernel
theorem d_D_keepPromise_46 : decode m_D_keepPromise.2.1 46 = .ok (.aload 4, 2) := by decide +kernel
theorem d_D_keepPromise_48 : decode m_D_keepPromise.2.1 48 = .ok (.ifnull 15, 3) := by decide +kernel
theorem d_D_keepPromise_51 : decode m_D_keepPromise.2.1 51 = .ok (.aload 4, 2) := by decide +kernel
theorem d_D_keepPromise_53 : decode m_D_keepPromise.2.1 53 = .ok (.iload_n 2, 1) := by decide +kernel
theorem d_D_keepPromise_54 : decode m_D_keepPromise.2.1 54 = .ok (.invokevirtual 242, 3) := by decide +kernel
theorem d_D_keepPromise_57 : decode m_D_keepPromise.2.1 57 = .ok (.aload_n 0, 1) := by decide +kernel
theorem d_D_keepPromise_58 : decode m_D_keepPromise.2.1 58 = .ok (.aload 4, 2) := by decide +kernel
theorem d_D_keepPromise_60 : decode m_D_keepPromise.2.1 60 = .ok (.invokevirtual 233, 3) := by decide +kernel
theorem d_D_keepPromise_63 : decode m_D_keepPromise.2.1 63 = .ok (.iinc 3 1, 3) := by decide +kernel
theorem d_D_keepPromise_66 : decode m_D_keepPromise.2.1 66 = .ok (.goto (-45), 3) := by decide +kernel
theorem d_D_keepPromise_69 : decode m_D_keepPromise.2.1 69 = .ok (.aload_n 1, 1) := by decide +kernel
theorem d_D_keepPromise_70 : decode m_D_keepPromise.2.1 70 = .ok (.getfield 167, 3) := by decide +kernel
theorem d_D_keepPromise_73 : decode m_D_keepPromise.2.1 73 = .ok (.invokevirtual 186, 3) := by decide +kernel
theorem d_D_keepPromise_76 : decode m_D_keepPromise.2.1 76 = .ok (.iconst 1, 1) := by decide +kernel
theorem d_D_keepPromise_77 : decode m_D_keepPromise.2.1 77 = .ok (.ireturn, 1) := by decide +kernel
theorem d_D_sendInterrupt_0 : decode m_D_sendInterrupt.2.1 0 = .ok (.aload_n 1, 1) := by decide +kernel
theorem d_D_sendInterrupt_1 : decode m_D_sendInterrupt.2.1 1 = .ok (.getfield 98, 3) := by decide +kernel
theorem d_D_sendInterrupt_4 : decode m_D_sendInterrupt.2.1 4 = .ok (.ifCond .ne 10, 3) := by decide +kernel
theorem d_D_sendInterrupt_7 : decode m_D_sendInterrupt.2.1 7 = .ok (.aload_n 1, 1) := by decide +kernel
theorem d_D_sendInterrupt_8 : decode m_D_sendInterrupt.2.1 8 = .ok (.getfield 123, 3) := by decide +kernel
theorem d_D_sendInterrupt_11 : decode m_D_sendInterrupt.2.1 11 = .ok (.ifCond .eq 4, 3) := by decide +kernel
theorem d_D_sendInterrupt_14 : decode m_D_sendInterrupt.2.1 14 = .ok (.return_, 1) := by decide +kernel
theorem d_D_sendInterrupt_15 : decode m_D_sendInterrupt.2.1 15 = .ok (.aload_n 1, 1) := by decide +kernel
theorem d_D_sendInterrupt_16 : decode m_D_sendInterrupt.2.1 16 = .ok (.iconst 1, 1) := by decide +kernel
theorem d_D_sendInterrupt_17 : decode m_D_sendInterrupt.2.1 17 = .ok (.putfield 123, 3) := by decide +kernel
theorem d_D_sendInterrupt_20 : decode m_D_sendInterrupt.2.1 20 = .ok (.aload_n 1, 1) := by decide +kernel
theorem d_D_sendInterrupt_21 : decode m_D_sendInterrupt.2.1 21 = .ok (.iload_n 2, 1) := by decide +kernel
theorem d_D_sendInterrupt_22 : decode m_D_sendInterrupt.2.1 22 = .ok (.putfield 193, 3) := by decide +kernel
theorem d_D_sendInterrupt_25 : decode m_D_sendInterrupt.2.1 25 = .ok (.aload_n 1, 1) := by decide +kernel
theorem d_D_sendInterrupt_26 : decode m_D_sendInterrupt.2.1 26 = .ok (.getfield 133, 3) := by decide +kernel
theorem d_D_sendInterrupt_29 : decode m_D_sendInterrupt.2.1 29 = .ok (.ifCond .eq 20, 3) := by decide +kernel
theorem d_D_sendInterrupt_32 : decode m_D_sendInterrupt.2.1 32 = .ok (.aload_n 1, 1) := by decide +kernel
theorem d_D_sendInterrupt_33 : decode m_D_sendInterrupt.2.1 33 = .ok (.getfield 117, 3) := by decide +kernel
theorem d_D_sendInterrupt_36 : decode m_D_sendInterrupt.2.1 36 = .ok (.ifCond .ne 13, 3) := by decide +kernel
theorem d_D_sendInterrupt_39 : decode m_D_sendInterrupt.2.1 39 = .ok (.aload_n 0, 1) := by decide +kernel
theorem d_D_sendInterrupt_40 : decode m_D_sendInterrupt.2.1 40 = .ok (.aload_n 1, 1) := by decide +kernel
theorem d_D_sendInterrupt_41 : decode m_D_sendInterrupt.2.1 41 = .ok (.invokevirtual 311, 3) := by decide +kernel
theorem d_D_sendInterrupt_44 : decode m_D_sendInterrupt.2.1 44 = .ok (.aload_n 0, 1) := by decide +kernel
theorem d_D_sendInterrupt_45 : decode m_D_sendInterrupt.2.1 45 = .ok (.aload_n 1, 1) := by decide +kernel
theorem d_D_sendInterrupt_46 : decode m_D_sendInterrupt.2.1 46 = .ok (.invokevirtual 233, 3) := by decide +kernel
theorem d_D_sendInterrupt_49 : decode m_D_sendInterrupt.2.1 49 = .ok (.return_, 1) := by decide +kernel
theorem d_D_leaveLine_0 : decode m_D_leaveLine.2.1 0 = .ok (.aload_n 0, 1) := by decide +kernel
theorem d_D_leaveLine_1 : decode m_D_leaveLine.2.1 1 = .ok (.aload_n 1, 1) := by decide +kernel
theorem d_D_leaveLine_2 : decode m_D_leaveLine.2.1 2 = .ok (.getfield 314, 3) := by decide +kernel
theorem d_D_leaveLine_5 : decode m_D_leaveLine.2.1 5 = .ok (.invokevirtual 106, 3) := by decide +kernel
theorem d_D_leaveLine_8 : decode m_D_leaveLine.2.1 8 = .ok (.astore_n 2, 1) := by decide +kernel
theorem d_D_leaveLine_9 : decode m_D_leaveLine.2.1 9 = .ok (.aload_n 2, 1) := by decide +kernel
theorem d_D_leaveLine_10 : decode m_D_leaveLine.2.1 10 = .ok (.ifnonnull 4, 3) := by decide +kernel
theorem d_D_leaveLine_13 : decode m_D_leaveLine.2.1 13 = .ok (.return_, 1) := by decide +kernel
theorem d_D_leaveLine_14 : decode m_D_leaveLine.2.1 14 = .ok (.aload_n 1, 1) := by decide +kernel
theorem d_D_leaveLine_15 : decode m_D_leaveLine.2.1 15 = .ok (.getfield 133, 3) := by decide +kernel
theorem d_D_leaveLine_18 : decode m_D_leaveLine.2.1 18 = .ok (.iconst 5, 1) := by decide +kernel
theorem d_D_leaveLine_19 : decode m_D_leaveLine.2.1 19 = .ok (.if_icmp .ne 17, 3) := by decide +kernel
theorem d_D_leaveLine_22 : decode m_D_leaveLine.2.1 22 = .ok (.aload_n 2, 1) := by decide +kernel
theorem d_D_leaveLine_23 : decode m_D_leaveLine.2.1 23 = .ok (.getfield 167, 3) := by decide +kernel
theorem d_D_leaveLine_26 : decode m_D_leaveLine.2.1 26 = .ok (.aload_n 1, 1) := by decide +kernel
theorem d_D_leaveLine_27 : decode m_D_leaveLine.2.1 27 = .ok (.getfield 173, 3) := by decide +kernel
theorem d_D_leaveLine_30 : decode m_D_leaveLine.2.1 30 = .ok (.invokevirtual 317, 3) := by decide +kernel
theorem d_D_leaveLine_33 : decode m_D_leaveLine.2.1 33 = .ok (.goto 23, 3) := by decide +kernel
theorem d_D_leaveLine_36 : decode m_D_leaveLine.2.1 36 = .ok (.aload_n 1, 1) := by decide +kernel
theorem d_D_leaveLine_37 : decode m_D_leaveLine.2.1 37 = .ok (.getfield 133, 3) := by decide +kernel
theorem d_D_leaveLine_40 : decode m_D_leaveLine.2.1 40 = .ok (.bipush 6, 2) := by decide +kernel
theorem d_D_leaveLine_42 : decode m_D_leaveLine.2.1 42 = .ok (.if_icmp .ne 14, 3) := by decide +kernel
theorem d_D_leaveLine_45 : decode m_D_leaveLine.2.1 45 = .ok (.aload_n 2, 1) := by decide +kernel
theorem d_D_leaveLine_46 : decode m_D_leaveLine.2.1 46 = .ok (.getfield 170, 3) := by decide +kernel
theorem d_D_leaveLine_49 : decode m_D_leaveLine.2.1 49 = .ok (.aload_n 1, 1) := by decide +kernel
theorem d_D_leaveLine_50 : decode m_D_leaveLine.2.1 50 = .ok (.getfield 173, 3) := by decide +kernel
theorem d_D_leaveLine_53 : decode m_D_leaveLine.2.1 53 = .ok (.invokevirtual 317, 3) := by decide +kernel
theorem d_D_leaveLine_56 : decode m_D_leaveLine.2.1 56 = .ok (.return_, 1) := by decide +kernel
theorem d_D_end_0 : decode m_D_end.2.1 0 = .ok (.aload_n 1, 1) := by decide +kernel
theorem d_D_end_1 : decode m_D_end.2.1 1 = .ok (.iconst 1, 1) := by decide +kernel
theorem d_D_end_2 : decode m_D_end.2.1 2 = .ok (.putfield 98, 3) := by decide +kernel
theorem d_D_end_5 : decode m_D_end.2.1 5 = .ok (.iconst 0, 1) := by decide +kernel
theorem d_D_end_6 : decode m_D_end.2.1 6 = .ok (.istore_n 2, 1) := by decide +kernel
theorem d_D_end_7 : decode m_D_end.2.1 7 = .ok (.iload_n 2, 1) := by decide +kernel
theorem d_D_end_8 : decode m_D_end.2.1 8 = .ok (.aload_n 0, 1) := by decide +kernel
theorem d_D_end_9 : decode m_D_end.2.1 9 = .ok (.getfield 25, 3) := by decide +kernel
theorem d_D_end_12 : decode m_D_end.2.1 12 = .ok (.if_icmp .ge 57, 3) := by decide +kernel
theorem d_D_end_15 : decode m_D_end.2.1 15 = .ok (.aload_n 0, 1) := by decide +kernel
theorem d_D_end_16 : decode m_D_end.2.1 16 = .ok (.iload_n 2, 1) := by decide +kernel
theorem d_D_end_17 : decode m_D_end.2.1 17 = .ok (.invokevirtual 94, 3) := by decide +kernel
theorem d_D_end_20 : decode m_D_end.2.1 20 = .ok (.astore_n 3, 1) := by decide +kernel
theorem d_D_end_21 : decode m_D_end.2.1 21 = .ok (.aload_n 3, 1) := by decide +kernel
theorem d_D_end_22 : decode m_D_end.2.1 22 = .ok (.ifnull 20, 3) := by decide +kernel
theorem d_D_end_25 : decode m_D_end.2.1 25 = .ok (.aload_n 3, 1) := by decide +kernel
theorem d_D_end_26 : decode m_D_end.2.1 26 = .ok (.getfield 133, 3) := by decide +kernel
theorem d_D_end_29 : decode m_D_end.2.1 29 = .ok (.iconst 3, 1) := by decide +kernel
theorem d_D_end_30 : decode m_D_end.2.1 30 = .ok (.if_icmp .ne 12, 3) := by decide +kernel
theorem d_D_end_33 : decode m_D_end.2.1 33 = .ok (.aload_n 0, 1) := by decide +kernel
theorem d_D_end_34 : decode m_D_end.2.1 34 = .ok (.aload_n 3, 1) := by decide +kernel
theorem d_D_end_35 : decode m_D_end.2.1 35 = .ok (.aload_n 1, 1) := by decide +kernel
theorem d_D_end_36 : decode m_D_end.2.1 36 = .ok (.invokevirtual 320, 3) := by decide +kernel
theorem d_D_end_39 : decode m_D_end.2.1 39 = .ok (.goto 24, 3) := by decide +kernel
theorem d_D_end_42 : decode m_D_end.2.1 42 = .ok (.aload_n 3, 1) := by decide +kernel
theorem d_D_end_43 : decode m_D_end.2.1 43 = .ok (.ifnull 20, 3) := by decide +kernel
theorem d_D_end_46 : decode m_D_end.2.1 46 = .ok (.aload_n 3, 1) := by decide +kernel
theorem d_D_end_47 : decode m_D_end.2.1 47 = .ok (.getfield 314, 3) := by decide +kernel
theorem d_D_end_50 : decode m_D_end.2.1 50 = .ok (.aload_n 1, 1) := by decide +kernel
theorem d_D_end_51 : decode m_D_end.2.1 51 = .ok (.getfield 173, 3) := by decide +kernel
theorem d_D_end_54 : decode m_D_end.2.1 54 = .ok (.if_icmp .ne 9, 3) := by decide +kernel
theorem d_D_end_57 : decode m_D_end.2.1 57 = .ok (.aload_n 0, 1) := by decide +kernel
theorem d_D_end_58 : decode m_D_end.2.1 58 = .ok (.aload_n 3, 1) := by decide +kernel
theorem d_D_end_59 : decode m_D_end.2.1 59 = .ok (.aload_n 1, 1) := by decide +kernel
theorem d_D_end_60 : decode m_D_end.2.1 60 = .ok (.invokevirtual 324, 3) := by decide +kernel
theorem d_D_end_63 : decode m_D_end.2.1 63 = .ok (.iinc 2 1, 3) := by decide +kernel
theorem d_D_end_66 : decode m_D_end.2.1 66 = .ok (.goto (-59), 3) := by decide +kernel
theorem d_D_end_69 : decode m_D_end.2.1 69 = .ok (.iconst 0, 1) := by decide +kernel
theorem d_D_end_70 : decode m_D_end.2.1 70 = .ok (.istore_n 2, 1) := by decide +kernel
theorem d_D_end_71 : decode m_D_end.2.1 71 = .ok (.iload_n 2, 1) := by decide +kernel
theorem d_D_end_72 : decode m_D_end.2.1 72 = .ok (.aload_n 0, 1) := by decide +kernel
theorem d_D_end_73 : decode m_D_end.2.1 73 = .ok (.getfield 25, 3) := by decide +kernel
theorem d_D_end_76 : decode m_D_end.2.1 76 = .ok (.if_icmp .ge 39, 3) := by decide +kernel
theorem d_D_end_79 : decode m_D_end.2.1 79 = .ok (.aload_n 0, 1) := by decide +kernel
theorem d_D_end_80 : decode m_D_end.2.1 80 = .ok (.iload_n 2, 1) := by decide +kernel
theorem d_D_end_81 : decode m_D_end.2.1 81 = .ok (.invokevirtual 94, 3) := by decide +kernel
theorem d_D_end_84 : decode m_D_end.2.1 84 = .ok (.astore_n 3, 1) := by decide +kernel
theorem d_D_end_85 : decode m_D_end.2.1 85 = .ok (.aload_n 3, 1) := by decide +kernel
theorem d_D_end_86 : decode m_D_end.2.1 86 = .ok (.ifnull 23, 3) := by decide +kernel
theorem d_D_end_89 : decode m_D_end.2.1 89 = .ok (.aload_n 3, 1) := by decide +kernel
theorem d_D_end_90 : decode m_D_end.2.1 90 = .ok (.getfield 126, 3) := by decide +kernel
theorem d_D_end_93 : decode m_D_end.2.1 93 = .ok (.aload_n 1, 1) := by decide +kernel
theorem d_D_end_94 : decode m_D_end.2.1 94 = .ok (.getfield 173, 3) := by decide +kernel
theorem d_D_end_97 : decode m_D_end.2.1 97 = .ok (.if_icmp .ne 12, 3) := by decide +kernel
theorem d_D_end_100 : decode m_D_end.2.1 100 = .ok (.aload_n 0, 1) := by decide +kernel
theorem d_D_end_101 : decode m_D_end.2.1 101 = .ok (.aload_n 3, 1) := by decide +kernel
theorem d_D_end_102 : decode m_D_end.2.1 102 = .ok (.aload_n 1, 1) := by decide +kernel
theorem d_D_end_103 : decode m_D_end.2.1 103 = .ok (.getfield 173, 3) := by decide +kernel
theorem d_D_end_106 : decode m_D_end.2.1 106 = .ok (.invokevirtual 102, 3) := by decide +kernel
theorem d_D_end_109 : decode m_D_end.2.1 109 = .ok (.iinc 2 1, 3) := by decide +kernel
theorem d_D_end_112 : decode m_D_end.2.1 112 = .ok (.goto (-41), 3) := by decide +kernel
theorem d_D_end_115 : decode m_D_end.2.1 115 = .ok (.return_, 1) := by decide +kernel
theorem d_D_tellEnd_0 : decode m_D_tellEnd.2.1 0 = .ok (.aload_n 1, 1) := by decide +kernel
theorem d_D_tellEnd_1 : decode m_D_tellEnd.2.1 1 = .ok (.getfield 133, 3) := by decide +kernel
theorem d_D_tellEnd_4 : decode m_D_tellEnd.2.1 4 = .ok (.iconst 1, 1) := by decide +kernel
theorem d_D_tellEnd_5 : decode m_D_tellEnd.2.1 5 = .ok (.if_icmp .ne 23, 3) := by decide +kernel
theorem d_D_tellEnd_8 : decode m_D_tellEnd.2.1 8 = .ok (.aload_n 1, 1) := by decide +kernel
theorem d_D_tellEnd_9 : decode m_D_tellEnd.2.1 9 = .ok (.aload_n 2, 1) := by decide +kernel
theorem d_D_tellEnd_10 : decode m_D_tellEnd.2.1 10 = .ok (.getfield 129, 3) := by decide +kernel
theorem d_D_tellEnd_13 : decode m_D_tellEnd.2.1 13 = .ok (.aload_n 2, 1) := by decide +kernel
theorem d_D_tellEnd_14 : decode m_D_tellEnd.2.1 14 = .ok (.getfield 136, 3) := by decide +kernel
theorem d_D_tellEnd_17 : decode m_D_tellEnd.2.1 17 = .ok (.invokevirtual 287, 3) := by decide +kernel
theorem d_D_tellEnd_20 : decode m_D_tellEnd.2.1 20 = .ok (.aload_n 0, 1) := by decide +kernel
theorem d_D_tellEnd_21 : decode m_D_tellEnd.2.1 21 = .ok (.aload_n 1, 1) := by decide +kernel
theorem d_D_tellEnd_22 : decode m_D_tellEnd.2.1 22 = .ok (.invokevirtual 233, 3) := by decide +kernel
theorem d_D_tellEnd_25 : decode m_D_tellEnd.2.1 25 = .ok (.goto 16, 3) := by decide +kernel
theorem d_D_tellEnd_28 : decode m_D_tellEnd.2.1 28 = .ok (.aload_n 1, 1) := by decide +kernel
theorem d_D_tellEnd_29 : decode m_D_tellEnd.2.1 29 = .ok (.getfield 133, 3) := by decide +kernel
theorem d_D_tellEnd_32 : decode m_D_tellEnd.2.1 32 = .ok (.iconst 2, 1) := by decide +kernel
theorem d_D_tellEnd_33 : decode m_D_tellEnd.2.1 33 = .ok (.if_icmp .ne 8, 3) := by decide +kernel
theorem d_D_tellEnd_36 : decode m_D_tellEnd.2.1 36 = .ok (.aload_n 0, 1) := by decide +kernel
theorem d_D_tellEnd_37 : decode m_D_tellEnd.2.1 37 = .ok (.aload_n 1, 1) := by decide +kernel
theorem d_D_tellEnd_38 : decode m_D_tellEnd.2.1 38 = .ok (.invokevirtual 233, 3) := by decide +kernel
theorem d_D_tellEnd_41 : decode m_D_tellEnd.2.1 41 = .ok (.return_, 1) := by decide +kernel
theorem d_D_tellRace_0 : decode m_D_tellRace.2.1 0 = .ok (.aload_n 0, 1) := by decide +kernel
theorem d_D_tellRace_1 : decode m_D_tellRace.2.1 1 = .ok (.aload_n 1, 1) := by decide +kernel
theorem d_D_tellRace_2 : decode m_D_tellRace.2.1 2 = .ok (.getfield 314, 3) := by decide +kernel
theorem d_D_tellRace_5 : decode m_D_tellRace.2.1 5 = .ok (.invokevirtual 94, 3) := by decide +kernel
theorem d_D_tellRace_8 : decode m_D_tellRace.2.1 8 = .ok (.astore_n 3, 1) := by decide +kernel
theorem d_D_tellRace_9 : decode m_D_tellRace.2.1 9 = .ok (.aload_n 0, 1) := by decide +kernel
theorem d_D_tellRace_10 : decode m_D_tellRace.2.1 10 = .ok (.aload_n 1, 1) := by decide +kernel
theorem d_D_tellRace_11 : decode m_D_tellRace.2.1 11 = .ok (.getfield 314, 3) := by decide +kernel
theorem d_D_tellRace_14 : decode m_D_tellRace.2.1 14 = .ok (.iconst 1, 1) := by decide +kernel
theorem d_D_tellRace_15 : decode m_D_tellRace.2.1 15 = .ok (.iadd, 1) := by decide +kernel
theorem d_D_tellRace_16 : decode m_D_tellRace.2.1 16 = .ok (.invokevirtual 94, 3) := by decide +kernel
theorem d_D_tellRace_19 : decode m_D_tellRace.2.1 19 = .ok (.astore 4, 2) := by decide +kernel
theorem d_D_tellRace_21 : decode m_D_tellRace.2.1 21 = .ok (.aload_n 3, 1) := by decide +kernel
theorem d_D_tellRace_22 : decode m_D_tellRace.2.1 22 = .ok (.ifnull 19, 3) := by decide +kernel
theorem d_D_tellRace_25 : decode m_D_tellRace.2.1 25 = .ok (.aload 4, 2) := by decide +kernel
theorem d_D_tellRace_27 : decode m_D_tellRace.2.1 27 = .ok (.ifnull 14, 3) := by decide +kernel
theorem d_D_tellRace_30 : decode m_D_tellRace.2.1 30 = .ok (.aload_n 2, 1) := by decide +kernel
theorem d_D_tellRace_31 : decode m_D_tellRace.2.1 31 = .ok (.aload_n 3, 1) := by decide +kernel
theorem d_D_tellRace_32 : decode m_D_tellRace.2.1 32 = .ok (.if_acmp .eq 10, 3) := by decide +kernel
theorem d_D_tellRace_35 : decode m_D_tellRace.2.1 35 = .ok (.aload_n 2, 1) := by decide +kernel
theorem d_D_tellRace_36 : decode m_D_tellRace.2.1 36 = .ok (.aload 4, 2) := by decide +kernel
theorem d_D_tellRace_38 : decode m_D_tellRace.2.1 38 = .ok (.if_acmp .eq 4, 3) := by decide +kernel
theorem d_D_tellRace_41 : decode m_D_tellRace.2.1 41 = .ok (.return_, 1) := by decide +kernel
theorem d_D_tellRace_42 : decode m_D_tellRace.2.1 42 = .ok (.aload_n 2, 1) := by decide +kernel
theorem d_D_tellRace_43 : decode m_D_tellRace.2.1 43 = .ok (.aload_n 3, 1) := by decide +kernel
theorem d_D_tellRace_44 : decode m_D_tellRace.2.1 44 = .ok (.if_acmp .ne 8, 3) := by decide +kernel
theorem d_D_tellRace_47 : decode m_D_tellRace.2.1 47 = .ok (.aload 4, 2) := by decide +kernel
theorem d_D_tellRace_49 : decode m_D_tellRace.2.1 49 = .ok (.goto 4, 3) := by decide +kernel
theorem d_D_tellRace_52 : decode m_D_tellRace.2.1 52 = .ok (.aload_n 3, 1) := by decide +kernel
theorem d_D_tellRace_53 : decode m_D_tellRace.2.1 53 = .ok (.astore 5, 2) := by decide +kernel
theorem d_D_tellRace_55 : decode m_D_tellRace.2.1 55 = .ok (.aload 5, 2) := by decide +kernel
theorem d_D_tellRace_57 : decode m_D_tellRace.2.1 57 = .ok (.getfield 98, 3) := by decide +kernel
theorem d_D_tellRace_60 : decode m_D_tellRace.2.1 60 = .ok (.ifCond .eq 33, 3) := by decide +kernel
theorem d_D_tellRace_63 : decode m_D_tellRace.2.1 63 = .ok (.aload_n 0, 1) := by decide +kernel
theorem d_D_tellRace_64 : decode m_D_tellRace.2.1 64 = .ok (.aload_n 1, 1) := by decide +kernel
theorem d_D_tellRace_65 : decode m_D_tellRace.2.1 65 = .ok (.aload_n 3, 1) := by decide +kernel
theorem d_D_tellRace_66 : decode m_D_tellRace.2.1 66 = .ok (.aload 4, 2) := by decide +kernel
theorem d_D_tellRace_68 : decode m_D_tellRace.2.1 68 = .ok (.aload 5, 2) := by decide +kernel
theorem d_D_tellRace_70 : decode m_D_tellRace.2.1 70 = .ok (.getfield 136, 3) := by decide +kernel
theorem d_D_tellRace_73 : decode m_D_tellRace.2.1 73 = .ok (.ifnonnull 8, 3) := by decide +kernel
theorem d_D_tellRace_76 : decode m_D_tellRace.2.1 76 = .ok (.aload 5, 2) := by decide +kernel
theorem d_D_tellRace_78 : decode m_D_tellRace.2.1 78 = .ok (.goto 4, 3) := by decide +kernel
theorem d_D_tellRace_81 : decode m_D_tellRace.2.1 81 = .ok (.aload_n 2, 1) := by decide +kernel
theorem d_D_tellRace_82 : decode m_D_tellRace.2.1 82 = .ok (.invokevirtual 327, 3) := by decide +kernel
theorem d_D_tellRace_85 : decode m_D_tellRace.2.1 85 = .ok (.aload_n 0, 1) := by decide +kernel
theorem d_D_tellRace_86 : decode m_D_tellRace.2.1 86 = .ok (.aload_n 1, 1) := by decide +kernel
theorem d_D_tellRace_87 : decode m_D_tellRace.2.1 87 = .ok (.invokevirtual 233, 3) := by decide +kernel
theorem d_D_tellRace_90 : decode m_D_tellRace.2.1 90 = .ok (.goto 20, 3) := by decide +kernel
theorem d_D_tellRace_93 : decode m_D_tellRace.2.1 93 = .ok (.aload_n 2, 1) := by decide +kernel
theorem d_D_tellRace_94 : decode m_D_tellRace.2.1 94 = .ok (.getfield 136, 3) := by decide +kernel
theorem d_D_tellRace_97 : decode m_D_tellRace.2.1 97 = .ok (.ifnonnull 13, 3) := by decide +kernel
theorem d_D_tellRace_100 : decode m_D_tellRace.2.1 100 = .ok (.aload_n 0, 1) := by decide +kernel
theorem d_D_tellRace_101 : decode m_D_tellRace.2.1 101 = .ok (.aload 5, 2) := by decide +kernel
theorem d_D_tellRace_103 : decode m_D_tellRace.2.1 103 = .ok (.aload_n 1, 1) := by decide +kernel
theorem d_D_tellRace_104 : decode m_D_tellRace.2.1 104 = .ok (.getfield 173, 3) := by decide +kernel
theorem d_D_tellRace_107 : decode m_D_tellRace.2.1 107 = .ok (.invokevirtual 102, 3) := by decide +kernel
theorem d_D_tellRace_110 : decode m_D_tellRace.2.1 110 = .ok (.return_, 1) := by decide +kernel
theorem d_D_giveRaceExit_0 : decode m_D_giveRaceExit.2.1 0 = .ok (.aload 4, 2) := by decide +kernel
theorem d_D_giveRaceExit_2 : decode m_D_giveRaceExit.2.1 2 = .ok (.getfield 136, 3) := by decide +kernel
theorem d_D_giveRaceExit_5 : decode m_D_giveRaceExit.2.1 5 = .ok (.ifnonnull 15, 3) := by decide +kernel
theorem d_D_giveRaceExit_8 : decode m_D_giveRaceExit.2.1 8 = .ok (.aload_n 1, 1) := by decide +kernel
theorem d_D_giveRaceExit_9 : decode m_D_giveRaceExit.2.1 9 = .ok (.aload 4, 2) := by decide +kernel
theorem d_D_giveRaceExit_11 : decode m_D_giveRaceExit.2.1 11 = .ok (.getfield 129, 3) := by decide +kernel
theorem d_D_giveRaceExit_14 : decode m_D_giveRaceExit.2.1 14 = .ok (.invokevirtual 242, 3) := by decide +kernel
theorem d_D_giveRaceExit_17 : decode m_D_giveRaceExit.2.1 17 = .ok (.goto 33, 3) := by decide +kernel
theorem d_D_giveRaceExit_20 : decode m_D_giveRaceExit.2.1 20 = .ok (.aload_n 2, 1) := by decide +kernel
theorem d_D_giveRaceExit_21 : decode m_D_giveRaceExit.2.1 21 = .ok (.getfield 136, 3) := by decide +kernel
theorem d_D_giveRaceExit_24 : decode m_D_giveRaceExit.2.1 24 = .ok (.ifnull 26, 3) := by decide +kernel
theorem d_D_giveRaceExit_27 : decode m_D_giveRaceExit.2.1 27 = .ok (.aload_n 3, 1) := by decide +kernel
theorem d_D_giveRaceExit_28 : decode m_D_giveRaceExit.2.1 28 = .ok (.getfield 136, 3) := by decide +kernel
theorem d_D_giveRaceExit_31 : decode m_D_giveRaceExit.2.1 31 = .ok (.ifnull 19, 3) := by decide +kernel
theorem d_D_giveRaceExit_34 : decode m_D_giveRaceExit.2.1 34 = .ok (.aload_n 1, 1) := by decide +kernel
theorem d_D_giveRaceExit_35 : decode m_D_giveRaceExit.2.1 35 = .ok (.iconst 5, 1) := by decide +kernel
theorem d_D_giveRaceExit_36 : decode m_D_giveRaceExit.2.1 36 = .ok (.aload_n 2, 1) := by decide +kernel
theorem d_D_giveRaceExit_37 : decode m_D_giveRaceExit.2.1 37 = .ok (.getfield 136, 3) := by decide +kernel
theorem d_D_giveRaceExit_40 : decode m_D_giveRaceExit.2.1 40 = .ok (.aload_n 3, 1) := by decide +kernel
theorem d_D_giveRaceExit_41 : decode m_D_giveRaceExit.2.1 41 = .ok (.getfield 136, 3) := by decide +kernel
theorem d_D_giveRaceExit_44 : decode m_D_giveRaceExit.2.1 44 = .ok (.invokestatic 331, 3) := by decide +kernel
theorem d_D_giveRaceExit_47 : decode m_D_giveRaceExit.2.1 47 = .ok (.invokevirtual 199, 3) := by decide +kernel
theorem d_D_giveRaceExit_50 : decode m_D_giveRaceExit.2.1 50 = .ok (.return_, 1) := by decide +kernel
theorem d_D_joined_0 : decode m_D_joined.2.1 0 = .ok (.iconst 1, 1) := by decide +kernel
theorem d_D_joined_1 : decode m_D_joined.2.1 1 = .ok (.aload_n 1, 1) := by decide +kernel
theorem d_D_joined_2 : decode m_D_joined.2.1 2 = .ok (.getfield 140, 3) := by decide +kernel
theorem d_D_joined_5 : decode m_D_joined.2.1 5 = .ok (.arraylength, 1) := by decide +kernel
theorem d_D_joined_6 : decode m_D_joined.2.1 6 = .ok (.iadd, 1) := by decide +kernel
theorem d_D_joined_7 : decode m_D_joined.2.1 7 = .ok (.aload_n 2, 1) := by decide +kernel
theorem d_D_joined_8 : decode m_D_joined.2.1 8 = .ok (.getfield 140, 3) := by decide +kernel
theorem d_D_joined_11 : decode m_D_joined.2.1 11 = .ok (.arraylength, 1) := by decide +kernel
theorem d_D_joined_12 : decode m_D_joined.2.1 12 = .ok (.iadd, 1) := by decide +kernel
theorem d_D_joined_13 : decode m_D_joined.2.1 13 = .ok (.istore_n 3, 1) := by decide +kernel
theorem d_D_joined_14 : decode m_D_joined.2.1 14 = .ok (.iload_n 3, 1) := by decide +kernel
theorem d_D_joined_15 : decode m_D_joined.2.1 15 = .ok (.bipush 9, 2) := by decide +kernel
theorem d_D_joined_17 : decode m_D_joined.2.1 17 = .ok (.if_icmp .le 7, 3) := by decide +kernel
theorem d_D_joined_20 : decode m_D_joined.2.1 20 = .ok (.aload_n 1, 1) := by decide +kernel
theorem d_D_joined_21 : decode m_D_joined.2.1 21 = .ok (.goto 13, 3) := by decide +kernel
theorem d_D_joined_24 : decode m_D_joined.2.1 24 = .ok (.new 141, 3) := by decide +kernel
theorem d_D_joined_27 : decode m_D_joined.2.1 27 = .ok (.dup, 1) := by decide +kernel
theorem d_D_joined_28 : decode m_D_joined.2.1 28 = .ok (.iload_n 0, 1) := by decide +kernel
theorem d_D_joined_29 : decode m_D_joined.2.1 29 = .ok (.aload_n 1, 1) := by decide +kernel
theorem d_D_joined_30 : decode m_D_joined.2.1 30 = .ok (.aload_n 2, 1) := by decide +kernel
theorem d_D_joined_31 : decode m_D_joined.2.1 31 = .ok (.invokespecial 335, 3) := by decide +kernel
theorem d_D_joined_34 : decode m_D_joined.2.1 34 = .ok (.areturn, 1) := by decide +kernel
theorem d_C_one_0 : decode m_C_one.2.1 0 = .ok (.aload_n 0, 1) := by decide +kernel
theorem d_C_one_1 : decode m_C_one.2.1 1 = .ok (.invokespecial 3, 3) := by decide +kernel
theorem d_C_one_4 : decode m_C_one.2.1 4 = .ok (.aload_n 0, 1) := by decide +kernel
theorem d_C_one_5 : decode m_C_one.2.1 5 = .ok (.iconst 1, 1) := by decide +kernel
theorem d_C_one_6 : decode m_C_one.2.1 6 = .ok (.newarray .int, 2) := by decide +kernel
theorem d_C_one_8 : decode m_C_one.2.1 8 = .ok (.putfield 9, 3) := by decide +kernel
theorem d_C_one_11 : decode m_C_one.2.1 11 = .ok (.aload_n 0, 1) := by decide +kernel
theorem d_C_one_12 : decode m_C_one.2.1 12 = .ok (.iconst 1, 1) := by decide +kernel
theorem d_C_one_13 : decode m_C_one.2.1 13 = .ok (.newarray .int, 2) := by decide +kernel
theorem d_C_one_15 : decode m_C_one.2.1 15 = .ok (.putfield 15, 3) := by decide +kernel
theorem d_C_one_18 : decode m_C_one.2.1 18 = .ok (.aload_n 0, 1) := by decide +kernel
theorem d_C_one_19 : decode m_C_one.2.1 19 = .ok (.getfield 9, 3) := by decide +kernel
theorem d_C_one_22 : decode m_C_one.2.1 22 = .ok (.iconst 0, 1) := by decide +kernel
theorem d_C_one_23 : decode m_C_one.2.1 23 = .ok (.iload_n 1, 1) := by decide +kernel
theorem d_C_one_24 : decode m_C_one.2.1 24 = .ok (.iastore, 1) := by decide +kernel
theorem d_C_one_25 : decode m_C_one.2.1 25 = .ok (.aload_n 0, 1) := by decide +kernel
theorem d_C_one_26 : decode m_C_one.2.1 26 = .ok (.getfield 15, 3) := by decide +kernel
theorem d_C_one_29 : decode m_C_one.2.1 29 = .ok (.iconst 0, 1) := by decide +kernel
theorem d_C_one_30 : decode m_C_one.2.1 30 = .ok (.iload_n 2, 1) := by decide +kernel
theorem d_C_one_31 : decode m_C_one.2.1 31 = .ok (.iastore, 1) := by decide +kernel
theorem d_C_one_32 : decode m_C_one.2.1 32 = .ok (.return_, 1) := by decide +kernel
theorem d_C_two_0 : decode m_C_two.2.1 0 = .ok (.aload_n 0, 1) := by decide +kernel
theorem d_C_two_1 : decode m_C_two.2.1 1 = .ok (.invokespecial 3, 3) := by decide +kernel
theorem d_C_two_4 : decode m_C_two.2.1 4 = .ok (.aload_n 2, 1) := by decide +kernel
theorem d_C_two_5 : decode m_C_two.2.1 5 = .ok (.getfield 9, 3) := by decide +kernel
theorem d_C_two_8 : decode m_C_two.2.1 8 = .ok (.arraylength, 1) := by decide +kernel
theorem d_C_two_9 : decode m_C_two.2.1 9 = .ok (.istore 4, 2) := by decide +kernel
theorem d_C_two_11 : decode m_C_two.2.1 11 = .ok (.aload_n 3, 1) := by decide +kernel
theorem d_C_two_12 : decode m_C_two.2.1 12 = .ok (.getfield 9, 3) := by decide +kernel
theorem d_C_two_15 : decode m_C_two.2.1 15 = .ok (.arraylength, 1) := by decide +kernel
theorem d_C_two_16 : decode m_C_two.2.1 16 = .ok (.istore 5, 2) := by decide +kernel
theorem d_C_two_18 : decode m_C_two.2.1 18 = .ok (.aload_n 0, 1) := by decide +kernel
theorem d_C_two_19 : decode m_C_two.2.1 19 = .ok (.iconst 1, 1) := by decide +kernel
theorem d_C_two_20 : decode m_C_two.2.1 20 = .ok (.iload 4, 2) := by decide +kernel
theorem d_C_two_22 : decode m_C_two.2.1 22 = .ok (.iadd, 1) := by decide +kernel
theorem d_C_two_23 : decode m_C_two.2.1 23 = .ok (.iload 5, 2) := by decide +kernel
theorem d_C_two_25 : decode m_C_two.2.1 25 = .ok (.iadd, 1) := by decide +kernel
theorem d_C_two_26 : decode m_C_two.2.1 26 = .ok (.newarray .int, 2) := by decide +kernel
theorem d_C_two_28 : decode m_C_two.2.1 28 = .ok (.putfield 9, 3) := by decide +kernel
theorem d_C_two_31 : decode m_C_two.2.1 31 = .ok (.aload_n 0, 1) := by decide +kernel
theorem d_C_two_32 : decode m_C_two.2.1 32 = .ok (.iconst 1, 1) := by decide +kernel
theorem d_C_two_33 : decode m_C_two.2.1 33 = .ok (.iload 4, 2) := by decide +kernel
theorem d_C_two_35 : decode m_C_two.2.1 35 = .ok (.iadd, 1) := by decide +kernel
theorem d_C_two_36 : decode m_C_two.2.1 36 = .ok (.iload 5, 2) := by decide +kernel
theorem d_C_two_38 : decode m_C_two.2.1 38 = .ok (.iadd, 1) := by decide +kernel
theorem d_C_two_39 : decode m_C_two.2.1 39 = .ok (.newarray .int, 2) := by decide +kernel
theorem d_C_two_41 : decode m_C_two.2.1 41 = .ok (.putfield 15, 3) := by decide +kernel
theorem d_C_two_44 : decode m_C_two.2.1 44 = .ok (.aload_n 0, 1) := by decide +kernel
theorem d_C_two_45 : decode m_C_two.2.1 45 = .ok (.getfield 9, 3) := by decide +kernel
theorem d_C_two_48 : decode m_C_two.2.1 48 = .ok (.iconst 0, 1) := by decide +kernel
theorem d_C_two_49 : decode m_C_two.2.1 49 = .ok (.iload_n 1, 1) := by decide +kernel
theorem d_C_two_50 : decode m_C_two.2.1 50 = .ok (.iastore, 1) := by decide +kernel
theorem d_C_two_51 : decode m_C_two.2.1 51 = .ok (.aload_n 2, 1) := by decide +kernel
theorem d_C_two_52 : decode m_C_two.2.1 52 = .ok (.getfield 9, 3) := by decide +kernel
theorem d_C_two_55 : decode m_C_two.2.1 55 = .ok (.iconst 0, 1) := by decide +kernel
theorem d_C_two_56 : decode m_C_two.2.1 56 = .ok (.aload_n 0, 1) := by decide +kernel
theorem d_C_two_57 : decode m_C_two.2.1 57 = .ok (.getfield 9, 3) := by decide +kernel
theorem d_C_two_60 : decode m_C_two.2.1 60 = .ok (.iconst 1, 1) := by decide +kernel
theorem d_C_two_61 : decode m_C_two.2.1 61 = .ok (.iload 4, 2) := by decide +kernel
theorem d_C_two_63 : decode m_C_two.2.1 63 = .ok (.invokestatic 18, 3) := by decide +kernel
theorem d_C_two_66 : decode m_C_two.2.1 66 = .ok (.aload_n 2, 1) := by decide +kernel
theorem d_C_two_67 : decode m_C_two.2.1 67 = .ok (.getfield 15, 3) := by decide +kernel
theorem d_C_two_70 : decode m_C_two.2.1 70 = .ok (.iconst 0, 1) := by decide +kernel
theorem d_C_two_71 : decode m_C_two.2.1 71 = .ok (.aload_n 0, 1) := by decide +kernel
theorem d_C_two_72 : decode m_C_two.2.1 72 = .ok (.getfield 15, 3) := by decide +kernel
theorem d_C_two_75 : decode m_C_two.2.1 75 = .ok (.iconst 1, 1) := by decide +kernel
theorem d_C_two_76 : decode m_C_two.2.1 76 = .ok (.iload 4, 2) := by decide +kernel
theorem d_C_two_78 : decode m_C_two.2.1 78 = .ok (.invokestatic 18, 3) := by decide +kernel
theorem d_C_two_81 : decode m_C_two.2.1 81 = .ok (.aload_n 3, 1) := by decide +kernel
theorem d_C_two_82 : decode m_C_two.2.1 82 = .ok (.getfield 9, 3) := by decide +kernel
theorem d_C_two_85 : decode m_C_two.2.1 85 = .ok (.iconst 0, 1) := by decide +kernel
theorem d_C_two_86 : decode m_C_two.2.1 86 = .ok (.aload_n 0, 1) := by decide +kernel
theorem d_C_two_87 : decode m_C_two.2.1 87 = .ok (.getfield 9, 3) := by decide +kernel
theorem d_C_two_90 : decode m_C_two.2.1 90 = .ok (.iconst 1, 1) := by decide +kernel
theorem d_C_two_91 : decode m_C_two.2.1 91 = .ok (.iload 4, 2) := by decide +kernel
theorem d_C_two_93 : decode m_C_two.2.1 93 = .ok (.iadd, 1) := by decide +kernel
theorem d_C_two_94 : decode m_C_two.2.1 94 = .ok (.iload 5, 2) := by decide +kernel
theorem d_C_two_96 : decode m_C_two.2.1 96 = .ok (.invokestatic 18, 3) := by decide +kernel
theorem d_C_two_99 : decode m_C_two.2.1 99 = .ok (.aload_n 3, 1) := by decide +kernel
theorem d_C_two_100 : decode m_C_two.2.1 100 = .ok (.getfield 15, 3) := by decide +kernel
theorem d_C_two_103 : decode m_C_two.2.1 103 = .ok (.iconst 0, 1) := by decide +kernel
theorem d_C_two_104 : decode m_C_two.2.1 104 = .ok (.aload_n 0, 1) := by decide +kernel
theorem d_C_two_105 : decode m_C_two.2.1 105 = .ok (.getfield 15, 3) := by decide +kernel
theorem d_C_two_108 : decode m_C_two.2.1 108 = .ok (.iconst 1, 1) := by decide +kernel
theorem d_C_two_109 : decode m_C_two.2.1 109 = .ok (.iload 4, 2) := by decide +kernel
theorem d_C_two_111 : decode m_C_two.2.1 111 = .ok (.iadd, 1) := by decide +kernel
theorem d_C_two_112 : decode m_C_two.2.1 112 = .ok (.iload 5, 2) := by decide +kernel
theorem d_C_two_114 : decode m_C_two.2.1 114 = .ok (.invokestatic 18, 3) := by decide +kernel
theorem d_C_two_117 : decode m_C_two.2.1 117 = .ok (.return_, 1) := by decide +kernel
theorem d_C_isFailAlone_0 : decode m_C_isFailAlone.2.1 0 = .ok (.aload_n 0, 1) := by decide +kernel
theorem d_C_isFailAlone_1 : decode m_C_isFailAlone.2.1 1 = .ok (.getfield 9, 3) := by decide +kernel
theorem d_C_isFailAlone_4 : decode m_C_isFailAlone.2.1 4 = .ok (.arraylength, 1) := by decide +kernel
theorem d_C_isFailAlone_5 : decode m_C_isFailAlone.2.1 5 = .ok (.iconst 1, 1) := by decide +kernel
theorem d_C_isFailAlone_6 : decode m_C_isFailAlone.2.1 6 = .ok (.if_icmp .ne 17, 3) := by decide +kernel
theorem d_C_isFailAlone_9 : decode m_C_isFailAlone.2.1 9 = .ok (.aload_n 0, 1) := by decide +kernel
theorem d_C_isFailAlone_10 : decode m_C_isFailAlone.2.1 10 = .ok (.getfield 9, 3) := by decide +kernel
theorem d_C_isFailAlone_13 : decode m_C_isFailAlone.2.1 13 = .ok (.iconst 0, 1) := by decide +kernel
theorem d_C_isFailAlone_14 : decode m_C_isFailAlone.2.1 14 = .ok (.iaload, 1) := by decide +kernel
theorem d_C_isFailAlone_15 : decode m_C_isFailAlone.2.1 15 = .ok (.iconst 1, 1) := by decide +kernel
theorem d_C_isFailAlone_16 : decode m_C_isFailAlone.2.1 16 = .ok (.if_icmp .ne 7, 3) := by decide +kernel
theorem d_C_isFailAlone_19 : decode m_C_isFailAlone.2.1 19 = .ok (.iconst 1, 1) := by decide +kernel
theorem d_C_isFailAlone_20 : decode m_C_isFailAlone.2.1 20 = .ok (.goto 4, 3) := by decide +kernel
theorem d_C_isFailAlone_23 : decode m_C_isFailAlone.2.1 23 = .ok (.iconst 0, 1) := by decide +kernel
theorem d_C_isFailAlone_24 : decode m_C_isFailAlone.2.1 24 = .ok (.ireturn, 1) := by decide +kernel
theorem d_K_init_0 : decode m_K_init.2.1 0 = .ok (.aload_n 0, 1) := by decide +kernel
theorem d_K_init_1 : decode m_K_init.2.1 1 = .ok (.invokespecial 1, 3) := by decide +kernel
theorem d_K_init_4 : decode m_K_init.2.1 4 = .ok (.aload_n 0, 1) := by decide +kernel
theorem d_K_init_5 : decode m_K_init.2.1 5 = .ok (.aload_n 1, 1) := by decide +kernel
theorem d_K_init_6 : decode m_K_init.2.1 6 = .ok (.putfield 7, 3) := by decide +kernel
theorem d_K_init_9 : decode m_K_init.2.1 9 = .ok (.aload_n 0, 1) := by decide +kernel
theorem d_K_init_10 : decode m_K_init.2.1 10 = .ok (.iload_n 2, 1) := by decide +kernel
theorem d_K_init_11 : decode m_K_init.2.1 11 = .ok (.putfield 13, 3) := by decide +kernel
theorem d_K_init_14 : decode m_K_init.2.1 14 = .ok (.aload_n 0, 1) := by decide +kernel
theorem d_K_init_15 : decode m_K_init.2.1 15 = .ok (.aload_n 3, 1) := by decide +kernel
theorem d_K_init_16 : decode m_K_init.2.1 16 = .ok (.putfield 17, 3) := by decide +kernel
theorem d_K_init_19 : decode m_K_init.2.1 19 = .ok (.return_, 1) := by decide +kernel
theorem d_E_init_0 : decode m_E_init.2.1 0 = .ok (.aload_n 0, 1) := by decide +kernel
theorem d_E_init_1 : decode m_E_init.2.1 1 = .ok (.invokespecial 1, 3) := by decide +kernel
theorem d_E_init_4 : decode m_E_init.2.1 4 = .ok (.aload_n 0, 1) := by decide +kernel
theorem d_E_init_5 : decode m_E_init.2.1 5 = .ok (.iload_n 1, 1) := by decide +kernel
theorem d_E_init_6 : decode m_E_init.2.1 6 = .ok (.putfield 7, 3) := by decide +kernel
theorem d_E_init_9 : decode m_E_init.2.1 9 = .ok (.aload_n 0, 1) := by decide +kernel
theorem d_E_init_10 : decode m_E_init.2.1 10 = .ok (.iload_n 2, 1) := by decide +kernel
theorem d_E_init_11 : decode m_E_init.2.1 11 = .ok (.putfield 13, 3) := by decide +kernel
theorem d_E_init_14 : decode m_E_init.2.1 14 = .ok (.aload_n 0, 1) := by decide +kernel
theorem d_E_init_15 : decode m_E_init.2.1 15 = .ok (.aload_n 3, 1) := by decide +kernel
theorem d_E_init_16 : decode m_E_init.2.1 16 = .ok (.putfield 16, 3) := by decide +kernel
theorem d_E_init_19 : decode m_E_init.2.1 19 = .ok (.aload_n 0, 1) := by decide +kernel
theorem d_E_init_20 : decode m_E_init.2.1 20 = .ok (.aload 4, 2) := by decide +kernel
theorem d_E_init_22 : decode m_E_init.2.1 22 = .ok (.putfield 20, 3) := by decide +kernel
theorem d_E_init_25 : decode m_E_init.2.1 25 = .ok (.aload_n 0, 1) := by decide +kernel
theorem d_E_init_26 : decode m_E_init.2.1 26 = .ok (.aload 5, 2) := by decide +kernel
theorem d_E_init_28 : decode m_E_init.2.1 28 = .ok (.putfield 23, 3) := by decide +kernel
theorem d_E_init_31 : decode m_E_init.2.1 31 = .ok (.return_, 1) := by decide +kernel
theorem d_F_init_0 : decode m_F_init.2.1 0 = .ok (.aload_n 0, 1) := by decide +kernel
theorem d_F_init_1 : decode m_F_init.2.1 1 = .ok (.invokespecial 3, 3) := by decide +kernel
theorem d_F_init_4 : decode m_F_init.2.1 4 = .ok (.aload_n 0, 1) := by decide +kernel
theorem d_F_init_5 : decode m_F_init.2.1 5 = .ok (.aconst_null, 1) := by decide +kernel
theorem d_F_init_6 : decode m_F_init.2.1 6 = .ok (.putfield 9, 3) := by decide +kernel
theorem d_F_init_9 : decode m_F_init.2.1 9 = .ok (.aload_n 0, 1) := by decide +kernel
theorem d_F_init_10 : decode m_F_init.2.1 10 = .ok (.iconst 0, 1) := by decide +kernel
theorem d_F_init_11 : decode m_F_init.2.1 11 = .ok (.putfield 15, 3) := by decide +kernel
theorem d_F_init_14 : decode m_F_init.2.1 14 = .ok (.aload_n 0, 1) := by decide +kernel
theorem d_F_init_15 : decode m_F_init.2.1 15 = .ok (.iconst 0, 1) := by decide +kernel
theorem d_F_init_16 : decode m_F_init.2.1 16 = .ok (.putfield 19, 3) := by decide +kernel
theorem d_F_init_19 : decode m_F_init.2.1 19 = .ok (.aload_n 0, 1) := by decide +kernel
theorem d_F_init_20 : decode m_F_init.2.1 20 = .ok (.aconst_null, 1) := by decide +kernel
theorem d_F_init_21 : decode m_F_init.2.1 21 = .ok (.putfield 22, 3) := by decide +kernel
theorem d_F_init_24 : decode m_F_init.2.1 24 = .ok (.aload_n 0, 1) := by decide +kernel
theorem d_F_init_25 : decode m_F_init.2.1 25 = .ok (.iconst 0, 1) := by decide +kernel
theorem d_F_init_26 : decode m_F_init.2.1 26 = .ok (.putfield 26, 3) := by decide +kernel
theorem d_F_init_29 : decode m_F_init.2.1 29 = .ok (.aload_n 0, 1) := by decide +kernel
theorem d_F_init_30 : decode m_F_init.2.1 30 = .ok (.aconst_null, 1) := by decide +kernel
theorem d_F_init_31 : decode m_F_init.2.1 31 = .ok (.putfield 30, 3) := by decide +kernel
theorem d_F_init_34 : decode m_F_init.2.1 34 = .ok (.aload_n 0, 1) := by decide +kernel
theorem d_F_init_35 : decode m_F_init.2.1 35 = .ok (.iconst 0, 1) := by decide +kernel
theorem d_F_init_36 : decode m_F_init.2.1 36 = .ok (.putfield 34, 3) := by decide +kernel
theorem d_F_init_39 : decode m_F_init.2.1 39 = .ok (.aload_n 0, 1) := by decide +kernel
theorem d_F_init_40 : decode m_F_init.2.1 40 = .ok (.iconst 0, 1) := by decide +kernel
theorem d_F_init_41 : decode m_F_init.2.1 41 = .ok (.putfield 37, 3) := by decide +kernel
theorem d_F_init_44 : decode m_F_init.2.1 44 = .ok (.aload_n 0, 1) := by decide +kernel
theorem d_F_init_45 : decode m_F_init.2.1 45 = .ok (.iconst 0, 1) := by decide +kernel
theorem d_F_init_46 : decode m_F_init.2.1 46 = .ok (.putfield 40, 3) := by decide +kernel
theorem d_F_init_49 : decode m_F_init.2.1 49 = .ok (.aload_n 0, 1) := by decide +kernel
theorem d_F_init_50 : decode m_F_init.2.1 50 = .ok (.iconst (-1), 1) := by decide +kernel
theorem d_F_init_51 : decode m_F_init.2.1 51 = .ok (.putfield 43, 3) := by decide +kernel
theorem d_F_init_54 : decode m_F_init.2.1 54 = .ok (.aload_n 0, 1) := by decide +kernel
theorem d_F_init_55 : decode m_F_init.2.1 55 = .ok (.iconst 0, 1) := by decide +kernel
theorem d_F_init_56 : decode m_F_init.2.1 56 = .ok (.putfield 46, 3) := by decide +kernel
theorem d_F_init_59 : decode m_F_init.2.1 59 = .ok (.aload_n 0, 1) := by decide +kernel
theorem d_F_init_60 : decode m_F_init.2.1 60 = .ok (.iconst 0, 1) := by decide +kernel
theorem d_F_init_61 : decode m_F_init.2.1 61 = .ok (.putfield 49, 3) := by decide +kernel
theorem d_F_init_64 : decode m_F_init.2.1 64 = .ok (.aload_n 0, 1) := by decide +kernel
theorem d_F_init_65 : decode m_F_init.2.1 65 = .ok (.iconst (-1), 1) := by decide +kernel
theorem d_F_init_66 : decode m_F_init.2.1 66 = .ok (.putfield 52, 3) := by decide +kernel
theorem d_F_init_69 : decode m_F_init.2.1 69 = .ok (.aload_n 0, 1) := by decide +kernel
theorem d_F_init_70 : decode m_F_init.2.1 70 = .ok (.iconst 0, 1) := by decide +kernel
theorem d_F_init_71 : decode m_F_init.2.1 71 = .ok (.putfield 55, 3) := by decide +kernel
theorem d_F_init_74 : decode m_F_init.2.1 74 = .ok (.aload_n 0, 1) := by decide +kernel
theorem d_F_init_75 : decode m_F_init.2.1 75 = .ok (.iload_n 1, 1) := by decide +kernel
theorem d_F_init_76 : decode m_F_init.2.1 76 = .ok (.putfield 58, 3) := by decide +kernel
theorem d_F_init_79 : decode m_F_init.2.1 79 = .ok (.aload_n 0, 1) := by decide +kernel
theorem d_F_init_80 : decode m_F_init.2.1 80 = .ok (.iload_n 2, 1) := by decide +kernel
theorem d_F_init_81 : decode m_F_init.2.1 81 = .ok (.putfield 61, 3) := by decide +kernel
theorem d_F_init_84 : decode m_F_init.2.1 84 = .ok (.return_, 1) := by decide +kernel
theorem d_F_state_0 : decode m_F_state.2.1 0 = .ok (.aload_n 0, 1) := by decide +kernel
theorem d_F_state_1 : decode m_F_state.2.1 1 = .ok (.getfield 26, 3) := by decide +kernel
theorem d_F_state_4 : decode m_F_state.2.1 4 = .ok (.ifCond .eq 16, 3) := by decide +kernel
theorem d_F_state_7 : decode m_F_state.2.1 7 = .ok (.aload_n 0, 1) := by decide +kernel
theorem d_F_state_8 : decode m_F_state.2.1 8 = .ok (.getfield 22, 3) := by decide +kernel
theorem d_F_state_11 : decode m_F_state.2.1 11 = .ok (.ifnonnull 7, 3) := by decide +kernel
theorem d_F_state_14 : decode m_F_state.2.1 14 = .ok (.iconst 2, 1) := by decide +kernel
theorem d_F_state_15 : decode m_F_state.2.1 15 = .ok (.goto 4, 3) := by decide +kernel
theorem d_F_state_18 : decode m_F_state.2.1 18 = .ok (.iconst 3, 1) := by decide +kernel
theorem d_F_state_19 : decode m_F_state.2.1 19 = .ok (.ireturn, 1) := by decide +kernel
theorem d_F_state_20 : decode m_F_state.2.1 20 = .ok (.aload_n 0, 1) := by decide +kernel
theorem d_F_state_21 : decode m_F_state.2.1 21 = .ok (.getfield 49, 3) := by decide +kernel
theorem d_F_state_24 : decode m_F_state.2.1 24 = .ok (.ifCond .ne 7, 3) := by decide +kernel
theorem d_F_state_27 : decode m_F_state.2.1 27 = .ok (.iconst 0, 1) := by decide +kernel
theorem d_F_state_28 : decode m_F_state.2.1 28 = .ok (.goto 4, 3) := by decide +kernel
theorem d_F_state_31 : decode m_F_state.2.1 31 = .ok (.iconst 1, 1) := by decide +kernel
theorem d_F_state_32 : decode m_F_state.2.1 32 = .ok (.ireturn, 1) := by decide +kernel
theorem d_F_perform_0 : decode m_F_perform.2.1 0 = .ok (.aload_n 0, 1) := by decide +kernel
theorem d_F_perform_1 : decode m_F_perform.2.1 1 = .ok (.aload_n 1, 1) := by decide +kernel
theorem d_F_perform_2 : decode m_F_perform.2.1 2 = .ok (.putfield 9, 3) := by decide +kernel
theorem d_F_perform_5 : decode m_F_perform.2.1 5 = .ok (.aload_n 0, 1) := by decide +kernel
theorem d_F_perform_6 : decode m_F_perform.2.1 6 = .ok (.iload_n 2, 1) := by decide +kernel
theorem d_F_perform_7 : decode m_F_perform.2.1 7 = .ok (.putfield 15, 3) := by decide +kernel
theorem d_F_perform_10 : decode m_F_perform.2.1 10 = .ok (.return_, 1) := by decide +kernel
theorem d_F_giveExit_0 : decode m_F_giveExit.2.1 0 = .ok (.aload_n 0, 1) := by decide +kernel
theorem d_F_giveExit_1 : decode m_F_giveExit.2.1 1 = .ok (.aconst_null, 1) := by decide +kernel
theorem d_F_giveExit_2 : decode m_F_giveExit.2.1 2 = .ok (.putfield 9, 3) := by decide +kernel
theorem d_F_giveExit_5 : decode m_F_giveExit.2.1 5 = .ok (.aload_n 0, 1) := by decide +kernel
theorem d_F_giveExit_6 : decode m_F_giveExit.2.1 6 = .ok (.iload_n 1, 1) := by decide +kernel
theorem d_F_giveExit_7 : decode m_F_giveExit.2.1 7 = .ok (.putfield 19, 3) := by decide +kernel
theorem d_F_giveExit_10 : decode m_F_giveExit.2.1 10 = .ok (.aload_n 0, 1) := by decide +kernel
theorem d_F_giveExit_11 : decode m_F_giveExit.2.1 11 = .ok (.aload_n 2, 1) := by decide +kernel
theorem d_F_giveExit_12 : decode m_F_giveExit.2.1 12 = .ok (.putfield 22, 3) := by decide +kernel
theorem d_F_giveExit_15 : decode m_F_giveExit.2.1 15 = .ok (.return_, 1) := by decide +kernel
theorem d_F_giveValue_0 : decode m_F_giveValue.2.1 0 = .ok (.aload_n 0, 1) := by decide +kernel
theorem d_F_giveValue_1 : decode m_F_giveValue.2.1 1 = .ok (.iload_n 1, 1) := by decide +kernel
theorem d_F_giveValue_2 : decode m_F_giveValue.2.1 2 = .ok (.aconst_null, 1) := by decide +kernel
theorem d_F_giveValue_3 : decode m_F_giveValue.2.1 3 = .ok (.invokevirtual 64, 3) := by decide +kernel
theorem d_F_giveValue_6 : decode m_F_giveValue.2.1 6 = .ok (.return_, 1) := by decide +kernel
theorem d_F_giveCause_0 : decode m_F_giveCause.2.1 0 = .ok (.aload_n 0, 1) := by decide +kernel
theorem d_F_giveCause_1 : decode m_F_giveCause.2.1 1 = .ok (.iconst 0, 1) := by decide +kernel
theorem d_F_giveCause_2 : decode m_F_giveCause.2.1 2 = .ok (.aload_n 1, 1) := by decide +kernel
theorem d_F_giveCause_3 : decode m_F_giveCause.2.1 3 = .ok (.invokevirtual 64, 3) := by decide +kernel
theorem d_F_giveCause_6 : decode m_F_giveCause.2.1 6 = .ok (.return_, 1) := by decide +kernel
theorem d_F_die_0 : decode m_F_die.2.1 0 = .ok (.aload_n 0, 1) := by decide +kernel
theorem d_F_die_1 : decode m_F_die.2.1 1 = .ok (.new 68, 3) := by decide +kernel
theorem d_F_die_4 : decode m_F_die.2.1 4 = .ok (.dup, 1) := by decide +kernel
theorem d_F_die_5 : decode m_F_die.2.1 5 = .ok (.iconst 2, 1) := by decide +kernel
theorem d_F_die_6 : decode m_F_die.2.1 6 = .ok (.iload_n 1, 1) := by decide +kernel
theorem d_F_die_7 : decode m_F_die.2.1 7 = .ok (.invokespecial 70, 3) := by decide +kernel
theorem d_F_die_10 : decode m_F_die.2.1 10 = .ok (.invokevirtual 73, 3) := by decide +kernel
theorem d_F_die_13 : decode m_F_die.2.1 13 = .ok (.return_, 1) := by decide +kernel
theorem d_F_waitFor_0 : decode m_F_waitFor.2.1 0 = .ok (.aload_n 0, 1) := by decide +kernel
theorem d_F_waitFor_1 : decode m_F_waitFor.2.1 1 = .ok (.aconst_null, 1) := by decide +kernel
theorem d_F_waitFor_2 : decode m_F_waitFor.2.1 2 = .ok (.putfield 9, 3) := by decide +kernel
theorem d_F_waitFor_5 : decode m_F_waitFor.2.1 5 = .ok (.aload_n 0, 1) := by decide +kernel
theorem d_F_waitFor_6 : decode m_F_waitFor.2.1 6 = .ok (.iload_n 1, 1) := by decide +kernel
theorem d_F_waitFor_7 : decode m_F_waitFor.2.1 7 = .ok (.putfield 49, 3) := by decide +kernel
theorem d_F_waitFor_10 : decode m_F_waitFor.2.1 10 = .ok (.aload_n 0, 1) := by decide +kernel
theorem d_F_waitFor_11 : decode m_F_waitFor.2.1 11 = .ok (.iload_n 2, 1) := by decide +kernel
theorem d_F_waitFor_12 : decode m_F_waitFor.2.1 12 = .ok (.putfield 52, 3) := by decide +kernel
theorem d_F_waitFor_15 : decode m_F_waitFor.2.1 15 = .ok (.return_, 1) := by decide +kernel
theorem d_F_beginFramed_0 : decode m_F_beginFramed.2.1 0 = .ok (.aload_n 0, 1) := by decide +kernel
theorem d_F_beginFramed_1 : decode m_F_beginFramed.2.1 1 = .ok (.getfield 34, 3) := by decide +kernel
theorem d_F_beginFramed_4 : decode m_F_beginFramed.2.1 4 = .ok (.bipush 16, 2) := by decide +kernel
theorem d_F_beginFramed_6 : decode m_F_beginFramed.2.1 6 = .ok (.if_icmp .lt 10, 3) := by decide +kernel
theorem d_F_beginFramed_9 : decode m_F_beginFramed.2.1 9 = .ok (.aload_n 0, 1) := by decide +kernel
theorem d_F_beginFramed_10 : decode m_F_beginFramed.2.1 10 = .ok (.bipush (-4), 2) := by decide +kernel
theorem d_F_beginFramed_12 : decode m_F_beginFramed.2.1 12 = .ok (.invokevirtual 77, 3) := by decide +kernel
theorem d_F_beginFramed_15 : decode m_F_beginFramed.2.1 15 = .ok (.return_, 1) := by decide +kernel
theorem d_F_beginFramed_16 : decode m_F_beginFramed.2.1 16 = .ok (.aload_n 0, 1) := by decide +kernel
theorem d_F_beginFramed_17 : decode m_F_beginFramed.2.1 17 = .ok (.getfield 37, 3) := by decide +kernel
theorem d_F_beginFramed_20 : decode m_F_beginFramed.2.1 20 = .ok (.istore_n 3, 1) := by decide +kernel
theorem d_F_beginFramed_21 : decode m_F_beginFramed.2.1 21 = .ok (.aload_n 1, 1) := by decide +kernel
theorem d_F_beginFramed_22 : decode m_F_beginFramed.2.1 22 = .ok (.getfield 81, 3) := by decide +kernel
theorem d_F_beginFramed_25 : decode m_F_beginFramed.2.1 25 = .ok (.bipush 8, 2) := by decide +kernel
theorem d_F_beginFramed_27 : decode m_F_beginFramed.2.1 27 = .ok (.if_icmp .eq 12, 3) := by decide +kernel
theorem d_F_beginFramed_30 : decode m_F_beginFramed.2.1 30 = .ok (.aload_n 1, 1) := by decide +kernel
theorem d_F_beginFramed_31 : decode m_F_beginFramed.2.1 31 = .ok (.getfield 81, 3) := by decide +kernel
theorem d_F_beginFramed_34 : decode m_F_beginFramed.2.1 34 = .ok (.bipush 7, 2) := by decide +kernel
theorem d_F_beginFramed_36 : decode m_F_beginFramed.2.1 36 = .ok (.if_icmp .ne 11, 3) := by decide +kernel
theorem d_F_beginFramed_39 : decode m_F_beginFramed.2.1 39 = .ok (.aload_n 0, 1) := by decide +kernel
theorem d_F_beginFramed_40 : decode m_F_beginFramed.2.1 40 = .ok (.iconst 1, 1) := by decide +kernel
theorem d_F_beginFramed_41 : decode m_F_beginFramed.2.1 41 = .ok (.putfield 37, 3) := by decide +kernel
theorem d_F_beginFramed_44 : decode m_F_beginFramed.2.1 44 = .ok (.goto 20, 3) := by decide +kernel
theorem d_F_beginFramed_47 : decode m_F_beginFramed.2.1 47 = .ok (.aload_n 1, 1) := by decide +kernel
theorem d_F_beginFramed_48 : decode m_F_beginFramed.2.1 48 = .ok (.getfield 81, 3) := by decide +kernel
theorem d_F_beginFramed_51 : decode m_F_beginFramed.2.1 51 = .ok (.bipush 9, 2) := by decide +kernel
theorem d_F_beginFramed_53 : decode m_F_beginFramed.2.1 53 = .ok (.if_icmp .ne 11, 3) := by decide +kernel
theorem d_F_beginFramed_56 : decode m_F_beginFramed.2.1 56 = .ok (.aload_n 0, 1) := by decide +kernel
theorem d_F_beginFramed_57 : decode m_F_beginFramed.2.1 57 = .ok (.aload_n 0, 1) := by decide +kernel
theorem d_F_beginFramed_58 : decode m_F_beginFramed.2.1 58 = .ok (.invokevirtual 86, 3) := by decide +kernel
theorem d_F_beginFramed_61 : decode m_F_beginFramed.2.1 61 = .ok (.putfield 37, 3) := by decide +kernel
theorem d_F_beginFramed_64 : decode m_F_beginFramed.2.1 64 = .ok (.aload_n 0, 1) := by decide +kernel
theorem d_F_beginFramed_65 : decode m_F_beginFramed.2.1 65 = .ok (.new 90, 3) := by decide +kernel
theorem d_F_beginFramed_68 : decode m_F_beginFramed.2.1 68 = .ok (.dup, 1) := by decide +kernel
theorem d_F_beginFramed_69 : decode m_F_beginFramed.2.1 69 = .ok (.aload_n 1, 1) := by decide +kernel
theorem d_F_beginFramed_70 : decode m_F_beginFramed.2.1 70 = .ok (.iload_n 3, 1) := by decide +kernel
theorem d_F_beginFramed_71 : decode m_F_beginFramed.2.1 71 = .ok (.aload_n 0, 1) := by decide +kernel
theorem d_F_beginFramed_72 : decode m_F_beginFramed.2.1 72 = .ok (.getfield 30, 3) := by decide +kernel
theorem d_F_beginFramed_75 : decode m_F_beginFramed.2.1 75 = .ok (.invokespecial 92, 3) := by decide +kernel
theorem d_F_beginFramed_78 : decode m_F_beginFramed.2.1 78 = .ok (.putfield 30, 3) := by decide +kernel
theorem d_F_beginFramed_81 : decode m_F_beginFramed.2.1 81 = .ok (.aload_n 0, 1) := by decide +kernel
theorem d_F_beginFramed_82 : decode m_F_beginFramed.2.1 82 = .ok (.dup, 1) := by decide +kernel
theorem d_F_beginFramed_83 : decode m_F_beginFramed.2.1 83 = .ok (.getfield 34, 3) := by decide +kernel
theorem d_F_beginFramed_86 : decode m_F_beginFramed.2.1 86 = .ok (.iconst 1, 1) := by decide +kernel
theorem d_F_beginFramed_87 : decode m_F_beginFramed.2.1 87 = .ok (.iadd, 1) := by decide +kernel
theorem d_F_beginFramed_88 : decode m_F_beginFramed.2.1 88 = .ok (.putfield 34, 3) := by decide +kernel
theorem d_F_beginFramed_91 : decode m_F_beginFramed.2.1 91 = .ok (.aload_n 1, 1) := by decide +kernel
theorem d_F_beginFramed_92 : decode m_F_beginFramed.2.1 92 = .ok (.getfield 81, 3) := by decide +kernel
theorem d_F_beginFramed_95 : decode m_F_beginFramed.2.1 95 = .ok (.bipush 6, 2) := by decide +kernel
theorem d_F_beginFramed_97 : decode m_F_beginFramed.2.1 97 = .ok (.if_icmp .ne 15, 3) := by decide +kernel
theorem d_F_beginFramed_100 : decode m_F_beginFramed.2.1 100 = .ok (.aload_n 0, 1) := by decide +kernel
theorem d_F_beginFramed_101 : decode m_F_beginFramed.2.1 101 = .ok (.getfield 30, 3) := by decide +kernel
theorem d_F_beginFramed_104 : decode m_F_beginFramed.2.1 104 = .ok (.aload_n 1, 1) := by decide +kernel
theorem d_F_beginFramed_105 : decode m_F_beginFramed.2.1 105 = .ok (.getfield 95, 3) := by decide +kernel
theorem d_F_beginFramed_108 : decode m_F_beginFramed.2.1 108 = .ok (.iload_n 2, 1) := by decide +kernel
theorem d_F_beginFramed_109 : decode m_F_beginFramed.2.1 109 = .ok (.invokevirtual 98, 3) := by decide +kernel
theorem d_F_beginFramed_112 : decode m_F_beginFramed.2.1 112 = .ok (.aload_n 0, 1) := by decide +kernel
theorem d_F_beginFramed_113 : decode m_F_beginFramed.2.1 113 = .ok (.aload_n 1, 1) := by decide +kernel
theorem d_F_beginFramed_114 : decode m_F_beginFramed.2.1 114 = .ok (.getfield 102, 3) := by decide +kernel
theorem d_F_beginFramed_117 : decode m_F_beginFramed.2.1 117 = .ok (.iload_n 2, 1) := by decide +kernel
theorem d_F_beginFramed_118 : decode m_F_beginFramed.2.1 118 = .ok (.invokevirtual 105, 3) := by decide +kernel
theorem d_F_beginFramed_121 : decode m_F_beginFramed.2.1 121 = .ok (.return_, 1) := by decide +kernel
theorem d_F_maskedOutsideMask_0 : decode m_F_maskedOutsideMask.2.1 0 = .ok (.aload_n 0, 1) := by decide +kernel
theorem d_F_maskedOutsideMask_1 : decode m_F_maskedOutsideMask.2.1 1 = .ok (.getfield 30, 3) := by decide +kernel
theorem d_F_maskedOutsideMask_4 : decode m_F_maskedOutsideMask.2.1 4 = .ok (.astore_n 1, 1) := by decide +kernel
theorem d_F_maskedOutsideMask_5 : decode m_F_maskedOutsideMask.2.1 5 = .ok (.aload_n 1, 1) := by decide +kernel
theorem d_F_maskedOutsideMask_6 : decode m_F_maskedOutsideMask.2.1 6 = .ok (.ifnull 28, 3) := by decide +kernel
theorem d_F_maskedOutsideMask_9 : decode m_F_maskedOutsideMask.2.1 9 = .ok (.aload_n 1, 1) := by decide +kernel
theorem d_F_maskedOutsideMask_10 : decode m_F_maskedOutsideMask.2.1 10 = .ok (.getfield 108, 3) := by decide +kernel
theorem d_F_maskedOutsideMask_13 : decode m_F_maskedOutsideMask.2.1 13 = .ok (.getfield 81, 3) := by decide +kernel
theorem d_F_maskedOutsideMask_16 : decode m_F_maskedOutsideMask.2.1 16 = .ok (.bipush 8, 2) := by decide +kernel
theorem d_F_maskedOutsideMask_18 : decode m_F_maskedOutsideMask.2.1 18 = .ok (.if_icmp .ne 8, 3) := by decide +kernel
theorem d_F_maskedOutsideMask_21 : decode m_F_maskedOutsideMask.2.1 21 = .ok (.aload_n 1, 1) := by decide +kernel
theorem d_F_maskedOutsideMask_22 : decode m_F_maskedOutsideMask.2.1 22 = .ok (.getfield 111, 3) := by decide +kernel
theorem d_F_maskedOutsideMask_25 : decode m_F_maskedOutsideMask.2.1 25 = .ok (.ireturn, 1) := by decide +kernel
theorem d_F_maskedOutsideMask_26 : decode m_F_maskedOutsideMask.2.1 26 = .ok (.aload_n 1, 1) := by decide +kernel
theorem d_F_maskedOutsideMask_27 : decode m_F_maskedOutsideMask.2.1 27 = .ok (.getfield 114, 3) := by decide +kernel
theorem d_F_maskedOutsideMask_30 : decode m_F_maskedOutsideMask.2.1 30 = .ok (.astore_n 1, 1) := by decide +kernel
theorem d_F_maskedOutsideMask_31 : decode m_F_maskedOutsideMask.2.1 31 = .ok (.goto (-26), 3) := by decide +kernel
theorem d_F_maskedOutsideMask_34 : decode m_F_maskedOutsideMask.2.1 34 = .ok (.aload_n 0, 1) := by decide +kernel
theorem d_F_maskedOutsideMask_35 : decode m_F_maskedOutsideMask.2.1 35 = .ok (.getfield 37, 3) := by decide +kernel
theorem d_F_maskedOutsideMask_38 : decode m_F_maskedOutsideMask.2.1 38 = .ok (.ireturn, 1) := by decide +kernel
theorem d_F_register_0 : decode m_F_register.2.1 0 = .ok (.aload_n 0, 1) := by decide +kernel
theorem d_F_register_1 : decode m_F_register.2.1 1 = .ok (.invokevirtual 117, 3) := by decide +kernel
theorem d_F_register_4 : decode m_F_register.2.1 4 = .ok (.astore_n 3, 1) := by decide +kernel
theorem d_F_register_5 : decode m_F_register.2.1 5 = .ok (.aload_n 3, 1) := by decide +kernel
theorem d_F_register_6 : decode m_F_register.2.1 6 = .ok (.ifnull 11, 3) := by decide +kernel
theorem d_F_register_9 : decode m_F_register.2.1 9 = .ok (.aload_n 3, 1) := by decide +kernel
theorem d_F_register_10 : decode m_F_register.2.1 10 = .ok (.getfield 121, 3) := by decide +kernel
theorem d_F_register_13 : decode m_F_register.2.1 13 = .ok (.iconst 4, 1) := by decide +kernel
theorem d_F_register_14 : decode m_F_register.2.1 14 = .ok (.if_icmp .lt 10, 3) := by decide +kernel
theorem d_F_register_17 : decode m_F_register.2.1 17 = .ok (.aload_n 0, 1) := by decide +kernel
theorem d_F_register_18 : decode m_F_register.2.1 18 = .ok (.bipush (-3), 2) := by decide +kernel
theorem d_F_register_20 : decode m_F_register.2.1 20 = .ok (.invokevirtual 77, 3) := by decide +kernel
theorem d_F_register_23 : decode m_F_register.2.1 23 = .ok (.return_, 1) := by decide +kernel
theorem d_F_register_24 : decode m_F_register.2.1 24 = .ok (.aload_n 3, 1) := by decide +kernel
theorem d_F_register_25 : decode m_F_register.2.1 25 = .ok (.aload_n 1, 1) := by decide +kernel
theorem d_F_register_26 : decode m_F_register.2.1 26 = .ok (.iload_n 2, 1) := by decide +kernel
theorem d_F_register_27 : decode m_F_register.2.1 27 = .ok (.invokevirtual 98, 3) := by decide +kernel
theorem d_F_register_30 : decode m_F_register.2.1 30 = .ok (.aload_n 0, 1) := by decide +kernel
theorem d_F_register_31 : decode m_F_register.2.1 31 = .ok (.iload_n 2, 1) := by decide +kernel
theorem d_F_register_32 : decode m_F_register.2.1 32 = .ok (.invokevirtual 124, 3) := by decide +kernel
theorem d_F_register_35 : decode m_F_register.2.1 35 = .ok (.return_, 1) := by decide +kernel
theorem d_F_openScope_0 : decode m_F_openScope.2.1 0 = .ok (.aload_n 0, 1) := by decide +kernel
theorem d_F_openScope_1 : decode m_F_openScope.2.1 1 = .ok (.getfield 30, 3) := by decide +kernel
theorem d_F_openScope_4 : decode m_F_openScope.2.1 4 = .ok (.astore_n 1, 1) := by decide +kernel
theorem d_F_openScope_5 : decode m_F_openScope.2.1 5 = .ok (.aload_n 1, 1) := by decide +kernel
theorem d_F_openScope_6 : decode m_F_openScope.2.1 6 = .ok (.ifnull 32, 3) := by decide +kernel
theorem d_F_openScope_9 : decode m_F_openScope.2.1 9 = .ok (.aload_n 1, 1) := by decide +kernel
theorem d_F_openScope_10 : decode m_F_openScope.2.1 10 = .ok (.getfield 108, 3) := by decide +kernel
theorem d_F_openScope_13 : decode m_F_openScope.2.1 13 = .ok (.getfield 81, 3) := by decide +kernel
theorem d_F_openScope_16 : decode m_F_openScope.2.1 16 = .ok (.bipush 10, 2) := by decide +kernel
theorem d_F_openScope_18 : decode m_F_openScope.2.1 18 = .ok (.if_icmp .ne 12, 3) := by decide +kernel
theorem d_F_openScope_21 : decode m_F_openScope.2.1 21 = .ok (.aload_n 1, 1) := by decide +kernel
theorem d_F_openScope_22 : decode m_F_openScope.2.1 22 = .ok (.getfield 127, 3) := by decide +kernel
theorem d_F_openScope_25 : decode m_F_openScope.2.1 25 = .ok (.ifCond .ne 5, 3) := by decide +kernel
theorem d_F_openScope_28 : decode m_F_openScope.2.1 28 = .ok (.aload_n 1, 1) := by decide +kernel
theorem d_F_openScope_29 : decode m_F_openScope.2.1 29 = .ok (.areturn, 1) := by decide +kernel
theorem d_F_openScope_30 : decode m_F_openScope.2.1 30 = .ok (.aload_n 1, 1) := by decide +kernel
theorem d_F_openScope_31 : decode m_F_openScope.2.1 31 = .ok (.getfield 114, 3) := by decide +kernel
theorem d_F_openScope_34 : decode m_F_openScope.2.1 34 = .ok (.astore_n 1, 1) := by decide +kernel
theorem d_F_openScope_35 : decode m_F_openScope.2.1 35 = .ok (.goto (-30), 3) := by decide +kernel
theorem d_F_openScope_38 : decode m_F_openScope.2.1 38 = .ok (.aconst_null, 1) := by decide +kernel
theorem d_F_openScope_39 : decode m_F_openScope.2.1 39 = .ok (.areturn, 1) := by decide +kernel
theorem d_F_comeTo_0 : decode m_F_comeTo.2.1 0 = .ok (.aload_n 1, 1) := by decide +kernel
theorem d_F_comeTo_1 : decode m_F_comeTo.2.1 1 = .ok (.getfield 108, 3) := by decide +kernel
theorem d_F_comeTo_4 : decode m_F_comeTo.2.1 4 = .ok (.astore_n 2, 1) := by decide +kernel
theorem d_F_comeTo_5 : decode m_F_comeTo.2.1 5 = .ok (.aload_n 2, 1) := by decide +kernel
theorem d_F_comeTo_6 : decode m_F_comeTo.2.1 6 = .ok (.getfield 81, 3) := by decide +kernel
theorem d_F_comeTo_9 : decode m_F_comeTo.2.1 9 = .ok (.tableswitch 125 4 9 #[39, 39, 125, 68, 52, 52], 39) := by decide +kernel
theorem d_F_comeTo_48 : decode m_F_comeTo.2.1 48 = .ok (.aload_n 0, 1) := by decide +kernel
theorem d_F_comeTo_49 : decode m_F_comeTo.2.1 49 = .ok (.aload_n 1, 1) := by decide +kernel
theorem d_F_comeTo_50 : decode m_F_comeTo.2.1 50 = .ok (.invokevirtual 130, 3) := by decide +kernel
theorem d_F_comeTo_53 : decode m_F_comeTo.2.1 53 = .ok (.aload_n 0, 1) := by decide +kernel
theorem d_F_comeTo_54 : decode m_F_comeTo.2.1 54 = .ok (.aload_n 2, 1) := by decide +kernel
theorem d_F_comeTo_55 : decode m_F_comeTo.2.1 55 = .ok (.invokevirtual 134, 3) := by decide +kernel
theorem d_F_comeTo_58 : decode m_F_comeTo.2.1 58 = .ok (.goto 81, 3) := by decide +kernel
theorem d_F_comeTo_61 : decode m_F_comeTo.2.1 61 = .ok (.aload_n 0, 1) := by decide +kernel
theorem d_F_comeTo_62 : decode m_F_comeTo.2.1 62 = .ok (.aload_n 1, 1) := by decide +kernel
theorem d_F_comeTo_63 : decode m_F_comeTo.2.1 63 = .ok (.getfield 111, 3) := by decide +kernel
theorem d_F_comeTo_66 : decode m_F_comeTo.2.1 66 = .ok (.putfield 37, 3) := by decide +kernel
theorem d_F_comeTo_69 : decode m_F_comeTo.2.1 69 = .ok (.aload_n 0, 1) := by decide +kernel
theorem d_F_comeTo_70 : decode m_F_comeTo.2.1 70 = .ok (.aload_n 1, 1) := by decide +kernel
theorem d_F_comeTo_71 : decode m_F_comeTo.2.1 71 = .ok (.invokevirtual 130, 3) := by decide +kernel
theorem d_F_comeTo_74 : decode m_F_comeTo.2.1 74 = .ok (.goto 65, 3) := by decide +kernel
theorem d_F_comeTo_77 : decode m_F_comeTo.2.1 77 = .ok (.aload_n 1, 1) := by decide +kernel
theorem d_F_comeTo_78 : decode m_F_comeTo.2.1 78 = .ok (.getfield 121, 3) := by decide +kernel
theorem d_F_comeTo_81 : decode m_F_comeTo.2.1 81 = .ok (.ifCond .ne 45, 3) := by decide +kernel
theorem d_F_comeTo_84 : decode m_F_comeTo.2.1 84 = .ok (.aload_n 0, 1) := by decide +kernel
theorem d_F_comeTo_85 : decode m_F_comeTo.2.1 85 = .ok (.getfield 22, 3) := by decide +kernel
theorem d_F_comeTo_88 : decode m_F_comeTo.2.1 88 = .ok (.ifnonnull 38, 3) := by decide +kernel
theorem d_F_comeTo_91 : decode m_F_comeTo.2.1 91 = .ok (.aload_n 0, 1) := by decide +kernel
theorem d_F_comeTo_92 : decode m_F_comeTo.2.1 92 = .ok (.aload_n 1, 1) := by decide +kernel
theorem d_F_comeTo_93 : decode m_F_comeTo.2.1 93 = .ok (.getfield 111, 3) := by decide +kernel
theorem d_F_comeTo_96 : decode m_F_comeTo.2.1 96 = .ok (.putfield 37, 3) := by decide +kernel
theorem d_F_comeTo_99 : decode m_F_comeTo.2.1 99 = .ok (.aload_n 1, 1) := by decide +kernel
theorem d_F_comeTo_100 : decode m_F_comeTo.2.1 100 = .ok (.aload_n 2, 1) := by decide +kernel
theorem d_F_comeTo_101 : decode m_F_comeTo.2.1 101 = .ok (.getfield 138, 3) := by decide +kernel
theorem d_F_comeTo_104 : decode m_F_comeTo.2.1 104 = .ok (.aload_n 0, 1) := by decide +kernel
theorem d_F_comeTo_105 : decode m_F_comeTo.2.1 105 = .ok (.getfield 19, 3) := by decide +kernel
theorem d_F_comeTo_108 : decode m_F_comeTo.2.1 108 = .ok (.invokevirtual 98, 3) := by decide +kernel
theorem d_F_comeTo_111 : decode m_F_comeTo.2.1 111 = .ok (.aload_n 0, 1) := by decide +kernel
theorem d_F_comeTo_112 : decode m_F_comeTo.2.1 112 = .ok (.aload_n 2, 1) := by decide +kernel
theorem d_F_comeTo_113 : decode m_F_comeTo.2.1 113 = .ok (.getfield 95, 3) := by decide +kernel
theorem d_F_comeTo_116 : decode m_F_comeTo.2.1 116 = .ok (.aload_n 0, 1) := by decide +kernel
theorem d_F_comeTo_117 : decode m_F_comeTo.2.1 117 = .ok (.getfield 19, 3) := by decide +kernel
theorem d_F_comeTo_120 : decode m_F_comeTo.2.1 120 = .ok (.invokevirtual 105, 3) := by decide +kernel
theorem d_F_comeTo_123 : decode m_F_comeTo.2.1 123 = .ok (.goto 16, 3) := by decide +kernel
theorem d_F_comeTo_126 : decode m_F_comeTo.2.1 126 = .ok (.aload_n 0, 1) := by decide +kernel
theorem d_F_comeTo_127 : decode m_F_comeTo.2.1 127 = .ok (.aload_n 1, 1) := by decide +kernel
theorem d_F_comeTo_128 : decode m_F_comeTo.2.1 128 = .ok (.invokevirtual 141, 3) := by decide +kernel
theorem d_F_comeTo_131 : decode m_F_comeTo.2.1 131 = .ok (.goto 8, 3) := by decide +kernel
theorem d_F_comeTo_134 : decode m_F_comeTo.2.1 134 = .ok (.aload_n 0, 1) := by decide +kernel
theorem d_F_comeTo_135 : decode m_F_comeTo.2.1 135 = .ok (.aload_n 1, 1) := by decide +kernel
theorem d_F_comeTo_136 : decode m_F_comeTo.2.1 136 = .ok (.invokevirtual 141, 3) := by decide +kernel
theorem d_F_comeTo_139 : decode m_F_comeTo.2.1 139 = .ok (.return_, 1) := by decide +kernel
theorem d_F_follow_0 : decode m_F_follow.2.1 0 = .ok (.aload_n 0, 1) := by decide +kernel
theorem d_F_follow_1 : decode m_F_follow.2.1 1 = .ok (.getfield 22, 3) := by decide +kernel
theorem d_F_follow_4 : decode m_F_follow.2.1 4 = .ok (.ifnonnull 18, 3) := by decide +kernel
theorem d_F_follow_7 : decode m_F_follow.2.1 7 = .ok (.aload_n 0, 1) := by decide +kernel
theorem d_F_follow_8 : decode m_F_follow.2.1 8 = .ok (.aload_n 1, 1) := by decide +kernel
theorem d_F_follow_9 : decode m_F_follow.2.1 9 = .ok (.getfield 95, 3) := by decide +kernel
theorem d_F_follow_12 : decode m_F_follow.2.1 12 = .ok (.aload_n 0, 1) := by decide +kernel
theorem d_F_follow_13 : decode m_F_follow.2.1 13 = .ok (.getfield 19, 3) := by decide +kernel
theorem d_F_follow_16 : decode m_F_follow.2.1 16 = .ok (.invokevirtual 105, 3) := by decide +kernel
theorem d_F_follow_19 : decode m_F_follow.2.1 19 = .ok (.goto 38, 3) := by decide +kernel
theorem d_F_follow_22 : decode m_F_follow.2.1 22 = .ok (.aload_n 1, 1) := by decide +kernel
theorem d_F_follow_23 : decode m_F_follow.2.1 23 = .ok (.getfield 81, 3) := by decide +kernel
theorem d_F_follow_26 : decode m_F_follow.2.1 26 = .ok (.iconst 5, 1) := by decide +kernel
theorem d_F_follow_27 : decode m_F_follow.2.1 27 = .ok (.if_icmp .ne 30, 3) := by decide +kernel
theorem d_F_follow_30 : decode m_F_follow.2.1 30 = .ok (.aload_n 0, 1) := by decide +kernel
theorem d_F_follow_31 : decode m_F_follow.2.1 31 = .ok (.getfield 22, 3) := by decide +kernel
theorem d_F_follow_34 : decode m_F_follow.2.1 34 = .ok (.invokevirtual 144, 3) := by decide +kernel
theorem d_F_follow_37 : decode m_F_follow.2.1 37 = .ok (.ifCond .eq 20, 3) := by decide +kernel
theorem d_F_follow_40 : decode m_F_follow.2.1 40 = .ok (.aload_n 0, 1) := by decide +kernel
theorem d_F_follow_41 : decode m_F_follow.2.1 41 = .ok (.aload_n 1, 1) := by decide +kernel
theorem d_F_follow_42 : decode m_F_follow.2.1 42 = .ok (.getfield 138, 3) := by decide +kernel
theorem d_F_follow_45 : decode m_F_follow.2.1 45 = .ok (.aload_n 0, 1) := by decide +kernel
theorem d_F_follow_46 : decode m_F_follow.2.1 46 = .ok (.getfield 22, 3) := by decide +kernel
theorem d_F_follow_49 : decode m_F_follow.2.1 49 = .ok (.getfield 147, 3) := by decide +kernel
theorem d_F_follow_52 : decode m_F_follow.2.1 52 = .ok (.iconst 0, 1) := by decide +kernel
theorem d_F_follow_53 : decode m_F_follow.2.1 53 = .ok (.iaload, 1) := by decide +kernel
theorem d_F_follow_54 : decode m_F_follow.2.1 54 = .ok (.invokevirtual 105, 3) := by decide +kernel
theorem d_F_follow_57 : decode m_F_follow.2.1 57 = .ok (.return_, 1) := by decide +kernel
theorem d_F_close_0 : decode m_F_close.2.1 0 = .ok (.aload_n 1, 1) := by decide +kernel
theorem d_F_close_1 : decode m_F_close.2.1 1 = .ok (.getfield 127, 3) := by decide +kernel
theorem d_F_close_4 : decode m_F_close.2.1 4 = .ok (.ifCond .ne 27, 3) := by decide +kernel
theorem d_F_close_7 : decode m_F_close.2.1 7 = .ok (.aload_n 1, 1) := by decide +kernel
theorem d_F_close_8 : decode m_F_close.2.1 8 = .ok (.iconst 1, 1) := by decide +kernel
theorem d_F_close_9 : decode m_F_close.2.1 9 = .ok (.putfield 127, 3) := by decide +kernel
theorem d_F_close_12 : decode m_F_close.2.1 12 = .ok (.aload_n 1, 1) := by decide +kernel
theorem d_F_close_13 : decode m_F_close.2.1 13 = .ok (.aload_n 0, 1) := by decide +kernel
theorem d_F_close_14 : decode m_F_close.2.1 14 = .ok (.getfield 19, 3) := by decide +kernel
theorem d_F_close_17 : decode m_F_close.2.1 17 = .ok (.putfield 151, 3) := by decide +kernel
theorem d_F_close_20 : decode m_F_close.2.1 20 = .ok (.aload_n 1, 1) := by decide +kernel
theorem d_F_close_21 : decode m_F_close.2.1 21 = .ok (.aload_n 0, 1) := by decide +kernel
theorem d_F_close_22 : decode m_F_close.2.1 22 = .ok (.getfield 22, 3) := by decide +kernel
theorem d_F_close_25 : decode m_F_close.2.1 25 = .ok (.putfield 152, 3) := by decide +kernel
theorem d_F_close_28 : decode m_F_close.2.1 28 = .ok (.goto 40, 3) := by decide +kernel
theorem d_F_close_31 : decode m_F_close.2.1 31 = .ok (.aload_n 0, 1) := by decide +kernel
theorem d_F_close_32 : decode m_F_close.2.1 32 = .ok (.getfield 22, 3) := by decide +kernel
theorem d_F_close_35 : decode m_F_close.2.1 35 = .ok (.ifnull 33, 3) := by decide +kernel
theorem d_F_close_38 : decode m_F_close.2.1 38 = .ok (.aload_n 1, 1) := by decide +kernel
theorem d_F_close_39 : decode m_F_close.2.1 39 = .ok (.aload_n 1, 1) := by decide +kernel
theorem d_F_close_40 : decode m_F_close.2.1 40 = .ok (.getfield 152, 3) := by decide +kernel
theorem d_F_close_43 : decode m_F_close.2.1 43 = .ok (.ifnonnull 10, 3) := by decide +kernel
theorem d_F_close_46 : decode m_F_close.2.1 46 = .ok (.aload_n 0, 1) := by decide +kernel
theorem d_F_close_47 : decode m_F_close.2.1 47 = .ok (.getfield 22, 3) := by decide +kernel
theorem d_F_close_50 : decode m_F_close.2.1 50 = .ok (.goto 15, 3) := by decide +kernel
theorem d_F_close_53 : decode m_F_close.2.1 53 = .ok (.iconst 4, 1) := by decide +kernel
theorem d_F_close_54 : decode m_F_close.2.1 54 = .ok (.aload_n 1, 1) := by decide +kernel
theorem d_F_close_55 : decode m_F_close.2.1 55 = .ok (.getfield 152, 3) := by decide +kernel
theorem d_F_close_58 : decode m_F_close.2.1 58 = .ok (.aload_n 0, 1) := by decide +kernel
theorem d_F_close_59 : decode m_F_close.2.1 59 = .ok (.getfield 22, 3) := by decide +kernel
theorem d_F_close_62 : decode m_F_close.2.1 62 = .ok (.invokestatic 153, 3) := by decide +kernel
theorem d_F_close_65 : decode m_F_close.2.1 65 = .ok (.putfield 152, 3) := by decide +kernel
theorem d_F_close_68 : decode m_F_close.2.1 68 = .ok (.aload_n 1, 1) := by decide +kernel
theorem d_F_close_69 : decode m_F_close.2.1 69 = .ok (.getfield 157, 3) := by decide +kernel
theorem d_F_close_72 : decode m_F_close.2.1 72 = .ok (.astore_n 2, 1) := by decide +kernel
theorem d_F_close_73 : decode m_F_close.2.1 73 = .ok (.aload_n 2, 1) := by decide +kernel
theorem d_F_close_74 : decode m_F_close.2.1 74 = .ok (.ifnull 29, 3) := by decide +kernel
theorem d_F_close_77 : decode m_F_close.2.1 77 = .ok (.aload_n 1, 1) := by decide +kernel
theorem d_F_close_78 : decode m_F_close.2.1 78 = .ok (.aload_n 2, 1) := by decide +kernel
theorem d_F_close_79 : decode m_F_close.2.1 79 = .ok (.getfield 161, 3) := by decide +kernel
theorem d_F_close_82 : decode m_F_close.2.1 82 = .ok (.putfield 157, 3) := by decide +kernel
theorem d_F_close_85 : decode m_F_close.2.1 85 = .ok (.aload_n 0, 1) := by decide +kernel
theorem d_F_close_86 : decode m_F_close.2.1 86 = .ok (.iconst 1, 1) := by decide +kernel
theorem d_F_close_87 : decode m_F_close.2.1 87 = .ok (.putfield 37, 3) := by decide +kernel
theorem d_F_close_90 : decode m_F_close.2.1 90 = .ok (.aload_n 0, 1) := by decide +kernel
theorem d_F_close_91 : decode m_F_close.2.1 91 = .ok (.aload_n 2, 1) := by decide +kernel
theorem d_F_close_92 : decode m_F_close.2.1 92 = .ok (.getfield 166, 3) := by decide +kernel
theorem d_F_close_95 : decode m_F_close.2.1 95 = .ok (.aload_n 2, 1) := by decide +kernel
theorem d_F_close_96 : decode m_F_close.2.1 96 = .ok (.getfield 167, 3) := by decide +kernel
theorem d_F_close_99 : decode m_F_close.2.1 99 = .ok (.invokevirtual 105, 3) := by decide +kernel
theorem d_F_close_102 : decode m_F_close.2.1 102 = .ok (.return_, 1) := by decide +kernel
theorem d_F_close_103 : decode m_F_close.2.1 103 = .ok (.aload_n 0, 1) := by decide +kernel
theorem d_F_close_104 : decode m_F_close.2.1 104 = .ok (.aload_n 1, 1) := by decide +kernel
theorem d_F_close_105 : decode m_F_close.2.1 105 = .ok (.getfield 111, 3) := by decide +kernel
theorem d_F_close_108 : decode m_F_close.2.1 108 = .ok (.putfield 37, 3) := by decide +kernel
theorem d_F_close_111 : decode m_F_close.2.1 111 = .ok (.aload_n 0, 1) := by decide +kernel
theorem d_F_close_112 : decode m_F_close.2.1 112 = .ok (.aload_n 1, 1) := by decide +kernel
theorem d_F_close_113 : decode m_F_close.2.1 113 = .ok (.invokevirtual 130, 3) := by decide +kernel
theorem d_F_close_116 : decode m_F_close.2.1 116 = .ok (.aload_n 0, 1) := by decide +kernel
theorem d_F_close_117 : decode m_F_close.2.1 117 = .ok (.aload_n 1, 1) := by decide +kernel
theorem d_F_close_118 : decode m_F_close.2.1 118 = .ok (.getfield 151, 3) := by decide +kernel
theorem d_F_close_121 : decode m_F_close.2.1 121 = .ok (.aload_n 1, 1) := by decide +kernel
theorem d_F_close_122 : decode m_F_close.2.1 122 = .ok (.getfield 152, 3) := by decide +kernel
theorem d_F_close_125 : decode m_F_close.2.1 125 = .ok (.invokevirtual 64, 3) := by decide +kernel
theorem d_F_close_128 : decode m_F_close.2.1 128 = .ok (.return_, 1) := by decide +kernel
theorem d_F_drop_0 : decode m_F_drop.2.1 0 = .ok (.aload_n 0, 1) := by decide +kernel
theorem d_F_drop_1 : decode m_F_drop.2.1 1 = .ok (.aload_n 1, 1) := by decide +kernel
theorem d_F_drop_2 : decode m_F_drop.2.1 2 = .ok (.getfield 114, 3) := by decide +kernel
theorem d_F_drop_5 : decode m_F_drop.2.1 5 = .ok (.putfield 30, 3) := by decide +kernel
theorem d_F_drop_8 : decode m_F_drop.2.1 8 = .ok (.aload_n 0, 1) := by decide +kernel
theorem d_F_drop_9 : decode m_F_drop.2.1 9 = .ok (.dup, 1) := by decide +kernel
theorem d_F_drop_10 : decode m_F_drop.2.1 10 = .ok (.getfield 34, 3) := by decide +kernel
theorem d_F_drop_13 : decode m_F_drop.2.1 13 = .ok (.iconst 1, 1) := by decide +kernel
theorem d_F_drop_14 : decode m_F_drop.2.1 14 = .ok (.isub, 1) := by decide +kernel
theorem d_F_drop_15 : decode m_F_drop.2.1 15 = .ok (.putfield 34, 3) := by decide +kernel
theorem d_F_drop_18 : decode m_F_drop.2.1 18 = .ok (.return_, 1) := by decide +kernel
theorem d_Q_init_0 : decode m_Q_init.2.1 0 = .ok (.aload_n 0, 1) := by decide +kernel
theorem d_Q_init_1 : decode m_Q_init.2.1 1 = .ok (.invokespecial 1, 3) := by decide +kernel
theorem d_Q_init_4 : decode m_Q_init.2.1 4 = .ok (.aload_n 0, 1) := by decide +kernel
theorem d_Q_init_5 : decode m_Q_init.2.1 5 = .ok (.aconst_null, 1) := by decide +kernel
theorem d_Q_init_6 : decode m_Q_init.2.1 6 = .ok (.putfield 7, 3) := by decide +kernel
theorem d_Q_init_9 : decode m_Q_init.2.1 9 = .ok (.aload_n 0, 1) := by decide +kernel
theorem d_Q_init_10 : decode m_Q_init.2.1 10 = .ok (.iconst 0, 1) := by decide +kernel
theorem d_Q_init_11 : decode m_Q_init.2.1 11 = .ok (.putfield 13, 3) := by decide +kernel
theorem d_Q_init_14 : decode m_Q_init.2.1 14 = .ok (.aload_n 0, 1) := by decide +kernel
theorem d_Q_init_15 : decode m_Q_init.2.1 15 = .ok (.iconst 0, 1) := by decide +kernel
theorem d_Q_init_16 : decode m_Q_init.2.1 16 = .ok (.putfield 17, 3) := by decide +kernel
theorem d_Q_init_19 : decode m_Q_init.2.1 19 = .ok (.aload_n 0, 1) := by decide +kernel
theorem d_Q_init_20 : decode m_Q_init.2.1 20 = .ok (.iconst 0, 1) := by decide +kernel
theorem d_Q_init_21 : decode m_Q_init.2.1 21 = .ok (.putfield 21, 3) := by decide +kernel
theorem d_Q_init_24 : decode m_Q_init.2.1 24 = .ok (.aload_n 0, 1) := by decide +kernel
theorem d_Q_init_25 : decode m_Q_init.2.1 25 = .ok (.aconst_null, 1) := by decide +kernel
theorem d_Q_init_26 : decode m_Q_init.2.1 26 = .ok (.putfield 24, 3) := by decide +kernel
theorem d_Q_init_29 : decode m_Q_init.2.1 29 = .ok (.aload_n 0, 1) := by decide +kernel
theorem d_Q_init_30 : decode m_Q_init.2.1 30 = .ok (.aload_n 1, 1) := by decide +kernel
theorem d_Q_init_31 : decode m_Q_init.2.1 31 = .ok (.putfield 28, 3) := by decide +kernel
theorem d_Q_init_34 : decode m_Q_init.2.1 34 = .ok (.aload_n 0, 1) := by decide +kernel
theorem d_Q_init_35 : decode m_Q_init.2.1 35 = .ok (.iload_n 2, 1) := by decide +kernel
theorem d_Q_init_36 : decode m_Q_init.2.1 36 = .ok (.putfield 32, 3) := by decide +kernel
theorem d_Q_init_39 : decode m_Q_init.2.1 39 = .ok (.aload_n 0, 1) := by decide +kernel
theorem d_Q_init_40 : decode m_Q_init.2.1 40 = .ok (.aload_n 3, 1) := by decide +kernel
theorem d_Q_init_41 : decode m_Q_init.2.1 41 = .ok (.putfield 35, 3) := by decide +kernel
theorem d_Q_init_44 : decode m_Q_init.2.1 44 = .ok (.return_, 1) := by decide +kernel
theorem d_Q_hold_0 : decode m_Q_hold.2.1 0 = .ok (.aload_n 0, 1) := by decide +kernel
theorem d_Q_hold_1 : decode m_Q_hold.2.1 1 = .ok (.new 39, 3) := by decide +kernel
theorem d_Q_hold_4 : decode m_Q_hold.2.1 4 = .ok (.dup, 1) := by decide +kernel
theorem d_Q_hold_5 : decode m_Q_hold.2.1 5 = .ok (.aload_n 1, 1) := by decide +kernel
theorem d_Q_hold_6 : decode m_Q_hold.2.1 6 = .ok (.iload_n 2, 1) := by decide +kernel
theorem d_Q_hold_7 : decode m_Q_hold.2.1 7 = .ok (.aload_n 0, 1) := by decide +kernel
theorem d_Q_hold_8 : decode m_Q_hold.2.1 8 = .ok (.getfield 7, 3) := by decide +kernel
theorem d_Q_hold_11 : decode m_Q_hold.2.1 11 = .ok (.invokespecial 41, 3) := by decide +kernel
theorem d_Q_hold_14 : decode m_Q_hold.2.1 14 = .ok (.putfield 7, 3) := by decide +kernel
theorem d_Q_hold_17 : decode m_Q_hold.2.1 17 = .ok (.aload_n 0, 1) := by decide +kernel
theorem d_Q_hold_18 : decode m_Q_hold.2.1 18 = .ok (.dup, 1) := by decide +kernel
theorem d_Q_hold_19 : decode m_Q_hold.2.1 19 = .ok (.getfield 13, 3) := by decide +kernel
theorem d_Q_hold_22 : decode m_Q_hold.2.1 22 = .ok (.iconst 1, 1) := by decide +kernel
theorem d_Q_hold_23 : decode m_Q_hold.2.1 23 = .ok (.iadd, 1) := by decide +kernel
theorem d_Q_hold_24 : decode m_Q_hold.2.1 24 = .ok (.putfield 13, 3) := by decide +kernel
theorem d_Q_hold_27 : decode m_Q_hold.2.1 27 = .ok (.return_, 1) := by decide +kernel
theorem d_L_init_0 : decode m_L_init.2.1 0 = .ok (.aload_n 0, 1) := by decide +kernel
theorem d_L_init_1 : decode m_L_init.2.1 1 = .ok (.invokespecial 3, 3) := by decide +kernel
theorem d_L_init_4 : decode m_L_init.2.1 4 = .ok (.aload_n 0, 1) := by decide +kernel
theorem d_L_init_5 : decode m_L_init.2.1 5 = .ok (.bipush 10, 2) := by decide +kernel
theorem d_L_init_7 : decode m_L_init.2.1 7 = .ok (.newarray .int, 2) := by decide +kernel
theorem d_L_init_9 : decode m_L_init.2.1 9 = .ok (.putfield 9, 3) := by decide +kernel
theorem d_L_init_12 : decode m_L_init.2.1 12 = .ok (.aload_n 0, 1) := by decide +kernel
theorem d_L_init_13 : decode m_L_init.2.1 13 = .ok (.iconst 0, 1) := by decide +kernel
theorem d_L_init_14 : decode m_L_init.2.1 14 = .ok (.putfield 15, 3) := by decide +kernel
theorem d_L_init_17 : decode m_L_init.2.1 17 = .ok (.return_, 1) := by decide +kernel
theorem d_L_clear_0 : decode m_L_clear.2.1 0 = .ok (.aload_n 0, 1) := by decide +kernel
theorem d_L_clear_1 : decode m_L_clear.2.1 1 = .ok (.iconst 0, 1) := by decide +kernel
theorem d_L_clear_2 : decode m_L_clear.2.1 2 = .ok (.putfield 15, 3) := by decide +kernel
theorem d_L_clear_5 : decode m_L_clear.2.1 5 = .ok (.return_, 1) := by decide +kernel
theorem d_L_add_0 : decode m_L_add.2.1 0 = .ok (.aload_n 0, 1) := by decide +kernel
theorem d_L_add_1 : decode m_L_add.2.1 1 = .ok (.getfield 15, 3) := by decide +kernel
theorem d_L_add_4 : decode m_L_add.2.1 4 = .ok (.bipush 10, 2) := by decide +kernel
theorem d_L_add_6 : decode m_L_add.2.1 6 = .ok (.if_icmp .ge 23, 3) := by decide +kernel
theorem d_L_add_9 : decode m_L_add.2.1 9 = .ok (.aload_n 0, 1) := by decide +kernel
theorem d_L_add_10 : decode m_L_add.2.1 10 = .ok (.getfield 9, 3) := by decide +kernel
theorem d_L_add_13 : decode m_L_add.2.1 13 = .ok (.aload_n 0, 1) := by decide +kernel
theorem d_L_add_14 : decode m_L_add.2.1 14 = .ok (.getfield 15, 3) := by decide +kernel
theorem d_L_add_17 : decode m_L_add.2.1 17 = .ok (.iload_n 1, 1) := by decide +kernel
theorem d_L_add_18 : decode m_L_add.2.1 18 = .ok (.iastore, 1) := by decide +kernel
theorem d_L_add_19 : decode m_L_add.2.1 19 = .ok (.aload_n 0, 1) := by decide +kernel
theorem d_L_add_20 : decode m_L_add.2.1 20 = .ok (.dup, 1) := by decide +kernel
theorem d_L_add_21 : decode m_L_add.2.1 21 = .ok (.getfield 15, 3) := by decide +kernel
theorem d_L_add_24 : decode m_L_add.2.1 24 = .ok (.iconst 1, 1) := by decide +kernel
theorem d_L_add_25 : decode m_L_add.2.1 25 = .ok (.iadd, 1) := by decide +kernel
theorem d_L_add_26 : decode m_L_add.2.1 26 = .ok (.putfield 15, 3) := by decide +kernel
theorem d_L_add_29 : decode m_L_add.2.1 29 = .ok (.return_, 1) := by decide +kernel
theorem d_L_at_0 : decode m_L_at.2.1 0 = .ok (.iload_n 1, 1) := by decide +kernel
theorem d_L_at_1 : decode m_L_at.2.1 1 = .ok (.ifCond .lt 20, 3) := by decide +kernel
theorem d_L_at_4 : decode m_L_at.2.1 4 = .ok (.iload_n 1, 1) := by decide +kernel
theorem d_L_at_5 : decode m_L_at.2.1 5 = .ok (.aload_n 0, 1) := by decide +kernel
theorem d_L_at_6 : decode m_L_at.2.1 6 = .ok (.getfield 15, 3) := by decide +kernel
theorem d_L_at_9 : decode m_L_at.2.1 9 = .ok (.if_icmp .ge 12, 3) := by decide +kernel
theorem d_L_at_12 : decode m_L_at.2.1 12 = .ok (.aload_n 0, 1) := by decide +kernel
theorem d_L_at_13 : decode m_L_at.2.1 13 = .ok (.getfield 9, 3) := by decide +kernel
theorem d_L_at_16 : decode m_L_at.2.1 16 = .ok (.iload_n 1, 1) := by decide +kernel
theorem d_L_at_17 : decode m_L_at.2.1 17 = .ok (.iaload, 1) := by decide +kernel
theorem d_L_at_18 : decode m_L_at.2.1 18 = .ok (.goto 4, 3) := by decide +kernel
theorem d_L_at_21 : decode m_L_at.2.1 21 = .ok (.iconst (-1), 1) := by decide +kernel
theorem d_L_at_22 : decode m_L_at.2.1 22 = .ok (.ireturn, 1) := by decide +kernel
theorem d_L_takeFirst_0 : decode m_L_takeFirst.2.1 0 = .ok (.aload_n 0, 1) := by decide +kernel
theorem d_L_takeFirst_1 : decode m_L_takeFirst.2.1 1 = .ok (.iconst 0, 1) := by decide +kernel
theorem d_L_takeFirst_2 : decode m_L_takeFirst.2.1 2 = .ok (.invokevirtual 19, 3) := by decide +kernel
theorem d_L_takeFirst_5 : decode m_L_takeFirst.2.1 5 = .ok (.istore_n 1, 1) := by decide +kernel
theorem d_L_takeFirst_6 : decode m_L_takeFirst.2.1 6 = .ok (.aload_n 0, 1) := by decide +kernel
theorem d_L_takeFirst_7 : decode m_L_takeFirst.2.1 7 = .ok (.iload_n 1, 1) := by decide +kernel
theorem d_L_takeFirst_8 : decode m_L_takeFirst.2.1 8 = .ok (.invokevirtual 23, 3) := by decide +kernel
theorem d_L_takeFirst_11 : decode m_L_takeFirst.2.1 11 = .ok (.iload_n 1, 1) := by decide +kernel
theorem d_L_takeFirst_12 : decode m_L_takeFirst.2.1 12 = .ok (.ireturn, 1) := by decide +kernel
theorem d_L_remove_0 : decode m_L_remove.2.1 0 = .ok (.iconst 0, 1) := by decide +kernel
theorem d_L_remove_1 : decode m_L_remove.2.1 1 = .ok (.istore_n 2, 1) := by decide +kernel
theorem d_L_remove_2 : decode m_L_remove.2.1 2 = .ok (.iconst 0, 1) := by decide +kernel
theorem d_L_remove_3 : decode m_L_remove.2.1 3 = .ok (.istore_n 3, 1) := by decide +kernel
theorem d_L_remove_4 : decode m_L_remove.2.1 4 = .ok (.iload_n 3, 1) := by decide +kernel
theorem d_L_remove_5 : decode m_L_remove.2.1 5 = .ok (.aload_n 0, 1) := by decide +kernel
theorem d_L_remove_6 : decode m_L_remove.2.1 6 = .ok (.getfield 15, 3) := by decide +kernel
theorem d_L_remove_9 : decode m_L_remove.2.1 9 = .ok (.if_icmp .ge 34, 3) := by decide +kernel
theorem d_L_remove_12 : decode m_L_remove.2.1 12 = .ok (.aload_n 0, 1) := by decide +kernel
theorem d_L_remove_13 : decode m_L_remove.2.1 13 = .ok (.getfield 9, 3) := by decide +kernel
theorem d_L_remove_16 : decode m_L_remove.2.1 16 = .ok (.iload_n 3, 1) := by decide +kernel
theorem d_L_remove_17 : decode m_L_remove.2.1 17 = .ok (.iaload, 1) := by decide +kernel
theorem d_L_remove_18 : decode m_L_remove.2.1 18 = .ok (.iload_n 1, 1) := by decide +kernel
theorem d_L_remove_19 : decode m_L_remove.2.1 19 = .ok (.if_icmp .eq 18, 3) := by decide +kernel
theorem d_L_remove_22 : decode m_L_remove.2.1 22 = .ok (.aload_n 0, 1) := by decide +kernel
theorem d_L_remove_23 : decode m_L_remove.2.1 23 = .ok (.getfield 9, 3) := by decide +kernel
theorem d_L_remove_26 : decode m_L_remove.2.1 26 = .ok (.iload_n 2, 1) := by decide +kernel
theorem d_L_remove_27 : decode m_L_remove.2.1 27 = .ok (.aload_n 0, 1) := by decide +kernel
theorem d_L_remove_28 : decode m_L_remove.2.1 28 = .ok (.getfield 9, 3) := by decide +kernel
theorem d_L_remove_31 : decode m_L_remove.2.1 31 = .ok (.iload_n 3, 1) := by decide +kernel
theorem d_L_remove_32 : decode m_L_remove.2.1 32 = .ok (.iaload, 1) := by decide +kernel
theorem d_L_remove_33 : decode m_L_remove.2.1 33 = .ok (.iastore, 1) := by decide +kernel
theorem d_L_remove_34 : decode m_L_remove.2.1 34 = .ok (.iinc 2 1, 3) := by decide +kernel
theorem d_L_remove_37 : decode m_L_remove.2.1 37 = .ok (.iinc 3 1, 3) := by decide +kernel
theorem d_L_remove_40 : decode m_L_remove.2.1 40 = .ok (.goto (-36), 3) := by decide +kernel
theorem d_L_remove_43 : decode m_L_remove.2.1 43 = .ok (.aload_n 0, 1) := by decide +kernel
theorem d_L_remove_44 : decode m_L_remove.2.1 44 = .ok (.iload_n 2, 1) := by decide +kernel
theorem d_L_remove_45 : decode m_L_remove.2.1 45 = .ok (.putfield 15, 3) := by decide +kernel
theorem d_L_remove_48 : decode m_L_remove.2.1 48 = .ok (.return_, 1) := by decide +kernel
theorem d_P_init_0 : decode m_P_init.2.1 0 = .ok (.aload_n 0, 1) := by decide +kernel
theorem d_P_init_1 : decode m_P_init.2.1 1 = .ok (.invokespecial 1, 3) := by decide +kernel
theorem d_P_init_4 : decode m_P_init.2.1 4 = .ok (.aload_n 0, 1) := by decide +kernel
theorem d_P_init_5 : decode m_P_init.2.1 5 = .ok (.iconst 0, 1) := by decide +kernel
theorem d_P_init_6 : decode m_P_init.2.1 6 = .ok (.putfield 7, 3) := by decide +kernel
theorem d_P_init_9 : decode m_P_init.2.1 9 = .ok (.aload_n 0, 1) := by decide +kernel
theorem d_P_init_10 : decode m_P_init.2.1 10 = .ok (.iconst 0, 1) := by decide +kernel
theorem d_P_init_11 : decode m_P_init.2.1 11 = .ok (.putfield 13, 3) := by decide +kernel
theorem d_P_init_14 : decode m_P_init.2.1 14 = .ok (.aload_n 0, 1) := by decide +kernel
theorem d_P_init_15 : decode m_P_init.2.1 15 = .ok (.iconst 0, 1) := by decide +kernel
theorem d_P_init_16 : decode m_P_init.2.1 16 = .ok (.putfield 17, 3) := by decide +kernel
theorem d_P_init_19 : decode m_P_init.2.1 19 = .ok (.aload_n 0, 1) := by decide +kernel
theorem d_P_init_20 : decode m_P_init.2.1 20 = .ok (.iconst 1, 1) := by decide +kernel
theorem d_P_init_21 : decode m_P_init.2.1 21 = .ok (.putfield 20, 3) := by decide +kernel
theorem d_P_init_24 : decode m_P_init.2.1 24 = .ok (.aload_n 0, 1) := by decide +kernel
theorem d_P_init_25 : decode m_P_init.2.1 25 = .ok (.new 23, 3) := by decide +kernel
theorem d_P_init_28 : decode m_P_init.2.1 28 = .ok (.dup, 1) := by decide +kernel
theorem d_P_init_29 : decode m_P_init.2.1 29 = .ok (.invokespecial 25, 3) := by decide +kernel
theorem d_P_init_32 : decode m_P_init.2.1 32 = .ok (.putfield 26, 3) := by decide +kernel
theorem d_P_init_35 : decode m_P_init.2.1 35 = .ok (.aload_n 0, 1) := by decide +kernel
theorem d_P_init_36 : decode m_P_init.2.1 36 = .ok (.new 23, 3) := by decide +kernel
theorem d_P_init_39 : decode m_P_init.2.1 39 = .ok (.dup, 1) := by decide +kernel
theorem d_P_init_40 : decode m_P_init.2.1 40 = .ok (.invokespecial 25, 3) := by decide +kernel
theorem d_P_init_43 : decode m_P_init.2.1 43 = .ok (.putfield 30, 3) := by decide +kernel
theorem d_P_init_46 : decode m_P_init.2.1 46 = .ok (.return_, 1) := by decide +kernel
theorem d_P_clear_0 : decode m_P_clear.2.1 0 = .ok (.aload_n 0, 1) := by decide +kernel
theorem d_P_clear_1 : decode m_P_clear.2.1 1 = .ok (.iconst 0, 1) := by decide +kernel
theorem d_P_clear_2 : decode m_P_clear.2.1 2 = .ok (.putfield 7, 3) := by decide +kernel
theorem d_P_clear_5 : decode m_P_clear.2.1 5 = .ok (.aload_n 0, 1) := by decide +kernel
theorem d_P_clear_6 : decode m_P_clear.2.1 6 = .ok (.iconst 0, 1) := by decide +kernel
theorem d_P_clear_7 : decode m_P_clear.2.1 7 = .ok (.putfield 13, 3) := by decide +kernel
theorem d_P_clear_10 : decode m_P_clear.2.1 10 = .ok (.aload_n 0, 1) := by decide +kernel
theorem d_P_clear_11 : decode m_P_clear.2.1 11 = .ok (.iconst 0, 1) := by decide +kernel
theorem d_P_clear_12 : decode m_P_clear.2.1 12 = .ok (.putfield 17, 3) := by decide +kernel
theorem d_P_clear_15 : decode m_P_clear.2.1 15 = .ok (.aload_n 0, 1) := by decide +kernel
theorem d_P_clear_16 : decode m_P_clear.2.1 16 = .ok (.iconst 1, 1) := by decide +kernel
theorem d_P_clear_17 : decode m_P_clear.2.1 17 = .ok (.putfield 20, 3) := by decide +kernel
theorem d_P_clear_20 : decode m_P_clear.2.1 20 = .ok (.aload_n 0, 1) := by decide +kernel
theorem d_P_clear_21 : decode m_P_clear.2.1 21 = .ok (.getfield 26, 3) := by decide +kernel
theorem d_P_clear_24 : decode m_P_clear.2.1 24 = .ok (.invokevirtual 33, 3) := by decide +kernel
theorem d_P_clear_27 : decode m_P_clear.2.1 27 = .ok (.aload_n 0, 1) := by decide +kernel
theorem d_P_clear_28 : decode m_P_clear.2.1 28 = .ok (.getfield 30, 3) := by decide +kernel
theorem d_P_clear_31 : decode m_P_clear.2.1 31 = .ok (.invokevirtual 33, 3) := by decide +kernel
theorem d_P_clear_34 : decode m_P_clear.2.1 34 = .ok (.return_, 1) := by decide +kernel
