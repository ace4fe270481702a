theorem dX6_init_0 : decode cX6_init 0 = .ok (.aload_n 0, 1) := by decide +kernel
theorem dX6_init_1 : decode cX6_init 1 = .ok (.invokespecial 3, 3) := by decide +kernel
theorem dX6_init_4 : decode cX6_init 4 = .ok (.aload_n 0, 1) := by decide +kernel
theorem dX6_init_5 : decode cX6_init 5 = .ok (.new 9, 3) := by decide +kernel
theorem dX6_init_8 : decode cX6_init 8 = .ok (.dup, 1) := by decide +kernel
theorem dX6_init_9 : decode cX6_init 9 = .ok (.invokespecial 11, 3) := by decide +kernel
theorem dX6_init_12 : decode cX6_init 12 = .ok (.putfield 12, 3) := by decide +kernel
theorem dX6_init_15 : decode cX6_init 15 = .ok (.aload_n 0, 1) := by decide +kernel
theorem dX6_init_16 : decode cX6_init 16 = .ok (.new 9, 3) := by decide +kernel
theorem dX6_init_19 : decode cX6_init 19 = .ok (.dup, 1) := by decide +kernel
theorem dX6_init_20 : decode cX6_init 20 = .ok (.invokespecial 11, 3) := by decide +kernel
theorem dX6_init_23 : decode cX6_init 23 = .ok (.putfield 16, 3) := by decide +kernel
theorem dX6_init_26 : decode cX6_init 26 = .ok (.aload_n 0, 1) := by decide +kernel
theorem dX6_init_27 : decode cX6_init 27 = .ok (.new 19, 3) := by decide +kernel
theorem dX6_init_30 : decode cX6_init 30 = .ok (.dup, 1) := by decide +kernel
theorem dX6_init_31 : decode cX6_init 31 = .ok (.invokespecial 21, 3) := by decide +kernel
theorem dX6_init_34 : decode cX6_init 34 = .ok (.putfield 22, 3) := by decide +kernel
theorem dX6_init_37 : decode cX6_init 37 = .ok (.aload_n 0, 1) := by decide +kernel
theorem dX6_init_38 : decode cX6_init 38 = .ok (.new 26, 3) := by decide +kernel
theorem dX6_init_41 : decode cX6_init 41 = .ok (.dup, 1) := by decide +kernel
theorem dX6_init_42 : decode cX6_init 42 = .ok (.invokespecial 28, 3) := by decide +kernel
theorem dX6_init_45 : decode cX6_init 45 = .ok (.putfield 29, 3) := by decide +kernel
theorem dX6_init_48 : decode cX6_init 48 = .ok (.aload_n 0, 1) := by decide +kernel
theorem dX6_init_49 : decode cX6_init 49 = .ok (.new 33, 3) := by decide +kernel
theorem dX6_init_52 : decode cX6_init 52 = .ok (.dup, 1) := by decide +kernel
theorem dX6_init_53 : decode cX6_init 53 = .ok (.invokespecial 35, 3) := by decide +kernel
theorem dX6_init_56 : decode cX6_init 56 = .ok (.putfield 36, 3) := by decide +kernel
theorem dX6_init_59 : decode cX6_init 59 = .ok (.return_, 1) := by decide +kernel
theorem dX6_openTicket_0 : decode cX6_openTicket 0 = .ok (.iload_n 1, 1) := by decide +kernel
theorem dX6_openTicket_1 : decode cX6_openTicket 1 = .ok (.iconst 1, 1) := by decide +kernel
theorem dX6_openTicket_2 : decode cX6_openTicket 2 = .ok (.bipush 13, 2) := by decide +kernel
theorem dX6_openTicket_4 : decode cX6_openTicket 4 = .ok (.invokestatic 40, 3) := by decide +kernel
theorem dX6_openTicket_7 : decode cX6_openTicket 7 = .ok (.ifCond .eq 16, 3) := by decide +kernel
theorem dX6_openTicket_10 : decode cX6_openTicket 10 = .ok (.iload_n 2, 1) := by decide +kernel
theorem dX6_openTicket_11 : decode cX6_openTicket 11 = .ok (.iconst 0, 1) := by decide +kernel
theorem dX6_openTicket_12 : decode cX6_openTicket 12 = .ok (.iconst 3, 1) := by decide +kernel
theorem dX6_openTicket_13 : decode cX6_openTicket 13 = .ok (.invokestatic 40, 3) := by decide +kernel
theorem dX6_openTicket_16 : decode cX6_openTicket 16 = .ok (.ifCond .eq 7, 3) := by decide +kernel
theorem dX6_openTicket_19 : decode cX6_openTicket 19 = .ok (.iconst 1, 1) := by decide +kernel
theorem dX6_openTicket_20 : decode cX6_openTicket 20 = .ok (.goto 4, 3) := by decide +kernel
theorem dX6_openTicket_23 : decode cX6_openTicket 23 = .ok (.iconst 0, 1) := by decide +kernel
theorem dX6_openTicket_24 : decode cX6_openTicket 24 = .ok (.invokestatic 44, 3) := by decide +kernel
theorem dX6_openTicket_27 : decode cX6_openTicket 27 = .ok (.aload_n 0, 1) := by decide +kernel
theorem dX6_openTicket_28 : decode cX6_openTicket 28 = .ok (.getfield 12, 3) := by decide +kernel
theorem dX6_openTicket_31 : decode cX6_openTicket 31 = .ok (.invokevirtual 48, 3) := by decide +kernel
theorem dX6_openTicket_34 : decode cX6_openTicket 34 = .ok (.invokestatic 52, 3) := by decide +kernel
theorem dX6_openTicket_37 : decode cX6_openTicket 37 = .ok (.aload_n 0, 1) := by decide +kernel
theorem dX6_openTicket_38 : decode cX6_openTicket 38 = .ok (.getfield 29, 3) := by decide +kernel
theorem dX6_openTicket_41 : decode cX6_openTicket 41 = .ok (.aload_n 0, 1) := by decide +kernel
theorem dX6_openTicket_42 : decode cX6_openTicket 42 = .ok (.getfield 12, 3) := by decide +kernel
theorem dX6_openTicket_45 : decode cX6_openTicket 45 = .ok (.invokevirtual 55, 3) := by decide +kernel
theorem dX6_openTicket_48 : decode cX6_openTicket 48 = .ok (.aload_n 0, 1) := by decide +kernel
theorem dX6_openTicket_49 : decode cX6_openTicket 49 = .ok (.getfield 12, 3) := by decide +kernel
theorem dX6_openTicket_52 : decode cX6_openTicket 52 = .ok (.iload_n 1, 1) := by decide +kernel
theorem dX6_openTicket_53 : decode cX6_openTicket 53 = .ok (.iload_n 2, 1) := by decide +kernel
theorem dX6_openTicket_54 : decode cX6_openTicket 54 = .ok (.invokevirtual 59, 3) := by decide +kernel
theorem dX6_openTicket_57 : decode cX6_openTicket 57 = .ok (.ireturn, 1) := by decide +kernel
theorem dX6_need_0 : decode cX6_need 0 = .ok (.aload_n 0, 1) := by decide +kernel
theorem dX6_need_1 : decode cX6_need 1 = .ok (.getfield 12, 3) := by decide +kernel
theorem dX6_need_4 : decode cX6_need 4 = .ok (.iload_n 1, 1) := by decide +kernel
theorem dX6_need_5 : decode cX6_need 5 = .ok (.invokevirtual 63, 3) := by decide +kernel
theorem dX6_need_8 : decode cX6_need 8 = .ok (.ifCond .eq 18, 3) := by decide +kernel
theorem dX6_need_11 : decode cX6_need 11 = .ok (.aload_n 0, 1) := by decide +kernel
theorem dX6_need_12 : decode cX6_need 12 = .ok (.getfield 12, 3) := by decide +kernel
theorem dX6_need_15 : decode cX6_need 15 = .ok (.iload_n 2, 1) := by decide +kernel
theorem dX6_need_16 : decode cX6_need 16 = .ok (.invokevirtual 63, 3) := by decide +kernel
theorem dX6_need_19 : decode cX6_need 19 = .ok (.ifCond .eq 7, 3) := by decide +kernel
theorem dX6_need_22 : decode cX6_need 22 = .ok (.iconst 1, 1) := by decide +kernel
theorem dX6_need_23 : decode cX6_need 23 = .ok (.goto 4, 3) := by decide +kernel
theorem dX6_need_26 : decode cX6_need 26 = .ok (.iconst 0, 1) := by decide +kernel
theorem dX6_need_27 : decode cX6_need 27 = .ok (.invokestatic 67, 3) := by decide +kernel
theorem dX6_need_30 : decode cX6_need 30 = .ok (.iload_n 1, 1) := by decide +kernel
theorem dX6_need_31 : decode cX6_need 31 = .ok (.iload_n 2, 1) := by decide +kernel
theorem dX6_need_32 : decode cX6_need 32 = .ok (.if_icmp .eq 7, 3) := by decide +kernel
theorem dX6_need_35 : decode cX6_need 35 = .ok (.iconst 1, 1) := by decide +kernel
theorem dX6_need_36 : decode cX6_need 36 = .ok (.goto 4, 3) := by decide +kernel
theorem dX6_need_39 : decode cX6_need 39 = .ok (.iconst 0, 1) := by decide +kernel
theorem dX6_need_40 : decode cX6_need 40 = .ok (.invokestatic 44, 3) := by decide +kernel
theorem dX6_need_43 : decode cX6_need 43 = .ok (.aload_n 0, 1) := by decide +kernel
theorem dX6_need_44 : decode cX6_need 44 = .ok (.getfield 12, 3) := by decide +kernel
theorem dX6_need_47 : decode cX6_need 47 = .ok (.iload_n 1, 1) := by decide +kernel
theorem dX6_need_48 : decode cX6_need 48 = .ok (.iload_n 2, 1) := by decide +kernel
theorem dX6_need_49 : decode cX6_need 49 = .ok (.invokevirtual 80, 3) := by decide +kernel
theorem dX6_need_52 : decode cX6_need 52 = .ok (.invokestatic 52, 3) := by decide +kernel
theorem dX6_need_55 : decode cX6_need 55 = .ok (.aload_n 0, 1) := by decide +kernel
theorem dX6_need_56 : decode cX6_need 56 = .ok (.getfield 29, 3) := by decide +kernel
theorem dX6_need_59 : decode cX6_need 59 = .ok (.aload_n 0, 1) := by decide +kernel
theorem dX6_need_60 : decode cX6_need 60 = .ok (.getfield 12, 3) := by decide +kernel
theorem dX6_need_63 : decode cX6_need 63 = .ok (.invokevirtual 55, 3) := by decide +kernel
theorem dX6_need_66 : decode cX6_need 66 = .ok (.aload_n 0, 1) := by decide +kernel
theorem dX6_need_67 : decode cX6_need 67 = .ok (.getfield 12, 3) := by decide +kernel
theorem dX6_need_70 : decode cX6_need 70 = .ok (.iload_n 1, 1) := by decide +kernel
theorem dX6_need_71 : decode cX6_need 71 = .ok (.iload_n 2, 1) := by decide +kernel
theorem dX6_need_72 : decode cX6_need 72 = .ok (.invokevirtual 83, 3) := by decide +kernel
theorem dX6_need_75 : decode cX6_need 75 = .ok (.ireturn, 1) := by decide +kernel
theorem dX6_assign_0 : decode cX6_assign 0 = .ok (.aload_n 0, 1) := by decide +kernel
theorem dX6_assign_1 : decode cX6_assign 1 = .ok (.getfield 12, 3) := by decide +kernel
theorem dX6_assign_4 : decode cX6_assign 4 = .ok (.iload_n 1, 1) := by decide +kernel
theorem dX6_assign_5 : decode cX6_assign 5 = .ok (.invokevirtual 63, 3) := by decide +kernel
theorem dX6_assign_8 : decode cX6_assign 8 = .ok (.ifCond .eq 14, 3) := by decide +kernel
theorem dX6_assign_11 : decode cX6_assign 11 = .ok (.iload_n 2, 1) := by decide +kernel
theorem dX6_assign_12 : decode cX6_assign 12 = .ok (.invokestatic 92, 3) := by decide +kernel
theorem dX6_assign_15 : decode cX6_assign 15 = .ok (.ifCond .eq 7, 3) := by decide +kernel
theorem dX6_assign_18 : decode cX6_assign 18 = .ok (.iconst 1, 1) := by decide +kernel
theorem dX6_assign_19 : decode cX6_assign 19 = .ok (.goto 4, 3) := by decide +kernel
theorem dX6_assign_22 : decode cX6_assign 22 = .ok (.iconst 0, 1) := by decide +kernel
theorem dX6_assign_23 : decode cX6_assign 23 = .ok (.invokestatic 67, 3) := by decide +kernel
theorem dX6_assign_26 : decode cX6_assign 26 = .ok (.aload_n 0, 1) := by decide +kernel
theorem dX6_assign_27 : decode cX6_assign 27 = .ok (.getfield 12, 3) := by decide +kernel
theorem dX6_assign_30 : decode cX6_assign 30 = .ok (.iload_n 1, 1) := by decide +kernel
theorem dX6_assign_31 : decode cX6_assign 31 = .ok (.iload_n 2, 1) := by decide +kernel
theorem dX6_assign_32 : decode cX6_assign 32 = .ok (.invokevirtual 95, 3) := by decide +kernel
theorem dX6_assign_35 : decode cX6_assign 35 = .ok (.invokestatic 52, 3) := by decide +kernel
theorem dX6_assign_38 : decode cX6_assign 38 = .ok (.aload_n 0, 1) := by decide +kernel
theorem dX6_assign_39 : decode cX6_assign 39 = .ok (.getfield 29, 3) := by decide +kernel
theorem dX6_assign_42 : decode cX6_assign 42 = .ok (.aload_n 0, 1) := by decide +kernel
theorem dX6_assign_43 : decode cX6_assign 43 = .ok (.getfield 12, 3) := by decide +kernel
theorem dX6_assign_46 : decode cX6_assign 46 = .ok (.invokevirtual 55, 3) := by decide +kernel
theorem dX6_assign_49 : decode cX6_assign 49 = .ok (.aload_n 0, 1) := by decide +kernel
theorem dX6_assign_50 : decode cX6_assign 50 = .ok (.getfield 12, 3) := by decide +kernel
theorem dX6_assign_53 : decode cX6_assign 53 = .ok (.iload_n 1, 1) := by decide +kernel
theorem dX6_assign_54 : decode cX6_assign 54 = .ok (.iload_n 2, 1) := by decide +kernel
theorem dX6_assign_55 : decode cX6_assign 55 = .ok (.invokevirtual 98, 3) := by decide +kernel
theorem dX6_assign_58 : decode cX6_assign 58 = .ok (.ireturn, 1) := by decide +kernel
theorem dX6_plan_0 : decode cX6_plan 0 = .ok (.aload_n 0, 1) := by decide +kernel
theorem dX6_plan_1 : decode cX6_plan 1 = .ok (.getfield 12, 3) := by decide +kernel
theorem dX6_plan_4 : decode cX6_plan 4 = .ok (.iload_n 1, 1) := by decide +kernel
theorem dX6_plan_5 : decode cX6_plan 5 = .ok (.invokevirtual 63, 3) := by decide +kernel
theorem dX6_plan_8 : decode cX6_plan 8 = .ok (.ifCond .eq 14, 3) := by decide +kernel
theorem dX6_plan_11 : decode cX6_plan 11 = .ok (.iload_n 2, 1) := by decide +kernel
theorem dX6_plan_12 : decode cX6_plan 12 = .ok (.invokestatic 118, 3) := by decide +kernel
theorem dX6_plan_15 : decode cX6_plan 15 = .ok (.ifCond .eq 7, 3) := by decide +kernel
theorem dX6_plan_18 : decode cX6_plan 18 = .ok (.iconst 1, 1) := by decide +kernel
theorem dX6_plan_19 : decode cX6_plan 19 = .ok (.goto 4, 3) := by decide +kernel
theorem dX6_plan_22 : decode cX6_plan 22 = .ok (.iconst 0, 1) := by decide +kernel
theorem dX6_plan_23 : decode cX6_plan 23 = .ok (.invokestatic 67, 3) := by decide +kernel
theorem dX6_plan_26 : decode cX6_plan 26 = .ok (.aload_n 0, 1) := by decide +kernel
theorem dX6_plan_27 : decode cX6_plan 27 = .ok (.getfield 12, 3) := by decide +kernel
theorem dX6_plan_30 : decode cX6_plan 30 = .ok (.iload_n 1, 1) := by decide +kernel
theorem dX6_plan_31 : decode cX6_plan 31 = .ok (.invokevirtual 121, 3) := by decide +kernel
theorem dX6_plan_34 : decode cX6_plan 34 = .ok (.ifCond .eq 20, 3) := by decide +kernel
theorem dX6_plan_37 : decode cX6_plan 37 = .ok (.aload_n 0, 1) := by decide +kernel
theorem dX6_plan_38 : decode cX6_plan 38 = .ok (.getfield 12, 3) := by decide +kernel
theorem dX6_plan_41 : decode cX6_plan 41 = .ok (.getfield 124, 3) := by decide +kernel
theorem dX6_plan_44 : decode cX6_plan 44 = .ok (.iload_n 1, 1) := by decide +kernel
theorem dX6_plan_45 : decode cX6_plan 45 = .ok (.iaload, 1) := by decide +kernel
theorem dX6_plan_46 : decode cX6_plan 46 = .ok (.iload_n 2, 1) := by decide +kernel
theorem dX6_plan_47 : decode cX6_plan 47 = .ok (.if_icmp .eq 7, 3) := by decide +kernel
theorem dX6_plan_50 : decode cX6_plan 50 = .ok (.iconst 1, 1) := by decide +kernel
theorem dX6_plan_51 : decode cX6_plan 51 = .ok (.goto 4, 3) := by decide +kernel
theorem dX6_plan_54 : decode cX6_plan 54 = .ok (.iconst 0, 1) := by decide +kernel
theorem dX6_plan_55 : decode cX6_plan 55 = .ok (.invokestatic 52, 3) := by decide +kernel
theorem dX6_plan_58 : decode cX6_plan 58 = .ok (.aload_n 0, 1) := by decide +kernel
theorem dX6_plan_59 : decode cX6_plan 59 = .ok (.getfield 29, 3) := by decide +kernel
theorem dX6_plan_62 : decode cX6_plan 62 = .ok (.aload_n 0, 1) := by decide +kernel
theorem dX6_plan_63 : decode cX6_plan 63 = .ok (.getfield 12, 3) := by decide +kernel
theorem dX6_plan_66 : decode cX6_plan 66 = .ok (.invokevirtual 55, 3) := by decide +kernel
theorem dX6_plan_69 : decode cX6_plan 69 = .ok (.aload_n 0, 1) := by decide +kernel
theorem dX6_plan_70 : decode cX6_plan 70 = .ok (.getfield 12, 3) := by decide +kernel
theorem dX6_plan_73 : decode cX6_plan 73 = .ok (.getfield 124, 3) := by decide +kernel
theorem dX6_plan_76 : decode cX6_plan 76 = .ok (.iload_n 1, 1) := by decide +kernel
theorem dX6_plan_77 : decode cX6_plan 77 = .ok (.iload_n 2, 1) := by decide +kernel
theorem dX6_plan_78 : decode cX6_plan 78 = .ok (.iastore, 1) := by decide +kernel
theorem dX6_plan_79 : decode cX6_plan 79 = .ok (.aload_n 0, 1) := by decide +kernel
theorem dX6_plan_80 : decode cX6_plan 80 = .ok (.getfield 12, 3) := by decide +kernel
theorem dX6_plan_83 : decode cX6_plan 83 = .ok (.iload_n 2, 1) := by decide +kernel
theorem dX6_plan_84 : decode cX6_plan 84 = .ok (.invokestatic 127, 3) := by decide +kernel
theorem dX6_plan_87 : decode cX6_plan 87 = .ok (.ireturn, 1) := by decide +kernel
theorem dX6_changeDate_0 : decode cX6_changeDate 0 = .ok (.iload_n 1, 1) := by decide +kernel
theorem dX6_changeDate_1 : decode cX6_changeDate 1 = .ok (.invokestatic 118, 3) := by decide +kernel
theorem dX6_changeDate_4 : decode cX6_changeDate 4 = .ok (.invokestatic 67, 3) := by decide +kernel
theorem dX6_changeDate_7 : decode cX6_changeDate 7 = .ok (.iload_n 2, 1) := by decide +kernel
theorem dX6_changeDate_8 : decode cX6_changeDate 8 = .ok (.iconst 0, 1) := by decide +kernel
theorem dX6_changeDate_9 : decode cX6_changeDate 9 = .ok (.sipush 999, 3) := by decide +kernel
theorem dX6_changeDate_12 : decode cX6_changeDate 12 = .ok (.invokestatic 40, 3) := by decide +kernel
theorem dX6_changeDate_15 : decode cX6_changeDate 15 = .ok (.invokestatic 44, 3) := by decide +kernel
theorem dX6_changeDate_18 : decode cX6_changeDate 18 = .ok (.aload_n 0, 1) := by decide +kernel
theorem dX6_changeDate_19 : decode cX6_changeDate 19 = .ok (.getfield 29, 3) := by decide +kernel
theorem dX6_changeDate_22 : decode cX6_changeDate 22 = .ok (.aload_n 0, 1) := by decide +kernel
theorem dX6_changeDate_23 : decode cX6_changeDate 23 = .ok (.getfield 12, 3) := by decide +kernel
theorem dX6_changeDate_26 : decode cX6_changeDate 26 = .ok (.invokevirtual 55, 3) := by decide +kernel
theorem dX6_changeDate_29 : decode cX6_changeDate 29 = .ok (.aload_n 0, 1) := by decide +kernel
theorem dX6_changeDate_30 : decode cX6_changeDate 30 = .ok (.getfield 12, 3) := by decide +kernel
theorem dX6_changeDate_33 : decode cX6_changeDate 33 = .ok (.iload_n 1, 1) := by decide +kernel
theorem dX6_changeDate_34 : decode cX6_changeDate 34 = .ok (.iload_n 2, 1) := by decide +kernel
theorem dX6_changeDate_35 : decode cX6_changeDate 35 = .ok (.invokevirtual 136, 3) := by decide +kernel
theorem dX6_changeDate_38 : decode cX6_changeDate 38 = .ok (.ireturn, 1) := by decide +kernel
theorem dX6_endDays_0 : decode cX6_endDays 0 = .ok (.iload_n 1, 1) := by decide +kernel
theorem dX6_endDays_1 : decode cX6_endDays 1 = .ok (.iconst 1, 1) := by decide +kernel
theorem dX6_endDays_2 : decode cX6_endDays 2 = .ok (.bipush 30, 2) := by decide +kernel
theorem dX6_endDays_4 : decode cX6_endDays 4 = .ok (.invokestatic 40, 3) := by decide +kernel
theorem dX6_endDays_7 : decode cX6_endDays 7 = .ok (.invokestatic 44, 3) := by decide +kernel
theorem dX6_endDays_10 : decode cX6_endDays 10 = .ok (.aload_n 0, 1) := by decide +kernel
theorem dX6_endDays_11 : decode cX6_endDays 11 = .ok (.getfield 12, 3) := by decide +kernel
theorem dX6_endDays_14 : decode cX6_endDays 14 = .ok (.iload_n 1, 1) := by decide +kernel
theorem dX6_endDays_15 : decode cX6_endDays 15 = .ok (.invokevirtual 139, 3) := by decide +kernel
theorem dX6_endDays_18 : decode cX6_endDays 18 = .ok (.invokestatic 52, 3) := by decide +kernel
theorem dX6_endDays_21 : decode cX6_endDays 21 = .ok (.aload_n 0, 1) := by decide +kernel
theorem dX6_endDays_22 : decode cX6_endDays 22 = .ok (.getfield 29, 3) := by decide +kernel
theorem dX6_endDays_25 : decode cX6_endDays 25 = .ok (.aload_n 0, 1) := by decide +kernel
theorem dX6_endDays_26 : decode cX6_endDays 26 = .ok (.getfield 12, 3) := by decide +kernel
theorem dX6_endDays_29 : decode cX6_endDays 29 = .ok (.invokevirtual 55, 3) := by decide +kernel
theorem dX6_endDays_32 : decode cX6_endDays 32 = .ok (.aload_n 0, 1) := by decide +kernel
theorem dX6_endDays_33 : decode cX6_endDays 33 = .ok (.getfield 12, 3) := by decide +kernel
theorem dX6_endDays_36 : decode cX6_endDays 36 = .ok (.iload_n 1, 1) := by decide +kernel
theorem dX6_endDays_37 : decode cX6_endDays 37 = .ok (.invokevirtual 142, 3) := by decide +kernel
theorem dX6_endDays_40 : decode cX6_endDays 40 = .ok (.ireturn, 1) := by decide +kernel
theorem dX6_start_0 : decode cX6_start 0 = .ok (.aload_n 0, 1) := by decide +kernel
theorem dX6_start_1 : decode cX6_start 1 = .ok (.getfield 12, 3) := by decide +kernel
theorem dX6_start_4 : decode cX6_start 4 = .ok (.iload_n 1, 1) := by decide +kernel
theorem dX6_start_5 : decode cX6_start 5 = .ok (.invokevirtual 63, 3) := by decide +kernel
theorem dX6_start_8 : decode cX6_start 8 = .ok (.invokestatic 67, 3) := by decide +kernel
theorem dX6_start_11 : decode cX6_start 11 = .ok (.aload_n 0, 1) := by decide +kernel
theorem dX6_start_12 : decode cX6_start 12 = .ok (.getfield 12, 3) := by decide +kernel
theorem dX6_start_15 : decode cX6_start 15 = .ok (.iload_n 1, 1) := by decide +kernel
theorem dX6_start_16 : decode cX6_start 16 = .ok (.invokevirtual 145, 3) := by decide +kernel
theorem dX6_start_19 : decode cX6_start 19 = .ok (.invokestatic 52, 3) := by decide +kernel
theorem dX6_start_22 : decode cX6_start 22 = .ok (.aload_n 0, 1) := by decide +kernel
theorem dX6_start_23 : decode cX6_start 23 = .ok (.getfield 29, 3) := by decide +kernel
theorem dX6_start_26 : decode cX6_start 26 = .ok (.aload_n 0, 1) := by decide +kernel
theorem dX6_start_27 : decode cX6_start 27 = .ok (.getfield 12, 3) := by decide +kernel
theorem dX6_start_30 : decode cX6_start 30 = .ok (.invokevirtual 55, 3) := by decide +kernel
theorem dX6_start_33 : decode cX6_start 33 = .ok (.aload_n 0, 1) := by decide +kernel
theorem dX6_start_34 : decode cX6_start 34 = .ok (.getfield 12, 3) := by decide +kernel
theorem dX6_start_37 : decode cX6_start 37 = .ok (.getfield 105, 3) := by decide +kernel
theorem dX6_start_40 : decode cX6_start 40 = .ok (.iload_n 1, 1) := by decide +kernel
theorem dX6_start_41 : decode cX6_start 41 = .ok (.iconst 1, 1) := by decide +kernel
theorem dX6_start_42 : decode cX6_start 42 = .ok (.iastore, 1) := by decide +kernel
theorem dX6_start_43 : decode cX6_start 43 = .ok (.return_, 1) := by decide +kernel
theorem dX6_submit_0 : decode cX6_submit 0 = .ok (.aload_n 0, 1) := by decide +kernel
theorem dX6_submit_1 : decode cX6_submit 1 = .ok (.getfield 12, 3) := by decide +kernel
theorem dX6_submit_4 : decode cX6_submit 4 = .ok (.iload_n 1, 1) := by decide +kernel
theorem dX6_submit_5 : decode cX6_submit 5 = .ok (.invokevirtual 63, 3) := by decide +kernel
theorem dX6_submit_8 : decode cX6_submit 8 = .ok (.invokestatic 67, 3) := by decide +kernel
theorem dX6_submit_11 : decode cX6_submit 11 = .ok (.aload_n 0, 1) := by decide +kernel
theorem dX6_submit_12 : decode cX6_submit 12 = .ok (.getfield 12, 3) := by decide +kernel
theorem dX6_submit_15 : decode cX6_submit 15 = .ok (.getfield 105, 3) := by decide +kernel
theorem dX6_submit_18 : decode cX6_submit 18 = .ok (.iload_n 1, 1) := by decide +kernel
theorem dX6_submit_19 : decode cX6_submit 19 = .ok (.iaload, 1) := by decide +kernel
theorem dX6_submit_20 : decode cX6_submit 20 = .ok (.iconst 1, 1) := by decide +kernel
theorem dX6_submit_21 : decode cX6_submit 21 = .ok (.if_icmp .ne 7, 3) := by decide +kernel
theorem dX6_submit_24 : decode cX6_submit 24 = .ok (.iconst 1, 1) := by decide +kernel
theorem dX6_submit_25 : decode cX6_submit 25 = .ok (.goto 4, 3) := by decide +kernel
theorem dX6_submit_28 : decode cX6_submit 28 = .ok (.iconst 0, 1) := by decide +kernel
theorem dX6_submit_29 : decode cX6_submit 29 = .ok (.invokestatic 52, 3) := by decide +kernel
theorem dX6_submit_32 : decode cX6_submit 32 = .ok (.aload_n 0, 1) := by decide +kernel
theorem dX6_submit_33 : decode cX6_submit 33 = .ok (.getfield 29, 3) := by decide +kernel
theorem dX6_submit_36 : decode cX6_submit 36 = .ok (.aload_n 0, 1) := by decide +kernel
theorem dX6_submit_37 : decode cX6_submit 37 = .ok (.getfield 12, 3) := by decide +kernel
theorem dX6_submit_40 : decode cX6_submit 40 = .ok (.invokevirtual 55, 3) := by decide +kernel
theorem dX6_submit_43 : decode cX6_submit 43 = .ok (.aload_n 0, 1) := by decide +kernel
theorem dX6_submit_44 : decode cX6_submit 44 = .ok (.getfield 12, 3) := by decide +kernel
theorem dX6_submit_47 : decode cX6_submit 47 = .ok (.getfield 105, 3) := by decide +kernel
theorem dX6_submit_50 : decode cX6_submit 50 = .ok (.iload_n 1, 1) := by decide +kernel
theorem dX6_submit_51 : decode cX6_submit 51 = .ok (.iconst 2, 1) := by decide +kernel
theorem dX6_submit_52 : decode cX6_submit 52 = .ok (.iastore, 1) := by decide +kernel
theorem dX6_submit_53 : decode cX6_submit 53 = .ok (.return_, 1) := by decide +kernel
theorem dX6_close_0 : decode cX6_close 0 = .ok (.aload_n 0, 1) := by decide +kernel
theorem dX6_close_1 : decode cX6_close 1 = .ok (.getfield 12, 3) := by decide +kernel
theorem dX6_close_4 : decode cX6_close 4 = .ok (.iload_n 1, 1) := by decide +kernel
theorem dX6_close_5 : decode cX6_close 5 = .ok (.invokevirtual 63, 3) := by decide +kernel
theorem dX6_close_8 : decode cX6_close 8 = .ok (.invokestatic 67, 3) := by decide +kernel
theorem dX6_close_11 : decode cX6_close 11 = .ok (.aload_n 0, 1) := by decide +kernel
theorem dX6_close_12 : decode cX6_close 12 = .ok (.getfield 12, 3) := by decide +kernel
theorem dX6_close_15 : decode cX6_close 15 = .ok (.iload_n 1, 1) := by decide +kernel
theorem dX6_close_16 : decode cX6_close 16 = .ok (.invokevirtual 151, 3) := by decide +kernel
theorem dX6_close_19 : decode cX6_close 19 = .ok (.invokestatic 52, 3) := by decide +kernel
theorem dX6_close_22 : decode cX6_close 22 = .ok (.aload_n 0, 1) := by decide +kernel
theorem dX6_close_23 : decode cX6_close 23 = .ok (.getfield 29, 3) := by decide +kernel
theorem dX6_close_26 : decode cX6_close 26 = .ok (.aload_n 0, 1) := by decide +kernel
theorem dX6_close_27 : decode cX6_close 27 = .ok (.getfield 12, 3) := by decide +kernel
theorem dX6_close_30 : decode cX6_close 30 = .ok (.invokevirtual 55, 3) := by decide +kernel
theorem dX6_close_33 : decode cX6_close 33 = .ok (.aload_n 0, 1) := by decide +kernel
theorem dX6_close_34 : decode cX6_close 34 = .ok (.getfield 12, 3) := by decide +kernel
theorem dX6_close_37 : decode cX6_close 37 = .ok (.invokevirtual 154, 3) := by decide +kernel
theorem dX6_close_40 : decode cX6_close 40 = .ok (.istore_n 2, 1) := by decide +kernel
theorem dX6_close_41 : decode cX6_close 41 = .ok (.aload_n 0, 1) := by decide +kernel
theorem dX6_close_42 : decode cX6_close 42 = .ok (.getfield 12, 3) := by decide +kernel
theorem dX6_close_45 : decode cX6_close 45 = .ok (.iload_n 1, 1) := by decide +kernel
theorem dX6_close_46 : decode cX6_close 46 = .ok (.invokevirtual 158, 3) := by decide +kernel
theorem dX6_close_49 : decode cX6_close 49 = .ok (.iload_n 2, 1) := by decide +kernel
theorem dX6_close_50 : decode cX6_close 50 = .ok (.aload_n 0, 1) := by decide +kernel
theorem dX6_close_51 : decode cX6_close 51 = .ok (.getfield 12, 3) := by decide +kernel
theorem dX6_close_54 : decode cX6_close 54 = .ok (.invokevirtual 154, 3) := by decide +kernel
theorem dX6_close_57 : decode cX6_close 57 = .ok (.iconst (-1), 1) := by decide +kernel
theorem dX6_close_58 : decode cX6_close 58 = .ok (.ixor, 1) := by decide +kernel
theorem dX6_close_59 : decode cX6_close 59 = .ok (.iand, 1) := by decide +kernel
theorem dX6_close_60 : decode cX6_close 60 = .ok (.invokestatic 162, 3) := by decide +kernel
theorem dX6_close_63 : decode cX6_close 63 = .ok (.ireturn, 1) := by decide +kernel
theorem dX6_drop_0 : decode cX6_drop 0 = .ok (.aload_n 0, 1) := by decide +kernel
theorem dX6_drop_1 : decode cX6_drop 1 = .ok (.getfield 12, 3) := by decide +kernel
theorem dX6_drop_4 : decode cX6_drop 4 = .ok (.iload_n 1, 1) := by decide +kernel
theorem dX6_drop_5 : decode cX6_drop 5 = .ok (.invokevirtual 63, 3) := by decide +kernel
theorem dX6_drop_8 : decode cX6_drop 8 = .ok (.invokestatic 67, 3) := by decide +kernel
theorem dX6_drop_11 : decode cX6_drop 11 = .ok (.aload_n 0, 1) := by decide +kernel
theorem dX6_drop_12 : decode cX6_drop 12 = .ok (.getfield 12, 3) := by decide +kernel
theorem dX6_drop_15 : decode cX6_drop 15 = .ok (.iload_n 1, 1) := by decide +kernel
theorem dX6_drop_16 : decode cX6_drop 16 = .ok (.invokevirtual 121, 3) := by decide +kernel
theorem dX6_drop_19 : decode cX6_drop 19 = .ok (.invokestatic 52, 3) := by decide +kernel
theorem dX6_drop_22 : decode cX6_drop 22 = .ok (.aload_n 0, 1) := by decide +kernel
theorem dX6_drop_23 : decode cX6_drop 23 = .ok (.getfield 29, 3) := by decide +kernel
theorem dX6_drop_26 : decode cX6_drop 26 = .ok (.aload_n 0, 1) := by decide +kernel
theorem dX6_drop_27 : decode cX6_drop 27 = .ok (.getfield 12, 3) := by decide +kernel
theorem dX6_drop_30 : decode cX6_drop 30 = .ok (.invokevirtual 55, 3) := by decide +kernel
theorem dX6_drop_33 : decode cX6_drop 33 = .ok (.aload_n 0, 1) := by decide +kernel
theorem dX6_drop_34 : decode cX6_drop 34 = .ok (.getfield 12, 3) := by decide +kernel
theorem dX6_drop_37 : decode cX6_drop 37 = .ok (.invokevirtual 154, 3) := by decide +kernel
theorem dX6_drop_40 : decode cX6_drop 40 = .ok (.istore_n 2, 1) := by decide +kernel
theorem dX6_drop_41 : decode cX6_drop 41 = .ok (.aload_n 0, 1) := by decide +kernel
theorem dX6_drop_42 : decode cX6_drop 42 = .ok (.getfield 12, 3) := by decide +kernel
theorem dX6_drop_45 : decode cX6_drop 45 = .ok (.iload_n 1, 1) := by decide +kernel
theorem dX6_drop_46 : decode cX6_drop 46 = .ok (.iconst 4, 1) := by decide +kernel
theorem dX6_drop_47 : decode cX6_drop 47 = .ok (.invokevirtual 173, 3) := by decide +kernel
theorem dX6_drop_50 : decode cX6_drop 50 = .ok (.iload_n 2, 1) := by decide +kernel
theorem dX6_drop_51 : decode cX6_drop 51 = .ok (.aload_n 0, 1) := by decide +kernel
theorem dX6_drop_52 : decode cX6_drop 52 = .ok (.getfield 12, 3) := by decide +kernel
theorem dX6_drop_55 : decode cX6_drop 55 = .ok (.invokevirtual 154, 3) := by decide +kernel
theorem dX6_drop_58 : decode cX6_drop 58 = .ok (.iconst (-1), 1) := by decide +kernel
theorem dX6_drop_59 : decode cX6_drop 59 = .ok (.ixor, 1) := by decide +kernel
theorem dX6_drop_60 : decode cX6_drop 60 = .ok (.iand, 1) := by decide +kernel
theorem dX6_drop_61 : decode cX6_drop 61 = .ok (.invokestatic 162, 3) := by decide +kernel
theorem dX6_drop_64 : decode cX6_drop 64 = .ok (.ireturn, 1) := by decide +kernel
theorem dX6_undo_0 : decode cX6_undo 0 = .ok (.aload_n 0, 1) := by decide +kernel
theorem dX6_undo_1 : decode cX6_undo 1 = .ok (.getfield 29, 3) := by decide +kernel
theorem dX6_undo_4 : decode cX6_undo 4 = .ok (.invokevirtual 215, 3) := by decide +kernel
theorem dX6_undo_7 : decode cX6_undo 7 = .ok (.ifCond .le 7, 3) := by decide +kernel
theorem dX6_undo_10 : decode cX6_undo 10 = .ok (.iconst 1, 1) := by decide +kernel
theorem dX6_undo_11 : decode cX6_undo 11 = .ok (.goto 4, 3) := by decide +kernel
theorem dX6_undo_14 : decode cX6_undo 14 = .ok (.iconst 0, 1) := by decide +kernel
theorem dX6_undo_15 : decode cX6_undo 15 = .ok (.invokestatic 52, 3) := by decide +kernel
theorem dX6_undo_18 : decode cX6_undo 18 = .ok (.aload_n 0, 1) := by decide +kernel
theorem dX6_undo_19 : decode cX6_undo 19 = .ok (.getfield 29, 3) := by decide +kernel
theorem dX6_undo_22 : decode cX6_undo 22 = .ok (.aload_n 0, 1) := by decide +kernel
theorem dX6_undo_23 : decode cX6_undo 23 = .ok (.getfield 12, 3) := by decide +kernel
theorem dX6_undo_26 : decode cX6_undo 26 = .ok (.invokevirtual 218, 3) := by decide +kernel
theorem dX6_undo_29 : decode cX6_undo 29 = .ok (.return_, 1) := by decide +kernel
theorem dX6_savedStates_0 : decode cX6_savedStates 0 = .ok (.aload_n 0, 1) := by decide +kernel
theorem dX6_savedStates_1 : decode cX6_savedStates 1 = .ok (.getfield 29, 3) := by decide +kernel
theorem dX6_savedStates_4 : decode cX6_savedStates 4 = .ok (.invokevirtual 215, 3) := by decide +kernel
theorem dX6_savedStates_7 : decode cX6_savedStates 7 = .ok (.ireturn, 1) := by decide +kernel
theorem dX6_tickets_0 : decode cX6_tickets 0 = .ok (.aload_n 0, 1) := by decide +kernel
theorem dX6_tickets_1 : decode cX6_tickets 1 = .ok (.getfield 12, 3) := by decide +kernel
theorem dX6_tickets_4 : decode cX6_tickets 4 = .ok (.getfield 221, 3) := by decide +kernel
theorem dX6_tickets_7 : decode cX6_tickets 7 = .ok (.ireturn, 1) := by decide +kernel
theorem dX6_stateOf_0 : decode cX6_stateOf 0 = .ok (.aload_n 0, 1) := by decide +kernel
theorem dX6_stateOf_1 : decode cX6_stateOf 1 = .ok (.getfield 12, 3) := by decide +kernel
theorem dX6_stateOf_4 : decode cX6_stateOf 4 = .ok (.iload_n 1, 1) := by decide +kernel
theorem dX6_stateOf_5 : decode cX6_stateOf 5 = .ok (.invokevirtual 63, 3) := by decide +kernel
theorem dX6_stateOf_8 : decode cX6_stateOf 8 = .ok (.invokestatic 67, 3) := by decide +kernel
theorem dX6_stateOf_11 : decode cX6_stateOf 11 = .ok (.aload_n 0, 1) := by decide +kernel
theorem dX6_stateOf_12 : decode cX6_stateOf 12 = .ok (.getfield 12, 3) := by decide +kernel
theorem dX6_stateOf_15 : decode cX6_stateOf 15 = .ok (.getfield 105, 3) := by decide +kernel
theorem dX6_stateOf_18 : decode cX6_stateOf 18 = .ok (.iload_n 1, 1) := by decide +kernel
theorem dX6_stateOf_19 : decode cX6_stateOf 19 = .ok (.iaload, 1) := by decide +kernel
theorem dX6_stateOf_20 : decode cX6_stateOf 20 = .ok (.ireturn, 1) := by decide +kernel
theorem dX6_pointsOf_0 : decode cX6_pointsOf 0 = .ok (.aload_n 0, 1) := by decide +kernel
theorem dX6_pointsOf_1 : decode cX6_pointsOf 1 = .ok (.getfield 12, 3) := by decide +kernel
theorem dX6_pointsOf_4 : decode cX6_pointsOf 4 = .ok (.iload_n 1, 1) := by decide +kernel
theorem dX6_pointsOf_5 : decode cX6_pointsOf 5 = .ok (.invokevirtual 63, 3) := by decide +kernel
theorem dX6_pointsOf_8 : decode cX6_pointsOf 8 = .ok (.invokestatic 67, 3) := by decide +kernel
theorem dX6_pointsOf_11 : decode cX6_pointsOf 11 = .ok (.aload_n 0, 1) := by decide +kernel
theorem dX6_pointsOf_12 : decode cX6_pointsOf 12 = .ok (.getfield 12, 3) := by decide +kernel
theorem dX6_pointsOf_15 : decode cX6_pointsOf 15 = .ok (.getfield 224, 3) := by decide +kernel
theorem dX6_pointsOf_18 : decode cX6_pointsOf 18 = .ok (.iload_n 1, 1) := by decide +kernel
theorem dX6_pointsOf_19 : decode cX6_pointsOf 19 = .ok (.iaload, 1) := by decide +kernel
theorem dX6_pointsOf_20 : decode cX6_pointsOf 20 = .ok (.ireturn, 1) := by decide +kernel
theorem dX6_priorityOf_0 : decode cX6_priorityOf 0 = .ok (.aload_n 0, 1) := by decide +kernel
theorem dX6_priorityOf_1 : decode cX6_priorityOf 1 = .ok (.getfield 12, 3) := by decide +kernel
theorem dX6_priorityOf_4 : decode cX6_priorityOf 4 = .ok (.iload_n 1, 1) := by decide +kernel
theorem dX6_priorityOf_5 : decode cX6_priorityOf 5 = .ok (.invokevirtual 63, 3) := by decide +kernel
theorem dX6_priorityOf_8 : decode cX6_priorityOf 8 = .ok (.invokestatic 67, 3) := by decide +kernel
theorem dX6_priorityOf_11 : decode cX6_priorityOf 11 = .ok (.aload_n 0, 1) := by decide +kernel
theorem dX6_priorityOf_12 : decode cX6_priorityOf 12 = .ok (.getfield 12, 3) := by decide +kernel
theorem dX6_priorityOf_15 : decode cX6_priorityOf 15 = .ok (.getfield 227, 3) := by decide +kernel
theorem dX6_priorityOf_18 : decode cX6_priorityOf 18 = .ok (.iload_n 1, 1) := by decide +kernel
theorem dX6_priorityOf_19 : decode cX6_priorityOf 19 = .ok (.iaload, 1) := by decide +kernel
theorem dX6_priorityOf_20 : decode cX6_priorityOf 20 = .ok (.ireturn, 1) := by decide +kernel
theorem dX6_hasOwner_0 : decode cX6_hasOwner 0 = .ok (.aload_n 0, 1) := by decide +kernel
theorem dX6_hasOwner_1 : decode cX6_hasOwner 1 = .ok (.getfield 12, 3) := by decide +kernel
theorem dX6_hasOwner_4 : decode cX6_hasOwner 4 = .ok (.iload_n 1, 1) := by decide +kernel
theorem dX6_hasOwner_5 : decode cX6_hasOwner 5 = .ok (.invokevirtual 63, 3) := by decide +kernel
theorem dX6_hasOwner_8 : decode cX6_hasOwner 8 = .ok (.invokestatic 67, 3) := by decide +kernel
theorem dX6_hasOwner_11 : decode cX6_hasOwner 11 = .ok (.aload_n 0, 1) := by decide +kernel
theorem dX6_hasOwner_12 : decode cX6_hasOwner 12 = .ok (.getfield 12, 3) := by decide +kernel
theorem dX6_hasOwner_15 : decode cX6_hasOwner 15 = .ok (.getfield 101, 3) := by decide +kernel
theorem dX6_hasOwner_18 : decode cX6_hasOwner 18 = .ok (.iload_n 1, 1) := by decide +kernel
theorem dX6_hasOwner_19 : decode cX6_hasOwner 19 = .ok (.iaload, 1) := by decide +kernel
theorem dX6_hasOwner_20 : decode cX6_hasOwner 20 = .ok (.iconst (-1), 1) := by decide +kernel
theorem dX6_hasOwner_21 : decode cX6_hasOwner 21 = .ok (.if_icmp .eq 7, 3) := by decide +kernel
theorem dX6_hasOwner_24 : decode cX6_hasOwner 24 = .ok (.iconst 1, 1) := by decide +kernel
theorem dX6_hasOwner_25 : decode cX6_hasOwner 25 = .ok (.goto 4, 3) := by decide +kernel
theorem dX6_hasOwner_28 : decode cX6_hasOwner 28 = .ok (.iconst 0, 1) := by decide +kernel
theorem dX6_hasOwner_29 : decode cX6_hasOwner 29 = .ok (.ireturn, 1) := by decide +kernel
theorem dX6_ownerOf_0 : decode cX6_ownerOf 0 = .ok (.aload_n 0, 1) := by decide +kernel
theorem dX6_ownerOf_1 : decode cX6_ownerOf 1 = .ok (.getfield 12, 3) := by decide +kernel
theorem dX6_ownerOf_4 : decode cX6_ownerOf 4 = .ok (.iload_n 1, 1) := by decide +kernel
theorem dX6_ownerOf_5 : decode cX6_ownerOf 5 = .ok (.invokevirtual 63, 3) := by decide +kernel
theorem dX6_ownerOf_8 : decode cX6_ownerOf 8 = .ok (.invokestatic 67, 3) := by decide +kernel
theorem dX6_ownerOf_11 : decode cX6_ownerOf 11 = .ok (.aload_n 0, 1) := by decide +kernel
theorem dX6_ownerOf_12 : decode cX6_ownerOf 12 = .ok (.getfield 12, 3) := by decide +kernel
theorem dX6_ownerOf_15 : decode cX6_ownerOf 15 = .ok (.getfield 101, 3) := by decide +kernel
theorem dX6_ownerOf_18 : decode cX6_ownerOf 18 = .ok (.iload_n 1, 1) := by decide +kernel
theorem dX6_ownerOf_19 : decode cX6_ownerOf 19 = .ok (.iaload, 1) := by decide +kernel
theorem dX6_ownerOf_20 : decode cX6_ownerOf 20 = .ok (.iconst (-1), 1) := by decide +kernel
theorem dX6_ownerOf_21 : decode cX6_ownerOf 21 = .ok (.if_icmp .eq 7, 3) := by decide +kernel
theorem dX6_ownerOf_24 : decode cX6_ownerOf 24 = .ok (.iconst 1, 1) := by decide +kernel
theorem dX6_ownerOf_25 : decode cX6_ownerOf 25 = .ok (.goto 4, 3) := by decide +kernel
theorem dX6_ownerOf_28 : decode cX6_ownerOf 28 = .ok (.iconst 0, 1) := by decide +kernel
theorem dX6_ownerOf_29 : decode cX6_ownerOf 29 = .ok (.invokestatic 52, 3) := by decide +kernel
theorem dX6_ownerOf_32 : decode cX6_ownerOf 32 = .ok (.aload_n 0, 1) := by decide +kernel
theorem dX6_ownerOf_33 : decode cX6_ownerOf 33 = .ok (.getfield 12, 3) := by decide +kernel
theorem dX6_ownerOf_36 : decode cX6_ownerOf 36 = .ok (.getfield 101, 3) := by decide +kernel
theorem dX6_ownerOf_39 : decode cX6_ownerOf 39 = .ok (.iload_n 1, 1) := by decide +kernel
theorem dX6_ownerOf_40 : decode cX6_ownerOf 40 = .ok (.iaload, 1) := by decide +kernel
theorem dX6_ownerOf_41 : decode cX6_ownerOf 41 = .ok (.ireturn, 1) := by decide +kernel
theorem dX6_isPlanned_0 : decode cX6_isPlanned 0 = .ok (.aload_n 0, 1) := by decide +kernel
theorem dX6_isPlanned_1 : decode cX6_isPlanned 1 = .ok (.getfield 12, 3) := by decide +kernel
theorem dX6_isPlanned_4 : decode cX6_isPlanned 4 = .ok (.iload_n 1, 1) := by decide +kernel
theorem dX6_isPlanned_5 : decode cX6_isPlanned 5 = .ok (.invokevirtual 63, 3) := by decide +kernel
theorem dX6_isPlanned_8 : decode cX6_isPlanned 8 = .ok (.invokestatic 67, 3) := by decide +kernel
theorem dX6_isPlanned_11 : decode cX6_isPlanned 11 = .ok (.aload_n 0, 1) := by decide +kernel
theorem dX6_isPlanned_12 : decode cX6_isPlanned 12 = .ok (.getfield 12, 3) := by decide +kernel
theorem dX6_isPlanned_15 : decode cX6_isPlanned 15 = .ok (.getfield 124, 3) := by decide +kernel
theorem dX6_isPlanned_18 : decode cX6_isPlanned 18 = .ok (.iload_n 1, 1) := by decide +kernel
theorem dX6_isPlanned_19 : decode cX6_isPlanned 19 = .ok (.iaload, 1) := by decide +kernel
theorem dX6_isPlanned_20 : decode cX6_isPlanned 20 = .ok (.iconst (-1), 1) := by decide +kernel
theorem dX6_isPlanned_21 : decode cX6_isPlanned 21 = .ok (.if_icmp .eq 7, 3) := by decide +kernel
theorem dX6_isPlanned_24 : decode cX6_isPlanned 24 = .ok (.iconst 1, 1) := by decide +kernel
theorem dX6_isPlanned_25 : decode cX6_isPlanned 25 = .ok (.goto 4, 3) := by decide +kernel
theorem dX6_isPlanned_28 : decode cX6_isPlanned 28 = .ok (.iconst 0, 1) := by decide +kernel
theorem dX6_isPlanned_29 : decode cX6_isPlanned 29 = .ok (.ireturn, 1) := by decide +kernel
theorem dX6_milestoneOf_0 : decode cX6_milestoneOf 0 = .ok (.aload_n 0, 1) := by decide +kernel
theorem dX6_milestoneOf_1 : decode cX6_milestoneOf 1 = .ok (.getfield 12, 3) := by decide +kernel
theorem dX6_milestoneOf_4 : decode cX6_milestoneOf 4 = .ok (.iload_n 1, 1) := by decide +kernel
theorem dX6_milestoneOf_5 : decode cX6_milestoneOf 5 = .ok (.invokevirtual 63, 3) := by decide +kernel
theorem dX6_milestoneOf_8 : decode cX6_milestoneOf 8 = .ok (.invokestatic 67, 3) := by decide +kernel
theorem dX6_milestoneOf_11 : decode cX6_milestoneOf 11 = .ok (.aload_n 0, 1) := by decide +kernel
theorem dX6_milestoneOf_12 : decode cX6_milestoneOf 12 = .ok (.getfield 12, 3) := by decide +kernel
theorem dX6_milestoneOf_15 : decode cX6_milestoneOf 15 = .ok (.getfield 124, 3) := by decide +kernel
theorem dX6_milestoneOf_18 : decode cX6_milestoneOf 18 = .ok (.iload_n 1, 1) := by decide +kernel
theorem dX6_milestoneOf_19 : decode cX6_milestoneOf 19 = .ok (.iaload, 1) := by decide +kernel
theorem dX6_milestoneOf_20 : decode cX6_milestoneOf 20 = .ok (.iconst (-1), 1) := by decide +kernel
theorem dX6_milestoneOf_21 : decode cX6_milestoneOf 21 = .ok (.if_icmp .eq 7, 3) := by decide +kernel
theorem dX6_milestoneOf_24 : decode cX6_milestoneOf 24 = .ok (.iconst 1, 1) := by decide +kernel
theorem dX6_milestoneOf_25 : decode cX6_milestoneOf 25 = .ok (.goto 4, 3) := by decide +kernel
theorem dX6_milestoneOf_28 : decode cX6_milestoneOf 28 = .ok (.iconst 0, 1) := by decide +kernel
theorem dX6_milestoneOf_29 : decode cX6_milestoneOf 29 = .ok (.invokestatic 52, 3) := by decide +kernel
theorem dX6_milestoneOf_32 : decode cX6_milestoneOf 32 = .ok (.aload_n 0, 1) := by decide +kernel
theorem dX6_milestoneOf_33 : decode cX6_milestoneOf 33 = .ok (.getfield 12, 3) := by decide +kernel
theorem dX6_milestoneOf_36 : decode cX6_milestoneOf 36 = .ok (.getfield 124, 3) := by decide +kernel
theorem dX6_milestoneOf_39 : decode cX6_milestoneOf 39 = .ok (.iload_n 1, 1) := by decide +kernel
theorem dX6_milestoneOf_40 : decode cX6_milestoneOf 40 = .ok (.iaload, 1) := by decide +kernel
theorem dX6_milestoneOf_41 : decode cX6_milestoneOf 41 = .ok (.ireturn, 1) := by decide +kernel
theorem dX6_daysInProgress_0 : decode cX6_daysInProgress 0 = .ok (.aload_n 0, 1) := by decide +kernel
theorem dX6_daysInProgress_1 : decode cX6_daysInProgress 1 = .ok (.getfield 12, 3) := by decide +kernel
theorem dX6_daysInProgress_4 : decode cX6_daysInProgress 4 = .ok (.iload_n 1, 1) := by decide +kernel
theorem dX6_daysInProgress_5 : decode cX6_daysInProgress 5 = .ok (.invokevirtual 63, 3) := by decide +kernel
theorem dX6_daysInProgress_8 : decode cX6_daysInProgress 8 = .ok (.invokestatic 67, 3) := by decide +kernel
theorem dX6_daysInProgress_11 : decode cX6_daysInProgress 11 = .ok (.aload_n 0, 1) := by decide +kernel
theorem dX6_daysInProgress_12 : decode cX6_daysInProgress 12 = .ok (.getfield 12, 3) := by decide +kernel
theorem dX6_daysInProgress_15 : decode cX6_daysInProgress 15 = .ok (.getfield 236, 3) := by decide +kernel
theorem dX6_daysInProgress_18 : decode cX6_daysInProgress 18 = .ok (.iload_n 1, 1) := by decide +kernel
theorem dX6_daysInProgress_19 : decode cX6_daysInProgress 19 = .ok (.iaload, 1) := by decide +kernel
theorem dX6_daysInProgress_20 : decode cX6_daysInProgress 20 = .ok (.ireturn, 1) := by decide +kernel
theorem dX6_timesSentBack_0 : decode cX6_timesSentBack 0 = .ok (.aload_n 0, 1) := by decide +kernel
theorem dX6_timesSentBack_1 : decode cX6_timesSentBack 1 = .ok (.getfield 12, 3) := by decide +kernel
theorem dX6_timesSentBack_4 : decode cX6_timesSentBack 4 = .ok (.iload_n 1, 1) := by decide +kernel
theorem dX6_timesSentBack_5 : decode cX6_timesSentBack 5 = .ok (.invokevirtual 63, 3) := by decide +kernel
theorem dX6_timesSentBack_8 : decode cX6_timesSentBack 8 = .ok (.invokestatic 67, 3) := by decide +kernel
theorem dX6_timesSentBack_11 : decode cX6_timesSentBack 11 = .ok (.aload_n 0, 1) := by decide +kernel
theorem dX6_timesSentBack_12 : decode cX6_timesSentBack 12 = .ok (.getfield 12, 3) := by decide +kernel
theorem dX6_timesSentBack_15 : decode cX6_timesSentBack 15 = .ok (.getfield 239, 3) := by decide +kernel
theorem dX6_timesSentBack_18 : decode cX6_timesSentBack 18 = .ok (.iload_n 1, 1) := by decide +kernel
theorem dX6_timesSentBack_19 : decode cX6_timesSentBack 19 = .ok (.iaload, 1) := by decide +kernel
theorem dX6_timesSentBack_20 : decode cX6_timesSentBack 20 = .ok (.ireturn, 1) := by decide +kernel
theorem dX6_needs_0 : decode cX6_needs 0 = .ok (.aload_n 0, 1) := by decide +kernel
theorem dX6_needs_1 : decode cX6_needs 1 = .ok (.getfield 12, 3) := by decide +kernel
theorem dX6_needs_4 : decode cX6_needs 4 = .ok (.iload_n 1, 1) := by decide +kernel
theorem dX6_needs_5 : decode cX6_needs 5 = .ok (.invokevirtual 63, 3) := by decide +kernel
theorem dX6_needs_8 : decode cX6_needs 8 = .ok (.ifCond .eq 18, 3) := by decide +kernel
theorem dX6_needs_11 : decode cX6_needs 11 = .ok (.aload_n 0, 1) := by decide +kernel
theorem dX6_needs_12 : decode cX6_needs 12 = .ok (.getfield 12, 3) := by decide +kernel
theorem dX6_needs_15 : decode cX6_needs 15 = .ok (.iload_n 2, 1) := by decide +kernel
theorem dX6_needs_16 : decode cX6_needs 16 = .ok (.invokevirtual 63, 3) := by decide +kernel
theorem dX6_needs_19 : decode cX6_needs 19 = .ok (.ifCond .eq 7, 3) := by decide +kernel
theorem dX6_needs_22 : decode cX6_needs 22 = .ok (.iconst 1, 1) := by decide +kernel
theorem dX6_needs_23 : decode cX6_needs 23 = .ok (.goto 4, 3) := by decide +kernel
theorem dX6_needs_26 : decode cX6_needs 26 = .ok (.iconst 0, 1) := by decide +kernel
theorem dX6_needs_27 : decode cX6_needs 27 = .ok (.invokestatic 67, 3) := by decide +kernel
theorem dX6_needs_30 : decode cX6_needs 30 = .ok (.aload_n 0, 1) := by decide +kernel
theorem dX6_needs_31 : decode cX6_needs 31 = .ok (.getfield 12, 3) := by decide +kernel
theorem dX6_needs_34 : decode cX6_needs 34 = .ok (.iload_n 1, 1) := by decide +kernel
theorem dX6_needs_35 : decode cX6_needs 35 = .ok (.iload_n 2, 1) := by decide +kernel
theorem dX6_needs_36 : decode cX6_needs 36 = .ok (.invokevirtual 86, 3) := by decide +kernel
theorem dX6_needs_39 : decode cX6_needs 39 = .ok (.ireturn, 1) := by decide +kernel
theorem dX6_needsOf_0 : decode cX6_needsOf 0 = .ok (.aload_n 0, 1) := by decide +kernel
theorem dX6_needsOf_1 : decode cX6_needsOf 1 = .ok (.getfield 12, 3) := by decide +kernel
theorem dX6_needsOf_4 : decode cX6_needsOf 4 = .ok (.iload_n 1, 1) := by decide +kernel
theorem dX6_needsOf_5 : decode cX6_needsOf 5 = .ok (.invokevirtual 63, 3) := by decide +kernel
theorem dX6_needsOf_8 : decode cX6_needsOf 8 = .ok (.invokestatic 67, 3) := by decide +kernel
theorem dX6_needsOf_11 : decode cX6_needsOf 11 = .ok (.aload_n 0, 1) := by decide +kernel
theorem dX6_needsOf_12 : decode cX6_needsOf 12 = .ok (.getfield 12, 3) := by decide +kernel
theorem dX6_needsOf_15 : decode cX6_needsOf 15 = .ok (.getfield 242, 3) := by decide +kernel
theorem dX6_needsOf_18 : decode cX6_needsOf 18 = .ok (.iload_n 1, 1) := by decide +kernel
theorem dX6_needsOf_19 : decode cX6_needsOf 19 = .ok (.iaload, 1) := by decide +kernel
theorem dX6_needsOf_20 : decode cX6_needsOf 20 = .ok (.invokestatic 162, 3) := by decide +kernel
theorem dX6_needsOf_23 : decode cX6_needsOf 23 = .ok (.ireturn, 1) := by decide +kernel
theorem dX6_isBlocked_0 : decode cX6_isBlocked 0 = .ok (.aload_n 0, 1) := by decide +kernel
theorem dX6_isBlocked_1 : decode cX6_isBlocked 1 = .ok (.getfield 12, 3) := by decide +kernel
theorem dX6_isBlocked_4 : decode cX6_isBlocked 4 = .ok (.iload_n 1, 1) := by decide +kernel
theorem dX6_isBlocked_5 : decode cX6_isBlocked 5 = .ok (.invokevirtual 63, 3) := by decide +kernel
theorem dX6_isBlocked_8 : decode cX6_isBlocked 8 = .ok (.invokestatic 67, 3) := by decide +kernel
theorem dX6_isBlocked_11 : decode cX6_isBlocked 11 = .ok (.aload_n 0, 1) := by decide +kernel
theorem dX6_isBlocked_12 : decode cX6_isBlocked 12 = .ok (.getfield 12, 3) := by decide +kernel
theorem dX6_isBlocked_15 : decode cX6_isBlocked 15 = .ok (.iload_n 1, 1) := by decide +kernel
theorem dX6_isBlocked_16 : decode cX6_isBlocked 16 = .ok (.invokevirtual 248, 3) := by decide +kernel
theorem dX6_isBlocked_19 : decode cX6_isBlocked 19 = .ok (.ifCond .eq 7, 3) := by decide +kernel
theorem dX6_isBlocked_22 : decode cX6_isBlocked 22 = .ok (.iconst 1, 1) := by decide +kernel
theorem dX6_isBlocked_23 : decode cX6_isBlocked 23 = .ok (.goto 4, 3) := by decide +kernel
theorem dX6_isBlocked_26 : decode cX6_isBlocked 26 = .ok (.iconst 0, 1) := by decide +kernel
theorem dX6_isBlocked_27 : decode cX6_isBlocked 27 = .ok (.ireturn, 1) := by decide +kernel
theorem dX6_blockersOf_0 : decode cX6_blockersOf 0 = .ok (.aload_n 0, 1) := by decide +kernel
theorem dX6_blockersOf_1 : decode cX6_blockersOf 1 = .ok (.getfield 12, 3) := by decide +kernel
theorem dX6_blockersOf_4 : decode cX6_blockersOf 4 = .ok (.iload_n 1, 1) := by decide +kernel
theorem dX6_blockersOf_5 : decode cX6_blockersOf 5 = .ok (.invokevirtual 63, 3) := by decide +kernel
theorem dX6_blockersOf_8 : decode cX6_blockersOf 8 = .ok (.invokestatic 67, 3) := by decide +kernel
theorem dX6_blockersOf_11 : decode cX6_blockersOf 11 = .ok (.aload_n 0, 1) := by decide +kernel
theorem dX6_blockersOf_12 : decode cX6_blockersOf 12 = .ok (.getfield 12, 3) := by decide +kernel
theorem dX6_blockersOf_15 : decode cX6_blockersOf 15 = .ok (.iload_n 1, 1) := by decide +kernel
theorem dX6_blockersOf_16 : decode cX6_blockersOf 16 = .ok (.invokevirtual 248, 3) := by decide +kernel
theorem dX6_blockersOf_19 : decode cX6_blockersOf 19 = .ok (.invokestatic 162, 3) := by decide +kernel
theorem dX6_blockersOf_22 : decode cX6_blockersOf 22 = .ok (.ireturn, 1) := by decide +kernel
theorem dX6_allNeedsByGoing_0 : decode cX6_allNeedsByGoing 0 = .ok (.aload_n 0, 1) := by decide +kernel
theorem dX6_allNeedsByGoing_1 : decode cX6_allNeedsByGoing 1 = .ok (.getfield 12, 3) := by decide +kernel
theorem dX6_allNeedsByGoing_4 : decode cX6_allNeedsByGoing 4 = .ok (.iload_n 1, 1) := by decide +kernel
theorem dX6_allNeedsByGoing_5 : decode cX6_allNeedsByGoing 5 = .ok (.invokevirtual 63, 3) := by decide +kernel
theorem dX6_allNeedsByGoing_8 : decode cX6_allNeedsByGoing 8 = .ok (.invokestatic 67, 3) := by decide +kernel
theorem dX6_allNeedsByGoing_11 : decode cX6_allNeedsByGoing 11 = .ok (.aload_n 0, 1) := by decide +kernel
theorem dX6_allNeedsByGoing_12 : decode cX6_allNeedsByGoing 12 = .ok (.getfield 12, 3) := by decide +kernel
theorem dX6_allNeedsByGoing_15 : decode cX6_allNeedsByGoing 15 = .ok (.iload_n 1, 1) := by decide +kernel
theorem dX6_allNeedsByGoing_16 : decode cX6_allNeedsByGoing 16 = .ok (.invokevirtual 251, 3) := by decide +kernel
theorem dX6_allNeedsByGoing_19 : decode cX6_allNeedsByGoing 19 = .ok (.invokestatic 162, 3) := by decide +kernel
theorem dX6_allNeedsByGoing_22 : decode cX6_allNeedsByGoing 22 = .ok (.ireturn, 1) := by decide +kernel
theorem dX6_allNeedsByTable_0 : decode cX6_allNeedsByTable 0 = .ok (.aload_n 0, 1) := by decide +kernel
theorem dX6_allNeedsByTable_1 : decode cX6_allNeedsByTable 1 = .ok (.getfield 12, 3) := by decide +kernel
theorem dX6_allNeedsByTable_4 : decode cX6_allNeedsByTable 4 = .ok (.iload_n 1, 1) := by decide +kernel
theorem dX6_allNeedsByTable_5 : decode cX6_allNeedsByTable 5 = .ok (.invokevirtual 63, 3) := by decide +kernel
theorem dX6_allNeedsByTable_8 : decode cX6_allNeedsByTable 8 = .ok (.invokestatic 67, 3) := by decide +kernel
theorem dX6_allNeedsByTable_11 : decode cX6_allNeedsByTable 11 = .ok (.aload_n 0, 1) := by decide +kernel
theorem dX6_allNeedsByTable_12 : decode cX6_allNeedsByTable 12 = .ok (.getfield 22, 3) := by decide +kernel
theorem dX6_allNeedsByTable_15 : decode cX6_allNeedsByTable 15 = .ok (.aload_n 0, 1) := by decide +kernel
theorem dX6_allNeedsByTable_16 : decode cX6_allNeedsByTable 16 = .ok (.getfield 12, 3) := by decide +kernel
theorem dX6_allNeedsByTable_19 : decode cX6_allNeedsByTable 19 = .ok (.iload_n 1, 1) := by decide +kernel
theorem dX6_allNeedsByTable_20 : decode cX6_allNeedsByTable 20 = .ok (.invokevirtual 254, 3) := by decide +kernel
theorem dX6_allNeedsByTable_23 : decode cX6_allNeedsByTable 23 = .ok (.ireturn, 1) := by decide +kernel
theorem dX6_chainOf_0 : decode cX6_chainOf 0 = .ok (.aload_n 0, 1) := by decide +kernel
theorem dX6_chainOf_1 : decode cX6_chainOf 1 = .ok (.getfield 12, 3) := by decide +kernel
theorem dX6_chainOf_4 : decode cX6_chainOf 4 = .ok (.iload_n 1, 1) := by decide +kernel
theorem dX6_chainOf_5 : decode cX6_chainOf 5 = .ok (.invokevirtual 63, 3) := by decide +kernel
theorem dX6_chainOf_8 : decode cX6_chainOf 8 = .ok (.invokestatic 67, 3) := by decide +kernel
theorem dX6_chainOf_11 : decode cX6_chainOf 11 = .ok (.aload_n 0, 1) := by decide +kernel
theorem dX6_chainOf_12 : decode cX6_chainOf 12 = .ok (.getfield 12, 3) := by decide +kernel
theorem dX6_chainOf_15 : decode cX6_chainOf 15 = .ok (.iload_n 1, 1) := by decide +kernel
theorem dX6_chainOf_16 : decode cX6_chainOf 16 = .ok (.invokestatic 257, 3) := by decide +kernel
theorem dX6_chainOf_19 : decode cX6_chainOf 19 = .ok (.ireturn, 1) := by decide +kernel
theorem dX6_criticalByTrying_0 : decode cX6_criticalByTrying 0 = .ok (.aload_n 0, 1) := by decide +kernel
theorem dX6_criticalByTrying_1 : decode cX6_criticalByTrying 1 = .ok (.getfield 22, 3) := by decide +kernel
theorem dX6_criticalByTrying_4 : decode cX6_criticalByTrying 4 = .ok (.aload_n 0, 1) := by decide +kernel
theorem dX6_criticalByTrying_5 : decode cX6_criticalByTrying 5 = .ok (.getfield 12, 3) := by decide +kernel
theorem dX6_criticalByTrying_8 : decode cX6_criticalByTrying 8 = .ok (.invokevirtual 260, 3) := by decide +kernel
theorem dX6_criticalByTrying_11 : decode cX6_criticalByTrying 11 = .ok (.ireturn, 1) := by decide +kernel
theorem dX6_criticalByOrder_0 : decode cX6_criticalByOrder 0 = .ok (.aload_n 0, 1) := by decide +kernel
theorem dX6_criticalByOrder_1 : decode cX6_criticalByOrder 1 = .ok (.getfield 22, 3) := by decide +kernel
theorem dX6_criticalByOrder_4 : decode cX6_criticalByOrder 4 = .ok (.aload_n 0, 1) := by decide +kernel
theorem dX6_criticalByOrder_5 : decode cX6_criticalByOrder 5 = .ok (.getfield 12, 3) := by decide +kernel
theorem dX6_criticalByOrder_8 : decode cX6_criticalByOrder 8 = .ok (.invokevirtual 263, 3) := by decide +kernel
theorem dX6_criticalByOrder_11 : decode cX6_criticalByOrder 11 = .ok (.ireturn, 1) := by decide +kernel
theorem dX6_capacityOf_0 : decode cX6_capacityOf 0 = .ok (.iload_n 1, 1) := by decide +kernel
theorem dX6_capacityOf_1 : decode cX6_capacityOf 1 = .ok (.invokestatic 92, 3) := by decide +kernel
theorem dX6_capacityOf_4 : decode cX6_capacityOf 4 = .ok (.invokestatic 67, 3) := by decide +kernel
theorem dX6_capacityOf_7 : decode cX6_capacityOf 7 = .ok (.aload_n 0, 1) := by decide +kernel
theorem dX6_capacityOf_8 : decode cX6_capacityOf 8 = .ok (.getfield 12, 3) := by decide +kernel
theorem dX6_capacityOf_11 : decode cX6_capacityOf 11 = .ok (.getfield 266, 3) := by decide +kernel
theorem dX6_capacityOf_14 : decode cX6_capacityOf 14 = .ok (.iload_n 1, 1) := by decide +kernel
theorem dX6_capacityOf_15 : decode cX6_capacityOf 15 = .ok (.iaload, 1) := by decide +kernel
theorem dX6_capacityOf_16 : decode cX6_capacityOf 16 = .ok (.ireturn, 1) := by decide +kernel
theorem dX6_loadByTickets_0 : decode cX6_loadByTickets 0 = .ok (.iload_n 1, 1) := by decide +kernel
theorem dX6_loadByTickets_1 : decode cX6_loadByTickets 1 = .ok (.invokestatic 92, 3) := by decide +kernel
theorem dX6_loadByTickets_4 : decode cX6_loadByTickets 4 = .ok (.invokestatic 67, 3) := by decide +kernel
theorem dX6_loadByTickets_7 : decode cX6_loadByTickets 7 = .ok (.aload_n 0, 1) := by decide +kernel
theorem dX6_loadByTickets_8 : decode cX6_loadByTickets 8 = .ok (.getfield 12, 3) := by decide +kernel
theorem dX6_loadByTickets_11 : decode cX6_loadByTickets 11 = .ok (.iload_n 1, 1) := by decide +kernel
theorem dX6_loadByTickets_12 : decode cX6_loadByTickets 12 = .ok (.invokestatic 269, 3) := by decide +kernel
theorem dX6_loadByTickets_15 : decode cX6_loadByTickets 15 = .ok (.ireturn, 1) := by decide +kernel
theorem dX6_loadByAccount_0 : decode cX6_loadByAccount 0 = .ok (.iload_n 1, 1) := by decide +kernel
theorem dX6_loadByAccount_1 : decode cX6_loadByAccount 1 = .ok (.invokestatic 92, 3) := by decide +kernel
theorem dX6_loadByAccount_4 : decode cX6_loadByAccount 4 = .ok (.invokestatic 67, 3) := by decide +kernel
theorem dX6_loadByAccount_7 : decode cX6_loadByAccount 7 = .ok (.aload_n 0, 1) := by decide +kernel
theorem dX6_loadByAccount_8 : decode cX6_loadByAccount 8 = .ok (.getfield 12, 3) := by decide +kernel
theorem dX6_loadByAccount_11 : decode cX6_loadByAccount 11 = .ok (.getfield 112, 3) := by decide +kernel
theorem dX6_loadByAccount_14 : decode cX6_loadByAccount 14 = .ok (.iload_n 1, 1) := by decide +kernel
theorem dX6_loadByAccount_15 : decode cX6_loadByAccount 15 = .ok (.iaload, 1) := by decide +kernel
theorem dX6_loadByAccount_16 : decode cX6_loadByAccount 16 = .ok (.ireturn, 1) := by decide +kernel
theorem dX6_dateOf_0 : decode cX6_dateOf 0 = .ok (.iload_n 1, 1) := by decide +kernel
theorem dX6_dateOf_1 : decode cX6_dateOf 1 = .ok (.invokestatic 118, 3) := by decide +kernel
theorem dX6_dateOf_4 : decode cX6_dateOf 4 = .ok (.invokestatic 67, 3) := by decide +kernel
theorem dX6_dateOf_7 : decode cX6_dateOf 7 = .ok (.aload_n 0, 1) := by decide +kernel
theorem dX6_dateOf_8 : decode cX6_dateOf 8 = .ok (.getfield 12, 3) := by decide +kernel
theorem dX6_dateOf_11 : decode cX6_dateOf 11 = .ok (.getfield 281, 3) := by decide +kernel
theorem dX6_dateOf_14 : decode cX6_dateOf 14 = .ok (.iload_n 1, 1) := by decide +kernel
theorem dX6_dateOf_15 : decode cX6_dateOf 15 = .ok (.iaload, 1) := by decide +kernel
theorem dX6_dateOf_16 : decode cX6_dateOf 16 = .ok (.ireturn, 1) := by decide +kernel
theorem dX6_pointsLeft_0 : decode cX6_pointsLeft 0 = .ok (.iload_n 1, 1) := by decide +kernel
theorem dX6_pointsLeft_1 : decode cX6_pointsLeft 1 = .ok (.invokestatic 118, 3) := by decide +kernel
theorem dX6_pointsLeft_4 : decode cX6_pointsLeft 4 = .ok (.invokestatic 67, 3) := by decide +kernel
theorem dX6_pointsLeft_7 : decode cX6_pointsLeft 7 = .ok (.aload_n 0, 1) := by decide +kernel
theorem dX6_pointsLeft_8 : decode cX6_pointsLeft 8 = .ok (.getfield 12, 3) := by decide +kernel
theorem dX6_pointsLeft_11 : decode cX6_pointsLeft 11 = .ok (.iload_n 1, 1) := by decide +kernel
theorem dX6_pointsLeft_12 : decode cX6_pointsLeft 12 = .ok (.invokestatic 127, 3) := by decide +kernel
theorem dX6_pointsLeft_15 : decode cX6_pointsLeft 15 = .ok (.ireturn, 1) := by decide +kernel
theorem dX6_hundredthsDone_0 : decode cX6_hundredthsDone 0 = .ok (.iload_n 1, 1) := by decide +kernel
theorem dX6_hundredthsDone_1 : decode cX6_hundredthsDone 1 = .ok (.invokestatic 118, 3) := by decide +kernel
theorem dX6_hundredthsDone_4 : decode cX6_hundredthsDone 4 = .ok (.invokestatic 67, 3) := by decide +kernel
theorem dX6_hundredthsDone_7 : decode cX6_hundredthsDone 7 = .ok (.aload_n 0, 1) := by decide +kernel
theorem dX6_hundredthsDone_8 : decode cX6_hundredthsDone 8 = .ok (.getfield 12, 3) := by decide +kernel
theorem dX6_hundredthsDone_11 : decode cX6_hundredthsDone 11 = .ok (.iload_n 1, 1) := by decide +kernel
theorem dX6_hundredthsDone_12 : decode cX6_hundredthsDone 12 = .ok (.invokestatic 287, 3) := by decide +kernel
theorem dX6_hundredthsDone_15 : decode cX6_hundredthsDone 15 = .ok (.ireturn, 1) := by decide +kernel
theorem dX6_isLate_0 : decode cX6_isLate 0 = .ok (.iload_n 1, 1) := by decide +kernel
theorem dX6_isLate_1 : decode cX6_isLate 1 = .ok (.invokestatic 118, 3) := by decide +kernel
theorem dX6_isLate_4 : decode cX6_isLate 4 = .ok (.invokestatic 67, 3) := by decide +kernel
theorem dX6_isLate_7 : decode cX6_isLate 7 = .ok (.aload_n 0, 1) := by decide +kernel
theorem dX6_isLate_8 : decode cX6_isLate 8 = .ok (.getfield 12, 3) := by decide +kernel
theorem dX6_isLate_11 : decode cX6_isLate 11 = .ok (.iload_n 1, 1) := by decide +kernel
theorem dX6_isLate_12 : decode cX6_isLate 12 = .ok (.invokestatic 290, 3) := by decide +kernel
theorem dX6_isLate_15 : decode cX6_isLate 15 = .ok (.ireturn, 1) := by decide +kernel
theorem dX6_lateMilestones_0 : decode cX6_lateMilestones 0 = .ok (.aload_n 0, 1) := by decide +kernel
theorem dX6_lateMilestones_1 : decode cX6_lateMilestones 1 = .ok (.getfield 12, 3) := by decide +kernel
theorem dX6_lateMilestones_4 : decode cX6_lateMilestones 4 = .ok (.invokestatic 297, 3) := by decide +kernel
theorem dX6_lateMilestones_7 : decode cX6_lateMilestones 7 = .ok (.ireturn, 1) := by decide +kernel
theorem dX6_day_0 : decode cX6_day 0 = .ok (.aload_n 0, 1) := by decide +kernel
theorem dX6_day_1 : decode cX6_day 1 = .ok (.getfield 12, 3) := by decide +kernel
theorem dX6_day_4 : decode cX6_day 4 = .ok (.getfield 309, 3) := by decide +kernel
theorem dX6_day_7 : decode cX6_day 7 = .ok (.ireturn, 1) := by decide +kernel
theorem dX6_withState_0 : decode cX6_withState 0 = .ok (.iload_n 1, 1) := by decide +kernel
theorem dX6_withState_1 : decode cX6_withState 1 = .ok (.iconst 0, 1) := by decide +kernel
theorem dX6_withState_2 : decode cX6_withState 2 = .ok (.iconst 4, 1) := by decide +kernel
theorem dX6_withState_3 : decode cX6_withState 3 = .ok (.invokestatic 40, 3) := by decide +kernel
theorem dX6_withState_6 : decode cX6_withState 6 = .ok (.invokestatic 44, 3) := by decide +kernel
theorem dX6_withState_9 : decode cX6_withState 9 = .ok (.aload_n 0, 1) := by decide +kernel
theorem dX6_withState_10 : decode cX6_withState 10 = .ok (.getfield 12, 3) := by decide +kernel
theorem dX6_withState_13 : decode cX6_withState 13 = .ok (.iload_n 1, 1) := by decide +kernel
theorem dX6_withState_14 : decode cX6_withState 14 = .ok (.invokevirtual 312, 3) := by decide +kernel
theorem dX6_withState_17 : decode cX6_withState 17 = .ok (.invokestatic 162, 3) := by decide +kernel
theorem dX6_withState_20 : decode cX6_withState 20 = .ok (.ireturn, 1) := by decide +kernel
theorem dX6_pointsWith_0 : decode cX6_pointsWith 0 = .ok (.iload_n 1, 1) := by decide +kernel
theorem dX6_pointsWith_1 : decode cX6_pointsWith 1 = .ok (.iconst 0, 1) := by decide +kernel
theorem dX6_pointsWith_2 : decode cX6_pointsWith 2 = .ok (.iconst 4, 1) := by decide +kernel
theorem dX6_pointsWith_3 : decode cX6_pointsWith 3 = .ok (.invokestatic 40, 3) := by decide +kernel
theorem dX6_pointsWith_6 : decode cX6_pointsWith 6 = .ok (.invokestatic 44, 3) := by decide +kernel
theorem dX6_pointsWith_9 : decode cX6_pointsWith 9 = .ok (.aload_n 0, 1) := by decide +kernel
theorem dX6_pointsWith_10 : decode cX6_pointsWith 10 = .ok (.getfield 12, 3) := by decide +kernel
theorem dX6_pointsWith_13 : decode cX6_pointsWith 13 = .ok (.aload_n 0, 1) := by decide +kernel
theorem dX6_pointsWith_14 : decode cX6_pointsWith 14 = .ok (.getfield 12, 3) := by decide +kernel
theorem dX6_pointsWith_17 : decode cX6_pointsWith 17 = .ok (.iload_n 1, 1) := by decide +kernel
theorem dX6_pointsWith_18 : decode cX6_pointsWith 18 = .ok (.invokevirtual 312, 3) := by decide +kernel
theorem dX6_pointsWith_21 : decode cX6_pointsWith 21 = .ok (.invokevirtual 315, 3) := by decide +kernel
theorem dX6_pointsWith_24 : decode cX6_pointsWith 24 = .ok (.ireturn, 1) := by decide +kernel
theorem dX6_allPoints_0 : decode cX6_allPoints 0 = .ok (.aload_n 0, 1) := by decide +kernel
theorem dX6_allPoints_1 : decode cX6_allPoints 1 = .ok (.getfield 12, 3) := by decide +kernel
theorem dX6_allPoints_4 : decode cX6_allPoints 4 = .ok (.ldc_w 318, 3) := by decide +kernel
theorem dX6_allPoints_7 : decode cX6_allPoints 7 = .ok (.invokevirtual 315, 3) := by decide +kernel
theorem dX6_allPoints_10 : decode cX6_allPoints 10 = .ok (.ireturn, 1) := by decide +kernel
theorem dX6_blockedTickets_0 : decode cX6_blockedTickets 0 = .ok (.aload_n 0, 1) := by decide +kernel
theorem dX6_blockedTickets_1 : decode cX6_blockedTickets 1 = .ok (.getfield 12, 3) := by decide +kernel
theorem dX6_blockedTickets_4 : decode cX6_blockedTickets 4 = .ok (.invokestatic 319, 3) := by decide +kernel
theorem dX6_blockedTickets_7 : decode cX6_blockedTickets 7 = .ok (.ireturn, 1) := by decide +kernel
theorem dX6_closings_0 : decode cX6_closings 0 = .ok (.aload_n 0, 1) := by decide +kernel
theorem dX6_closings_1 : decode cX6_closings 1 = .ok (.getfield 12, 3) := by decide +kernel
theorem dX6_closings_4 : decode cX6_closings 4 = .ok (.getfield 198, 3) := by decide +kernel
theorem dX6_closings_7 : decode cX6_closings 7 = .ok (.ireturn, 1) := by decide +kernel
theorem dX6_reopenings_0 : decode cX6_reopenings 0 = .ok (.aload_n 0, 1) := by decide +kernel
theorem dX6_reopenings_1 : decode cX6_reopenings 1 = .ok (.getfield 12, 3) := by decide +kernel
theorem dX6_reopenings_4 : decode cX6_reopenings 4 = .ok (.getfield 322, 3) := by decide +kernel
theorem dX6_reopenings_7 : decode cX6_reopenings 7 = .ok (.ireturn, 1) := by decide +kernel
theorem dX6_pointsOfWeek_0 : decode cX6_pointsOfWeek 0 = .ok (.aload_n 0, 1) := by decide +kernel
theorem dX6_pointsOfWeek_1 : decode cX6_pointsOfWeek 1 = .ok (.getfield 12, 3) := by decide +kernel
theorem dX6_pointsOfWeek_4 : decode cX6_pointsOfWeek 4 = .ok (.invokestatic 325, 3) := by decide +kernel
theorem dX6_pointsOfWeek_7 : decode cX6_pointsOfWeek 7 = .ok (.ireturn, 1) := by decide +kernel
theorem dX6_meanDays_0 : decode cX6_meanDays 0 = .ok (.aload_n 0, 1) := by decide +kernel
theorem dX6_meanDays_1 : decode cX6_meanDays 1 = .ok (.getfield 12, 3) := by decide +kernel
theorem dX6_meanDays_4 : decode cX6_meanDays 4 = .ok (.invokestatic 328, 3) := by decide +kernel
theorem dX6_meanDays_7 : decode cX6_meanDays 7 = .ok (.dreturn, 1) := by decide +kernel
theorem dX6_requireIndex_0 : decode cX6_requireIndex 0 = .ok (.iload_n 0, 1) := by decide +kernel
theorem dX6_requireIndex_1 : decode cX6_requireIndex 1 = .ok (.ifCond .ne 14, 3) := by decide +kernel
theorem dX6_requireIndex_4 : decode cX6_requireIndex 4 = .ok (.new 374, 3) := by decide +kernel
theorem dX6_requireIndex_7 : decode cX6_requireIndex 7 = .ok (.dup, 1) := by decide +kernel
theorem dX6_requireIndex_8 : decode cX6_requireIndex 8 = .ok (.ldc_w 376, 3) := by decide +kernel
theorem dX6_requireIndex_11 : decode cX6_requireIndex 11 = .ok (.invokespecial 378, 3) := by decide +kernel
theorem dX6_requireIndex_14 : decode cX6_requireIndex 14 = .ok (.athrow, 1) := by decide +kernel
theorem dX6_requireIndex_15 : decode cX6_requireIndex 15 = .ok (.return_, 1) := by decide +kernel
theorem dX6_requireArgument_0 : decode cX6_requireArgument 0 = .ok (.iload_n 0, 1) := by decide +kernel
theorem dX6_requireArgument_1 : decode cX6_requireArgument 1 = .ok (.ifCond .ne 14, 3) := by decide +kernel
theorem dX6_requireArgument_4 : decode cX6_requireArgument 4 = .ok (.new 381, 3) := by decide +kernel
theorem dX6_requireArgument_7 : decode cX6_requireArgument 7 = .ok (.dup, 1) := by decide +kernel
theorem dX6_requireArgument_8 : decode cX6_requireArgument 8 = .ok (.ldc_w 383, 3) := by decide +kernel
theorem dX6_requireArgument_11 : decode cX6_requireArgument 11 = .ok (.invokespecial 385, 3) := by decide +kernel
theorem dX6_requireArgument_14 : decode cX6_requireArgument 14 = .ok (.athrow, 1) := by decide +kernel
theorem dX6_requireArgument_15 : decode cX6_requireArgument 15 = .ok (.return_, 1) := by decide +kernel
theorem dX6_requireState_0 : decode cX6_requireState 0 = .ok (.iload_n 0, 1) := by decide +kernel
theorem dX6_requireState_1 : decode cX6_requireState 1 = .ok (.ifCond .ne 14, 3) := by decide +kernel
theorem dX6_requireState_4 : decode cX6_requireState 4 = .ok (.new 386, 3) := by decide +kernel
theorem dX6_requireState_7 : decode cX6_requireState 7 = .ok (.dup, 1) := by decide +kernel
theorem dX6_requireState_8 : decode cX6_requireState 8 = .ok (.ldc_w 388, 3) := by decide +kernel
theorem dX6_requireState_11 : decode cX6_requireState 11 = .ok (.invokespecial 390, 3) := by decide +kernel
theorem dX6_requireState_14 : decode cX6_requireState 14 = .ok (.athrow, 1) := by decide +kernel
theorem dX6_requireState_15 : decode cX6_requireState 15 = .ok (.return_, 1) := by decide +kernel
theorem dX6_within_0 : decode cX6_within 0 = .ok (.iload_n 0, 1) := by decide +kernel
theorem dX6_within_1 : decode cX6_within 1 = .ok (.iload_n 1, 1) := by decide +kernel
theorem dX6_within_2 : decode cX6_within 2 = .ok (.if_icmp .lt 12, 3) := by decide +kernel
theorem dX6_within_5 : decode cX6_within 5 = .ok (.iload_n 0, 1) := by decide +kernel
theorem dX6_within_6 : decode cX6_within 6 = .ok (.iload_n 2, 1) := by decide +kernel
theorem dX6_within_7 : decode cX6_within 7 = .ok (.if_icmp .gt 7, 3) := by decide +kernel
theorem dX6_within_10 : decode cX6_within 10 = .ok (.iconst 1, 1) := by decide +kernel
theorem dX6_within_11 : decode cX6_within 11 = .ok (.goto 4, 3) := by decide +kernel
theorem dX6_within_14 : decode cX6_within 14 = .ok (.iconst 0, 1) := by decide +kernel
theorem dX6_within_15 : decode cX6_within 15 = .ok (.ireturn, 1) := by decide +kernel
theorem dX6_isOwner_0 : decode cX6_isOwner 0 = .ok (.iload_n 0, 1) := by decide +kernel
theorem dX6_isOwner_1 : decode cX6_isOwner 1 = .ok (.iconst 0, 1) := by decide +kernel
theorem dX6_isOwner_2 : decode cX6_isOwner 2 = .ok (.iconst 4, 1) := by decide +kernel
theorem dX6_isOwner_3 : decode cX6_isOwner 3 = .ok (.invokestatic 40, 3) := by decide +kernel
theorem dX6_isOwner_6 : decode cX6_isOwner 6 = .ok (.ireturn, 1) := by decide +kernel
theorem dX6_isMilestone_0 : decode cX6_isMilestone 0 = .ok (.iload_n 0, 1) := by decide +kernel
theorem dX6_isMilestone_1 : decode cX6_isMilestone 1 = .ok (.iconst 0, 1) := by decide +kernel
theorem dX6_isMilestone_2 : decode cX6_isMilestone 2 = .ok (.iconst 3, 1) := by decide +kernel
theorem dX6_isMilestone_3 : decode cX6_isMilestone 3 = .ok (.invokestatic 40, 3) := by decide +kernel
theorem dX6_isMilestone_6 : decode cX6_isMilestone 6 = .ok (.ireturn, 1) := by decide +kernel
theorem dX6_setOf_0 : decode cX6_setOf 0 = .ok (.iconst 1, 1) := by decide +kernel
theorem dX6_setOf_1 : decode cX6_setOf 1 = .ok (.iload_n 0, 1) := by decide +kernel
theorem dX6_setOf_2 : decode cX6_setOf 2 = .ok (.ishl, 1) := by decide +kernel
theorem dX6_setOf_3 : decode cX6_setOf 3 = .ok (.ireturn, 1) := by decide +kernel
theorem dX6_isIn_0 : decode cX6_isIn 0 = .ok (.iload_n 0, 1) := by decide +kernel
theorem dX6_isIn_1 : decode cX6_isIn 1 = .ok (.iconst 1, 1) := by decide +kernel
theorem dX6_isIn_2 : decode cX6_isIn 2 = .ok (.iload_n 1, 1) := by decide +kernel
theorem dX6_isIn_3 : decode cX6_isIn 3 = .ok (.ishl, 1) := by decide +kernel
theorem dX6_isIn_4 : decode cX6_isIn 4 = .ok (.iand, 1) := by decide +kernel
theorem dX6_isIn_5 : decode cX6_isIn 5 = .ok (.ifCond .eq 7, 3) := by decide +kernel
theorem dX6_isIn_8 : decode cX6_isIn 8 = .ok (.iconst 1, 1) := by decide +kernel
theorem dX6_isIn_9 : decode cX6_isIn 9 = .ok (.goto 4, 3) := by decide +kernel
theorem dX6_isIn_12 : decode cX6_isIn 12 = .ok (.iconst 0, 1) := by decide +kernel
theorem dX6_isIn_13 : decode cX6_isIn 13 = .ok (.ireturn, 1) := by decide +kernel
