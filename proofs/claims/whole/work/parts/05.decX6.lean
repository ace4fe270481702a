theorem dX6_init_0 : decode cX6_init 0 = .ok (.aload_n 0, 1) := by decide +kernel
theorem dX6_init_1 : decode cX6_init 1 = .ok (.invokespecial 3, 3) := by decide +kernel
theorem dX6_init_4 : decode cX6_init 4 = .ok (.aload_n 0, 1) := by decide +kernel
theorem dX6_init_5 : decode cX6_init 5 = .ok (.new 9, 3) := by decide +kernel
theorem dX6_init_8 : decode cX6_init 8 = .ok (.dup, 1) := by decide +kernel
theorem dX6_init_9 : decode cX6_init 9 = .ok (.invokespecial 11, 3) := by decide +kernel
theorem dX6_init_12 : decode cX6_init 12 = .ok (.putfield 12, 3) := by decide +kernel
theorem dX6_init_15 : decode cX6_init 15 = .ok (.aload_n 0, 1) := by decide +kernel
theorem dX6_init_16 : decode cX6_init 16 = .ok (.new 9, 3) := by decide +kernel
theorem dX6_init_19 : decode cX6_init 19 = .ok (.dup, 1) := by decide +kernel
theorem dX6_init_20 : decode cX6_init 20 = .ok (.invokespecial 11, 3) := by decide +kernel
theorem dX6_init_23 : decode cX6_init 23 = .ok (.putfield 16, 3) := by decide +kernel
theorem dX6_init_26 : decode cX6_init 26 = .ok (.aload_n 0, 1) := by decide +kernel
theorem dX6_init_27 : decode cX6_init 27 = .ok (.new 19, 3) := by decide +kernel
theorem dX6_init_30 : decode cX6_init 30 = .ok (.dup, 1) := by decide +kernel
theorem dX6_init_31 : decode cX6_init 31 = .ok (.invokespecial 21, 3) := by decide +kernel
theorem dX6_init_34 : decode cX6_init 34 = .ok (.putfield 22, 3) := by decide +kernel
theorem dX6_init_37 : decode cX6_init 37 = .ok (.aload_n 0, 1) := by decide +kernel
theorem dX6_init_38 : decode cX6_init 38 = .ok (.new 26, 3) := by decide +kernel
theorem dX6_init_41 : decode cX6_init 41 = .ok (.dup, 1) := by decide +kernel
theorem dX6_init_42 : decode cX6_init 42 = .ok (.invokespecial 28, 3) := by decide +kernel
theorem dX6_init_45 : decode cX6_init 45 = .ok (.putfield 29, 3) := by decide +kernel
theorem dX6_init_48 : decode cX6_init 48 = .ok (.aload_n 0, 1) := by decide +kernel
theorem dX6_init_49 : decode cX6_init 49 = .ok (.new 33, 3) := by decide +kernel
theorem dX6_init_52 : decode cX6_init 52 = .ok (.dup, 1) := by decide +kernel
theorem dX6_init_53 : decode cX6_init 53 = .ok (.invokespecial 35, 3) := by decide +kernel
theorem dX6_init_56 : decode cX6_init 56 = .ok (.putfield 36, 3) := by decide +kernel
theorem dX6_init_59 : decode cX6_init 59 = .ok (.return_, 1) := by decide +kernel
theorem dX6_openTicket_0 : decode cX6_openTicket 0 = .ok (.iload_n 1, 1) := by decide +kernel
theorem dX6_openTicket_1 : decode cX6_openTicket 1 = .ok (.iconst 1, 1) := by decide +kernel
theorem dX6_openTicket_2 : decode cX6_openTicket 2 = .ok (.bipush 13, 2) := by decide +kernel
theorem dX6_openTicket_4 : decode cX6_openTicket 4 = .ok (.invokestatic 40, 3) := by decide +kernel
theorem dX6_openTicket_7 : decode cX6_openTicket 7 = .ok (.ifCond .eq 16, 3) := by decide +kernel
theorem dX6_openTicket_10 : decode cX6_openTicket 10 = .ok (.iload_n 2, 1) := by decide +kernel
theorem dX6_openTicket_11 : decode cX6_openTicket 11 = .ok (.iconst 0, 1) := by decide +kernel
theorem dX6_openTicket_12 : decode cX6_openTicket 12 = .ok (.iconst 3, 1) := by decide +kernel
theorem dX6_openTicket_13 : decode cX6_openTicket 13 = .ok (.invokestatic 40, 3) := by decide +kernel
theorem dX6_openTicket_16 : decode cX6_openTicket 16 = .ok (.ifCond .eq 7, 3) := by decide +kernel
theorem dX6_openTicket_19 : decode cX6_openTicket 19 = .ok (.iconst 1, 1) := by decide +kernel
theorem dX6_openTicket_20 : decode cX6_openTicket 20 = .ok (.goto 4, 3) := by decide +kernel
theorem dX6_openTicket_23 : decode cX6_openTicket 23 = .ok (.iconst 0, 1) := by decide +kernel
theorem dX6_openTicket_24 : decode cX6_openTicket 24 = .ok (.invokestatic 44, 3) := by decide +kernel
theorem dX6_openTicket_27 : decode cX6_openTicket 27 = .ok (.aload_n 0, 1) := by decide +kernel
theorem dX6_openTicket_28 : decode cX6_openTicket 28 = .ok (.getfield 12, 3) := by decide +kernel
theorem dX6_openTicket_31 : decode cX6_openTicket 31 = .ok (.invokevirtual 48, 3) := by decide +kernel
theorem dX6_openTicket_34 : decode cX6_openTicket 34 = .ok (.invokestatic 52, 3) := by decide +kernel
theorem dX6_openTicket_37 : decode cX6_openTicket 37 = .ok (.aload_n 0, 1) := by decide +kernel
theorem dX6_openTicket_38 : decode cX6_openTicket 38 = .ok (.getfield 29, 3) := by decide +kernel
theorem dX6_openTicket_41 : decode cX6_openTicket 41 = .ok (.aload_n 0, 1) := by decide +kernel
theorem dX6_openTicket_42 : decode cX6_openTicket 42 = .ok (.getfield 12, 3) := by decide +kernel
theorem dX6_openTicket_45 : decode cX6_openTicket 45 = .ok (.invokevirtual 55, 3) := by decide +kernel
theorem dX6_openTicket_48 : decode cX6_openTicket 48 = .ok (.aload_n 0, 1) := by decide +kernel
theorem dX6_openTicket_49 : decode cX6_openTicket 49 = .ok (.getfield 12, 3) := by decide +kernel
theorem dX6_openTicket_52 : decode cX6_openTicket 52 = .ok (.iload_n 1, 1) := by decide +kernel
theorem dX6_openTicket_53 : decode cX6_openTicket 53 = .ok (.iload_n 2, 1) := by decide +kernel
theorem dX6_openTicket_54 : decode cX6_openTicket 54 = .ok (.invokevirtual 59, 3) := by decide +kernel
theorem dX6_openTicket_57 : decode cX6_openTicket 57 = .ok (.ireturn, 1) := by decide +kernel
theorem dX6_reestimate_0 : decode cX6_reestimate 0 = .ok (.aload_n 0, 1) := by decide +kernel
theorem dX6_reestimate_1 : decode cX6_reestimate 1 = .ok (.getfield 12, 3) := by decide +kernel
theorem dX6_reestimate_4 : decode cX6_reestimate 4 = .ok (.iload_n 1, 1) := by decide +kernel
theorem dX6_reestimate_5 : decode cX6_reestimate 5 = .ok (.invokevirtual 63, 3) := by decide +kernel
theorem dX6_reestimate_8 : decode cX6_reestimate 8 = .ok (.invokestatic 67, 3) := by decide +kernel
theorem dX6_reestimate_11 : decode cX6_reestimate 11 = .ok (.iload_n 2, 1) := by decide +kernel
theorem dX6_reestimate_12 : decode cX6_reestimate 12 = .ok (.iconst 1, 1) := by decide +kernel
theorem dX6_reestimate_13 : decode cX6_reestimate 13 = .ok (.bipush 13, 2) := by decide +kernel
theorem dX6_reestimate_15 : decode cX6_reestimate 15 = .ok (.invokestatic 40, 3) := by decide +kernel
theorem dX6_reestimate_18 : decode cX6_reestimate 18 = .ok (.invokestatic 44, 3) := by decide +kernel
theorem dX6_reestimate_21 : decode cX6_reestimate 21 = .ok (.aload_n 0, 1) := by decide +kernel
theorem dX6_reestimate_22 : decode cX6_reestimate 22 = .ok (.getfield 12, 3) := by decide +kernel
theorem dX6_reestimate_25 : decode cX6_reestimate 25 = .ok (.iload_n 1, 1) := by decide +kernel
theorem dX6_reestimate_26 : decode cX6_reestimate 26 = .ok (.iload_n 2, 1) := by decide +kernel
theorem dX6_reestimate_27 : decode cX6_reestimate 27 = .ok (.invokevirtual 70, 3) := by decide +kernel
theorem dX6_reestimate_30 : decode cX6_reestimate 30 = .ok (.invokestatic 52, 3) := by decide +kernel
theorem dX6_reestimate_33 : decode cX6_reestimate 33 = .ok (.aload_n 0, 1) := by decide +kernel
theorem dX6_reestimate_34 : decode cX6_reestimate 34 = .ok (.getfield 29, 3) := by decide +kernel
theorem dX6_reestimate_37 : decode cX6_reestimate 37 = .ok (.aload_n 0, 1) := by decide +kernel
theorem dX6_reestimate_38 : decode cX6_reestimate 38 = .ok (.getfield 12, 3) := by decide +kernel
theorem dX6_reestimate_41 : decode cX6_reestimate 41 = .ok (.invokevirtual 55, 3) := by decide +kernel
theorem dX6_reestimate_44 : decode cX6_reestimate 44 = .ok (.aload_n 0, 1) := by decide +kernel
theorem dX6_reestimate_45 : decode cX6_reestimate 45 = .ok (.getfield 12, 3) := by decide +kernel
theorem dX6_reestimate_48 : decode cX6_reestimate 48 = .ok (.iload_n 1, 1) := by decide +kernel
theorem dX6_reestimate_49 : decode cX6_reestimate 49 = .ok (.iload_n 2, 1) := by decide +kernel
theorem dX6_reestimate_50 : decode cX6_reestimate 50 = .ok (.invokevirtual 74, 3) := by decide +kernel
theorem dX6_reestimate_53 : decode cX6_reestimate 53 = .ok (.ireturn, 1) := by decide +kernel
theorem dX6_changePriority_0 : decode cX6_changePriority 0 = .ok (.aload_n 0, 1) := by decide +kernel
theorem dX6_changePriority_1 : decode cX6_changePriority 1 = .ok (.getfield 12, 3) := by decide +kernel
theorem dX6_changePriority_4 : decode cX6_changePriority 4 = .ok (.iload_n 1, 1) := by decide +kernel
theorem dX6_changePriority_5 : decode cX6_changePriority 5 = .ok (.invokevirtual 63, 3) := by decide +kernel
theorem dX6_changePriority_8 : decode cX6_changePriority 8 = .ok (.invokestatic 67, 3) := by decide +kernel
theorem dX6_changePriority_11 : decode cX6_changePriority 11 = .ok (.iload_n 2, 1) := by decide +kernel
theorem dX6_changePriority_12 : decode cX6_changePriority 12 = .ok (.iconst 0, 1) := by decide +kernel
theorem dX6_changePriority_13 : decode cX6_changePriority 13 = .ok (.iconst 3, 1) := by decide +kernel
theorem dX6_changePriority_14 : decode cX6_changePriority 14 = .ok (.invokestatic 40, 3) := by decide +kernel
theorem dX6_changePriority_17 : decode cX6_changePriority 17 = .ok (.invokestatic 44, 3) := by decide +kernel
theorem dX6_changePriority_20 : decode cX6_changePriority 20 = .ok (.aload_n 0, 1) := by decide +kernel
theorem dX6_changePriority_21 : decode cX6_changePriority 21 = .ok (.getfield 29, 3) := by decide +kernel
theorem dX6_changePriority_24 : decode cX6_changePriority 24 = .ok (.aload_n 0, 1) := by decide +kernel
theorem dX6_changePriority_25 : decode cX6_changePriority 25 = .ok (.getfield 12, 3) := by decide +kernel
theorem dX6_changePriority_28 : decode cX6_changePriority 28 = .ok (.invokevirtual 55, 3) := by decide +kernel
theorem dX6_changePriority_31 : decode cX6_changePriority 31 = .ok (.aload_n 0, 1) := by decide +kernel
theorem dX6_changePriority_32 : decode cX6_changePriority 32 = .ok (.getfield 12, 3) := by decide +kernel
theorem dX6_changePriority_35 : decode cX6_changePriority 35 = .ok (.iload_n 1, 1) := by decide +kernel
theorem dX6_changePriority_36 : decode cX6_changePriority 36 = .ok (.iload_n 2, 1) := by decide +kernel
theorem dX6_changePriority_37 : decode cX6_changePriority 37 = .ok (.invokevirtual 77, 3) := by decide +kernel
theorem dX6_changePriority_40 : decode cX6_changePriority 40 = .ok (.ireturn, 1) := by decide +kernel
theorem dX6_need_0 : decode cX6_need 0 = .ok (.aload_n 0, 1) := by decide +kernel
theorem dX6_need_1 : decode cX6_need 1 = .ok (.getfield 12, 3) := by decide +kernel
theorem dX6_need_4 : decode cX6_need 4 = .ok (.iload_n 1, 1) := by decide +kernel
theorem dX6_need_5 : decode cX6_need 5 = .ok (.invokevirtual 63, 3) := by decide +kernel
theorem dX6_need_8 : decode cX6_need 8 = .ok (.ifCond .eq 18, 3) := by decide +kernel
theorem dX6_need_11 : decode cX6_need 11 = .ok (.aload_n 0, 1) := by decide +kernel
theorem dX6_need_12 : decode cX6_need 12 = .ok (.getfield 12, 3) := by decide +kernel
theorem dX6_need_15 : decode cX6_need 15 = .ok (.iload_n 2, 1) := by decide +kernel
theorem dX6_need_16 : decode cX6_need 16 = .ok (.invokevirtual 63, 3) := by decide +kernel
theorem dX6_need_19 : decode cX6_need 19 = .ok (.ifCond .eq 7, 3) := by decide +kernel
theorem dX6_need_22 : decode cX6_need 22 = .ok (.iconst 1, 1) := by decide +kernel
theorem dX6_need_23 : decode cX6_need 23 = .ok (.goto 4, 3) := by decide +kernel
theorem dX6_need_26 : decode cX6_need 26 = .ok (.iconst 0, 1) := by decide +kernel
theorem dX6_need_27 : decode cX6_need 27 = .ok (.invokestatic 67, 3) := by decide +kernel
theorem dX6_need_30 : decode cX6_need 30 = .ok (.iload_n 1, 1) := by decide +kernel
theorem dX6_need_31 : decode cX6_need 31 = .ok (.iload_n 2, 1) := by decide +kernel
theorem dX6_need_32 : decode cX6_need 32 = .ok (.if_icmp .eq 7, 3) := by decide +kernel
theorem dX6_need_35 : decode cX6_need 35 = .ok (.iconst 1, 1) := by decide +kernel
theorem dX6_need_36 : decode cX6_need 36 = .ok (.goto 4, 3) := by decide +kernel
theorem dX6_need_39 : decode cX6_need 39 = .ok (.iconst 0, 1) := by decide +kernel
theorem dX6_need_40 : decode cX6_need 40 = .ok (.invokestatic 44, 3) := by decide +kernel
theorem dX6_need_43 : decode cX6_need 43 = .ok (.aload_n 0, 1) := by decide +kernel
theorem dX6_need_44 : decode cX6_need 44 = .ok (.getfield 12, 3) := by decide +kernel
theorem dX6_need_47 : decode cX6_need 47 = .ok (.iload_n 1, 1) := by decide +kernel
theorem dX6_need_48 : decode cX6_need 48 = .ok (.iload_n 2, 1) := by decide +kernel
theorem dX6_need_49 : decode cX6_need 49 = .ok (.invokevirtual 80, 3) := by decide +kernel
theorem dX6_need_52 : decode cX6_need 52 = .ok (.invokestatic 52, 3) := by decide +kernel
theorem dX6_need_55 : decode cX6_need 55 = .ok (.aload_n 0, 1) := by decide +kernel
theorem dX6_need_56 : decode cX6_need 56 = .ok (.getfield 29, 3) := by decide +kernel
theorem dX6_need_59 : decode cX6_need 59 = .ok (.aload_n 0, 1) := by decide +kernel
theorem dX6_need_60 : decode cX6_need 60 = .ok (.getfield 12, 3) := by decide +kernel
theorem dX6_need_63 : decode cX6_need 63 = .ok (.invokevirtual 55, 3) := by decide +kernel
theorem dX6_need_66 : decode cX6_need 66 = .ok (.aload_n 0, 1) := by decide +kernel
theorem dX6_need_67 : decode cX6_need 67 = .ok (.getfield 12, 3) := by decide +kernel
theorem dX6_need_70 : decode cX6_need 70 = .ok (.iload_n 1, 1) := by decide +kernel
theorem dX6_need_71 : decode cX6_need 71 = .ok (.iload_n 2, 1) := by decide +kernel
theorem dX6_need_72 : decode cX6_need 72 = .ok (.invokevirtual 83, 3) := by decide +kernel
theorem dX6_need_75 : decode cX6_need 75 = .ok (.ireturn, 1) := by decide +kernel
theorem dX6_release_0 : decode cX6_release 0 = .ok (.aload_n 0, 1) := by decide +kernel
theorem dX6_release_1 : decode cX6_release 1 = .ok (.getfield 12, 3) := by decide +kernel
theorem dX6_release_4 : decode cX6_release 4 = .ok (.iload_n 1, 1) := by decide +kernel
theorem dX6_release_5 : decode cX6_release 5 = .ok (.invokevirtual 63, 3) := by decide +kernel
theorem dX6_release_8 : decode cX6_release 8 = .ok (.ifCond .eq 18, 3) := by decide +kernel
theorem dX6_release_11 : decode cX6_release 11 = .ok (.aload_n 0, 1) := by decide +kernel
theorem dX6_release_12 : decode cX6_release 12 = .ok (.getfield 12, 3) := by decide +kernel
theorem dX6_release_15 : decode cX6_release 15 = .ok (.iload_n 2, 1) := by decide +kernel
theorem dX6_release_16 : decode cX6_release 16 = .ok (.invokevirtual 63, 3) := by decide +kernel
theorem dX6_release_19 : decode cX6_release 19 = .ok (.ifCond .eq 7, 3) := by decide +kernel
theorem dX6_release_22 : decode cX6_release 22 = .ok (.iconst 1, 1) := by decide +kernel
theorem dX6_release_23 : decode cX6_release 23 = .ok (.goto 4, 3) := by decide +kernel
theorem dX6_release_26 : decode cX6_release 26 = .ok (.iconst 0, 1) := by decide +kernel
theorem dX6_release_27 : decode cX6_release 27 = .ok (.invokestatic 67, 3) := by decide +kernel
theorem dX6_release_30 : decode cX6_release 30 = .ok (.aload_n 0, 1) := by decide +kernel
theorem dX6_release_31 : decode cX6_release 31 = .ok (.getfield 12, 3) := by decide +kernel
theorem dX6_release_34 : decode cX6_release 34 = .ok (.iload_n 1, 1) := by decide +kernel
theorem dX6_release_35 : decode cX6_release 35 = .ok (.iload_n 2, 1) := by decide +kernel
theorem dX6_release_36 : decode cX6_release 36 = .ok (.invokevirtual 86, 3) := by decide +kernel
theorem dX6_release_39 : decode cX6_release 39 = .ok (.invokestatic 52, 3) := by decide +kernel
theorem dX6_release_42 : decode cX6_release 42 = .ok (.aload_n 0, 1) := by decide +kernel
theorem dX6_release_43 : decode cX6_release 43 = .ok (.getfield 29, 3) := by decide +kernel
theorem dX6_release_46 : decode cX6_release 46 = .ok (.aload_n 0, 1) := by decide +kernel
theorem dX6_release_47 : decode cX6_release 47 = .ok (.getfield 12, 3) := by decide +kernel
theorem dX6_release_50 : decode cX6_release 50 = .ok (.invokevirtual 55, 3) := by decide +kernel
theorem dX6_release_53 : decode cX6_release 53 = .ok (.aload_n 0, 1) := by decide +kernel
theorem dX6_release_54 : decode cX6_release 54 = .ok (.getfield 12, 3) := by decide +kernel
theorem dX6_release_57 : decode cX6_release 57 = .ok (.iload_n 1, 1) := by decide +kernel
theorem dX6_release_58 : decode cX6_release 58 = .ok (.iload_n 2, 1) := by decide +kernel
theorem dX6_release_59 : decode cX6_release 59 = .ok (.invokevirtual 89, 3) := by decide +kernel
theorem dX6_release_62 : decode cX6_release 62 = .ok (.ireturn, 1) := by decide +kernel
theorem dX6_assign_0 : decode cX6_assign 0 = .ok (.aload_n 0, 1) := by decide +kernel
theorem dX6_assign_1 : decode cX6_assign 1 = .ok (.getfield 12, 3) := by decide +kernel
theorem dX6_assign_4 : decode cX6_assign 4 = .ok (.iload_n 1, 1) := by decide +kernel
theorem dX6_assign_5 : decode cX6_assign 5 = .ok (.invokevirtual 63, 3) := by decide +kernel
theorem dX6_assign_8 : decode cX6_assign 8 = .ok (.ifCond .eq 14, 3) := by decide +kernel
theorem dX6_assign_11 : decode cX6_assign 11 = .ok (.iload_n 2, 1) := by decide +kernel
theorem dX6_assign_12 : decode cX6_assign 12 = .ok (.invokestatic 92, 3) := by decide +kernel
theorem dX6_assign_15 : decode cX6_assign 15 = .ok (.ifCond .eq 7, 3) := by decide +kernel
theorem dX6_assign_18 : decode cX6_assign 18 = .ok (.iconst 1, 1) := by decide +kernel
theorem dX6_assign_19 : decode cX6_assign 19 = .ok (.goto 4, 3) := by decide +kernel
theorem dX6_assign_22 : decode cX6_assign 22 = .ok (.iconst 0, 1) := by decide +kernel
theorem dX6_assign_23 : decode cX6_assign 23 = .ok (.invokestatic 67, 3) := by decide +kernel
theorem dX6_assign_26 : decode cX6_assign 26 = .ok (.aload_n 0, 1) := by decide +kernel
theorem dX6_assign_27 : decode cX6_assign 27 = .ok (.getfield 12, 3) := by decide +kernel
theorem dX6_assign_30 : decode cX6_assign 30 = .ok (.iload_n 1, 1) := by decide +kernel
theorem dX6_assign_31 : decode cX6_assign 31 = .ok (.iload_n 2, 1) := by decide +kernel
theorem dX6_assign_32 : decode cX6_assign 32 = .ok (.invokevirtual 95, 3) := by decide +kernel
theorem dX6_assign_35 : decode cX6_assign 35 = .ok (.invokestatic 52, 3) := by decide +kernel
theorem dX6_assign_38 : decode cX6_assign 38 = .ok (.aload_n 0, 1) := by decide +kernel
theorem dX6_assign_39 : decode cX6_assign 39 = .ok (.getfield 29, 3) := by decide +kernel
theorem dX6_assign_42 : decode cX6_assign 42 = .ok (.aload_n 0, 1) := by decide +kernel
theorem dX6_assign_43 : decode cX6_assign 43 = .ok (.getfield 12, 3) := by decide +kernel
theorem dX6_assign_46 : decode cX6_assign 46 = .ok (.invokevirtual 55, 3) := by decide +kernel
theorem dX6_assign_49 : decode cX6_assign 49 = .ok (.aload_n 0, 1) := by decide +kernel
theorem dX6_assign_50 : decode cX6_assign 50 = .ok (.getfield 12, 3) := by decide +kernel
theorem dX6_assign_53 : decode cX6_assign 53 = .ok (.iload_n 1, 1) := by decide +kernel
theorem dX6_assign_54 : decode cX6_assign 54 = .ok (.iload_n 2, 1) := by decide +kernel
theorem dX6_assign_55 : decode cX6_assign 55 = .ok (.invokevirtual 98, 3) := by decide +kernel
theorem dX6_assign_58 : decode cX6_assign 58 = .ok (.ireturn, 1) := by decide +kernel
theorem dX6_unassign_0 : decode cX6_unassign 0 = .ok (.aload_n 0, 1) := by decide +kernel
theorem dX6_unassign_1 : decode cX6_unassign 1 = .ok (.getfield 12, 3) := by decide +kernel
theorem dX6_unassign_4 : decode cX6_unassign 4 = .ok (.iload_n 1, 1) := by decide +kernel
theorem dX6_unassign_5 : decode cX6_unassign 5 = .ok (.invokevirtual 63, 3) := by decide +kernel
theorem dX6_unassign_8 : decode cX6_unassign 8 = .ok (.invokestatic 67, 3) := by decide +kernel
theorem dX6_unassign_11 : decode cX6_unassign 11 = .ok (.aload_n 0, 1) := by decide +kernel
theorem dX6_unassign_12 : decode cX6_unassign 12 = .ok (.getfield 12, 3) := by decide +kernel
theorem dX6_unassign_15 : decode cX6_unassign 15 = .ok (.getfield 101, 3) := by decide +kernel
theorem dX6_unassign_18 : decode cX6_unassign 18 = .ok (.iload_n 1, 1) := by decide +kernel
theorem dX6_unassign_19 : decode cX6_unassign 19 = .ok (.iaload, 1) := by decide +kernel
theorem dX6_unassign_20 : decode cX6_unassign 20 = .ok (.iconst (-1), 1) := by decide +kernel
theorem dX6_unassign_21 : decode cX6_unassign 21 = .ok (.if_icmp .eq 19, 3) := by decide +kernel
theorem dX6_unassign_24 : decode cX6_unassign 24 = .ok (.aload_n 0, 1) := by decide +kernel
theorem dX6_unassign_25 : decode cX6_unassign 25 = .ok (.getfield 12, 3) := by decide +kernel
theorem dX6_unassign_28 : decode cX6_unassign 28 = .ok (.getfield 105, 3) := by decide +kernel
theorem dX6_unassign_31 : decode cX6_unassign 31 = .ok (.iload_n 1, 1) := by decide +kernel
theorem dX6_unassign_32 : decode cX6_unassign 32 = .ok (.iaload, 1) := by decide +kernel
theorem dX6_unassign_33 : decode cX6_unassign 33 = .ok (.ifCond .ne 7, 3) := by decide +kernel
theorem dX6_unassign_36 : decode cX6_unassign 36 = .ok (.iconst 1, 1) := by decide +kernel
theorem dX6_unassign_37 : decode cX6_unassign 37 = .ok (.goto 4, 3) := by decide +kernel
theorem dX6_unassign_40 : decode cX6_unassign 40 = .ok (.iconst 0, 1) := by decide +kernel
theorem dX6_unassign_41 : decode cX6_unassign 41 = .ok (.invokestatic 52, 3) := by decide +kernel
theorem dX6_unassign_44 : decode cX6_unassign 44 = .ok (.aload_n 0, 1) := by decide +kernel
theorem dX6_unassign_45 : decode cX6_unassign 45 = .ok (.getfield 29, 3) := by decide +kernel
theorem dX6_unassign_48 : decode cX6_unassign 48 = .ok (.aload_n 0, 1) := by decide +kernel
theorem dX6_unassign_49 : decode cX6_unassign 49 = .ok (.getfield 12, 3) := by decide +kernel
theorem dX6_unassign_52 : decode cX6_unassign 52 = .ok (.invokevirtual 55, 3) := by decide +kernel
theorem dX6_unassign_55 : decode cX6_unassign 55 = .ok (.aload_n 0, 1) := by decide +kernel
theorem dX6_unassign_56 : decode cX6_unassign 56 = .ok (.getfield 12, 3) := by decide +kernel
theorem dX6_unassign_59 : decode cX6_unassign 59 = .ok (.iload_n 1, 1) := by decide +kernel
theorem dX6_unassign_60 : decode cX6_unassign 60 = .ok (.invokevirtual 108, 3) := by decide +kernel
theorem dX6_unassign_63 : decode cX6_unassign 63 = .ok (.ireturn, 1) := by decide +kernel
theorem dX6_changeCapacity_0 : decode cX6_changeCapacity 0 = .ok (.iload_n 1, 1) := by decide +kernel
theorem dX6_changeCapacity_1 : decode cX6_changeCapacity 1 = .ok (.invokestatic 92, 3) := by decide +kernel
theorem dX6_changeCapacity_4 : decode cX6_changeCapacity 4 = .ok (.invokestatic 67, 3) := by decide +kernel
theorem dX6_changeCapacity_7 : decode cX6_changeCapacity 7 = .ok (.iload_n 2, 1) := by decide +kernel
theorem dX6_changeCapacity_8 : decode cX6_changeCapacity 8 = .ok (.iconst 0, 1) := by decide +kernel
theorem dX6_changeCapacity_9 : decode cX6_changeCapacity 9 = .ok (.bipush 99, 2) := by decide +kernel
theorem dX6_changeCapacity_11 : decode cX6_changeCapacity 11 = .ok (.invokestatic 40, 3) := by decide +kernel
theorem dX6_changeCapacity_14 : decode cX6_changeCapacity 14 = .ok (.invokestatic 44, 3) := by decide +kernel
theorem dX6_changeCapacity_17 : decode cX6_changeCapacity 17 = .ok (.aload_n 0, 1) := by decide +kernel
theorem dX6_changeCapacity_18 : decode cX6_changeCapacity 18 = .ok (.getfield 12, 3) := by decide +kernel
theorem dX6_changeCapacity_21 : decode cX6_changeCapacity 21 = .ok (.getfield 112, 3) := by decide +kernel
theorem dX6_changeCapacity_24 : decode cX6_changeCapacity 24 = .ok (.iload_n 1, 1) := by decide +kernel
theorem dX6_changeCapacity_25 : decode cX6_changeCapacity 25 = .ok (.iaload, 1) := by decide +kernel
theorem dX6_changeCapacity_26 : decode cX6_changeCapacity 26 = .ok (.iload_n 2, 1) := by decide +kernel
theorem dX6_changeCapacity_27 : decode cX6_changeCapacity 27 = .ok (.if_icmp .gt 7, 3) := by decide +kernel
theorem dX6_changeCapacity_30 : decode cX6_changeCapacity 30 = .ok (.iconst 1, 1) := by decide +kernel
theorem dX6_changeCapacity_31 : decode cX6_changeCapacity 31 = .ok (.goto 4, 3) := by decide +kernel
theorem dX6_changeCapacity_34 : decode cX6_changeCapacity 34 = .ok (.iconst 0, 1) := by decide +kernel
theorem dX6_changeCapacity_35 : decode cX6_changeCapacity 35 = .ok (.invokestatic 52, 3) := by decide +kernel
theorem dX6_changeCapacity_38 : decode cX6_changeCapacity 38 = .ok (.aload_n 0, 1) := by decide +kernel
theorem dX6_changeCapacity_39 : decode cX6_changeCapacity 39 = .ok (.getfield 29, 3) := by decide +kernel
theorem dX6_changeCapacity_42 : decode cX6_changeCapacity 42 = .ok (.aload_n 0, 1) := by decide +kernel
theorem dX6_changeCapacity_43 : decode cX6_changeCapacity 43 = .ok (.getfield 12, 3) := by decide +kernel
theorem dX6_changeCapacity_46 : decode cX6_changeCapacity 46 = .ok (.invokevirtual 55, 3) := by decide +kernel
theorem dX6_changeCapacity_49 : decode cX6_changeCapacity 49 = .ok (.aload_n 0, 1) := by decide +kernel
theorem dX6_changeCapacity_50 : decode cX6_changeCapacity 50 = .ok (.getfield 12, 3) := by decide +kernel
theorem dX6_changeCapacity_53 : decode cX6_changeCapacity 53 = .ok (.iload_n 1, 1) := by decide +kernel
theorem dX6_changeCapacity_54 : decode cX6_changeCapacity 54 = .ok (.iload_n 2, 1) := by decide +kernel
theorem dX6_changeCapacity_55 : decode cX6_changeCapacity 55 = .ok (.invokevirtual 115, 3) := by decide +kernel
theorem dX6_changeCapacity_58 : decode cX6_changeCapacity 58 = .ok (.ireturn, 1) := by decide +kernel
theorem dX6_plan_0 : decode cX6_plan 0 = .ok (.aload_n 0, 1) := by decide +kernel
theorem dX6_plan_1 : decode cX6_plan 1 = .ok (.getfield 12, 3) := by decide +kernel
theorem dX6_plan_4 : decode cX6_plan 4 = .ok (.iload_n 1, 1) := by decide +kernel
theorem dX6_plan_5 : decode cX6_plan 5 = .ok (.invokevirtual 63, 3) := by decide +kernel
theorem dX6_plan_8 : decode cX6_plan 8 = .ok (.ifCond .eq 14, 3) := by decide +kernel
theorem dX6_plan_11 : decode cX6_plan 11 = .ok (.iload_n 2, 1) := by decide +kernel
theorem dX6_plan_12 : decode cX6_plan 12 = .ok (.invokestatic 118, 3) := by decide +kernel
theorem dX6_plan_15 : decode cX6_plan 15 = .ok (.ifCond .eq 7, 3) := by decide +kernel
theorem dX6_plan_18 : decode cX6_plan 18 = .ok (.iconst 1, 1) := by decide +kernel
theorem dX6_plan_19 : decode cX6_plan 19 = .ok (.goto 4, 3) := by decide +kernel
theorem dX6_plan_22 : decode cX6_plan 22 = .ok (.iconst 0, 1) := by decide +kernel
theorem dX6_plan_23 : decode cX6_plan 23 = .ok (.invokestatic 67, 3) := by decide +kernel
theorem dX6_plan_26 : decode cX6_plan 26 = .ok (.aload_n 0, 1) := by decide +kernel
theorem dX6_plan_27 : decode cX6_plan 27 = .ok (.getfield 12, 3) := by decide +kernel
theorem dX6_plan_30 : decode cX6_plan 30 = .ok (.iload_n 1, 1) := by decide +kernel
theorem dX6_plan_31 : decode cX6_plan 31 = .ok (.invokevirtual 121, 3) := by decide +kernel
theorem dX6_plan_34 : decode cX6_plan 34 = .ok (.ifCond .eq 20, 3) := by decide +kernel
theorem dX6_plan_37 : decode cX6_plan 37 = .ok (.aload_n 0, 1) := by decide +kernel
theorem dX6_plan_38 : decode cX6_plan 38 = .ok (.getfield 12, 3) := by decide +kernel
theorem dX6_plan_41 : decode cX6_plan 41 = .ok (.getfield 124, 3) := by decide +kernel
theorem dX6_plan_44 : decode cX6_plan 44 = .ok (.iload_n 1, 1) := by decide +kernel
theorem dX6_plan_45 : decode cX6_plan 45 = .ok (.iaload, 1) := by decide +kernel
theorem dX6_plan_46 : decode cX6_plan 46 = .ok (.iload_n 2, 1) := by decide +kernel
theorem dX6_plan_47 : decode cX6_plan 47 = .ok (.if_icmp .eq 7, 3) := by decide +kernel
theorem dX6_plan_50 : decode cX6_plan 50 = .ok (.iconst 1, 1) := by decide +kernel
theorem dX6_plan_51 : decode cX6_plan 51 = .ok (.goto 4, 3) := by decide +kernel
theorem dX6_plan_54 : decode cX6_plan 54 = .ok (.iconst 0, 1) := by decide +kernel
theorem dX6_plan_55 : decode cX6_plan 55 = .ok (.invokestatic 52, 3) := by decide +kernel
theorem dX6_plan_58 : decode cX6_plan 58 = .ok (.aload_n 0, 1) := by decide +kernel
theorem dX6_plan_59 : decode cX6_plan 59 = .ok (.getfield 29, 3) := by decide +kernel
theorem dX6_plan_62 : decode cX6_plan 62 = .ok (.aload_n 0, 1) := by decide +kernel
theorem dX6_plan_63 : decode cX6_plan 63 = .ok (.getfield 12, 3) := by decide +kernel
theorem dX6_plan_66 : decode cX6_plan 66 = .ok (.invokevirtual 55, 3) := by decide +kernel
theorem dX6_plan_69 : decode cX6_plan 69 = .ok (.aload_n 0, 1) := by decide +kernel
theorem dX6_plan_70 : decode cX6_plan 70 = .ok (.getfield 12, 3) := by decide +kernel
theorem dX6_plan_73 : decode cX6_plan 73 = .ok (.getfield 124, 3) := by decide +kernel
theorem dX6_plan_76 : decode cX6_plan 76 = .ok (.iload_n 1, 1) := by decide +kernel
theorem dX6_plan_77 : decode cX6_plan 77 = .ok (.iload_n 2, 1) := by decide +kernel
theorem dX6_plan_78 : decode cX6_plan 78 = .ok (.iastore, 1) := by decide +kernel
theorem dX6_plan_79 : decode cX6_plan 79 = .ok (.aload_n 0, 1) := by decide +kernel
theorem dX6_plan_80 : decode cX6_plan 80 = .ok (.getfield 12, 3) := by decide +kernel
theorem dX6_plan_83 : decode cX6_plan 83 = .ok (.iload_n 2, 1) := by decide +kernel
theorem dX6_plan_84 : decode cX6_plan 84 = .ok (.invokestatic 127, 3) := by decide +kernel
theorem dX6_plan_87 : decode cX6_plan 87 = .ok (.ireturn, 1) := by decide +kernel
theorem dX6_unplan_0 : decode cX6_unplan 0 = .ok (.aload_n 0, 1) := by decide +kernel
theorem dX6_unplan_1 : decode cX6_unplan 1 = .ok (.getfield 12, 3) := by decide +kernel
theorem dX6_unplan_4 : decode cX6_unplan 4 = .ok (.iload_n 1, 1) := by decide +kernel
theorem dX6_unplan_5 : decode cX6_unplan 5 = .ok (.invokevirtual 63, 3) := by decide +kernel
theorem dX6_unplan_8 : decode cX6_unplan 8 = .ok (.invokestatic 67, 3) := by decide +kernel
theorem dX6_unplan_11 : decode cX6_unplan 11 = .ok (.aload_n 0, 1) := by decide +kernel
theorem dX6_unplan_12 : decode cX6_unplan 12 = .ok (.getfield 12, 3) := by decide +kernel
theorem dX6_unplan_15 : decode cX6_unplan 15 = .ok (.getfield 124, 3) := by decide +kernel
theorem dX6_unplan_18 : decode cX6_unplan 18 = .ok (.iload_n 1, 1) := by decide +kernel
theorem dX6_unplan_19 : decode cX6_unplan 19 = .ok (.iaload, 1) := by decide +kernel
theorem dX6_unplan_20 : decode cX6_unplan 20 = .ok (.iconst (-1), 1) := by decide +kernel
theorem dX6_unplan_21 : decode cX6_unplan 21 = .ok (.if_icmp .eq 18, 3) := by decide +kernel
theorem dX6_unplan_24 : decode cX6_unplan 24 = .ok (.aload_n 0, 1) := by decide +kernel
theorem dX6_unplan_25 : decode cX6_unplan 25 = .ok (.getfield 12, 3) := by decide +kernel
theorem dX6_unplan_28 : decode cX6_unplan 28 = .ok (.iload_n 1, 1) := by decide +kernel
theorem dX6_unplan_29 : decode cX6_unplan 29 = .ok (.invokevirtual 121, 3) := by decide +kernel
theorem dX6_unplan_32 : decode cX6_unplan 32 = .ok (.ifCond .eq 7, 3) := by decide +kernel
theorem dX6_unplan_35 : decode cX6_unplan 35 = .ok (.iconst 1, 1) := by decide +kernel
theorem dX6_unplan_36 : decode cX6_unplan 36 = .ok (.goto 4, 3) := by decide +kernel
theorem dX6_unplan_39 : decode cX6_unplan 39 = .ok (.iconst 0, 1) := by decide +kernel
theorem dX6_unplan_40 : decode cX6_unplan 40 = .ok (.invokestatic 52, 3) := by decide +kernel
theorem dX6_unplan_43 : decode cX6_unplan 43 = .ok (.aload_n 0, 1) := by decide +kernel
theorem dX6_unplan_44 : decode cX6_unplan 44 = .ok (.getfield 29, 3) := by decide +kernel
theorem dX6_unplan_47 : decode cX6_unplan 47 = .ok (.aload_n 0, 1) := by decide +kernel
theorem dX6_unplan_48 : decode cX6_unplan 48 = .ok (.getfield 12, 3) := by decide +kernel
theorem dX6_unplan_51 : decode cX6_unplan 51 = .ok (.invokevirtual 55, 3) := by decide +kernel
theorem dX6_unplan_54 : decode cX6_unplan 54 = .ok (.aload_n 0, 1) := by decide +kernel
theorem dX6_unplan_55 : decode cX6_unplan 55 = .ok (.getfield 12, 3) := by decide +kernel
theorem dX6_unplan_58 : decode cX6_unplan 58 = .ok (.iload_n 1, 1) := by decide +kernel
theorem dX6_unplan_59 : decode cX6_unplan 59 = .ok (.invokevirtual 133, 3) := by decide +kernel
theorem dX6_unplan_62 : decode cX6_unplan 62 = .ok (.ireturn, 1) := by decide +kernel
theorem dX6_changeDate_0 : decode cX6_changeDate 0 = .ok (.iload_n 1, 1) := by decide +kernel
theorem dX6_changeDate_1 : decode cX6_changeDate 1 = .ok (.invokestatic 118, 3) := by decide +kernel
theorem dX6_changeDate_4 : decode cX6_changeDate 4 = .ok (.invokestatic 67, 3) := by decide +kernel
theorem dX6_changeDate_7 : decode cX6_changeDate 7 = .ok (.iload_n 2, 1) := by decide +kernel
theorem dX6_changeDate_8 : decode cX6_changeDate 8 = .ok (.iconst 0, 1) := by decide +kernel
theorem dX6_changeDate_9 : decode cX6_changeDate 9 = .ok (.sipush 999, 3) := by decide +kernel
theorem dX6_changeDate_12 : decode cX6_changeDate 12 = .ok (.invokestatic 40, 3) := by decide +kernel
theorem dX6_changeDate_15 : decode cX6_changeDate 15 = .ok (.invokestatic 44, 3) := by decide +kernel
theorem dX6_changeDate_18 : decode cX6_changeDate 18 = .ok (.aload_n 0, 1) := by decide +kernel
theorem dX6_changeDate_19 : decode cX6_changeDate 19 = .ok (.getfield 29, 3) := by decide +kernel
theorem dX6_changeDate_22 : decode cX6_changeDate 22 = .ok (.aload_n 0, 1) := by decide +kernel
theorem dX6_changeDate_23 : decode cX6_changeDate 23 = .ok (.getfield 12, 3) := by decide +kernel
theorem dX6_changeDate_26 : decode cX6_changeDate 26 = .ok (.invokevirtual 55, 3) := by decide +kernel
theorem dX6_changeDate_29 : decode cX6_changeDate 29 = .ok (.aload_n 0, 1) := by decide +kernel
theorem dX6_changeDate_30 : decode cX6_changeDate 30 = .ok (.getfield 12, 3) := by decide +kernel
theorem dX6_changeDate_33 : decode cX6_changeDate 33 = .ok (.iload_n 1, 1) := by decide +kernel
theorem dX6_changeDate_34 : decode cX6_changeDate 34 = .ok (.iload_n 2, 1) := by decide +kernel
theorem dX6_changeDate_35 : decode cX6_changeDate 35 = .ok (.invokevirtual 136, 3) := by decide +kernel
theorem dX6_changeDate_38 : decode cX6_changeDate 38 = .ok (.ireturn, 1) := by decide +kernel
theorem dX6_endDays_0 : decode cX6_endDays 0 = .ok (.iload_n 1, 1) := by decide +kernel
theorem dX6_endDays_1 : decode cX6_endDays 1 = .ok (.iconst 1, 1) := by decide +kernel
theorem dX6_endDays_2 : decode cX6_endDays 2 = .ok (.bipush 30, 2) := by decide +kernel
theorem dX6_endDays_4 : decode cX6_endDays 4 = .ok (.invokestatic 40, 3) := by decide +kernel
theorem dX6_endDays_7 : decode cX6_endDays 7 = .ok (.invokestatic 44, 3) := by decide +kernel
theorem dX6_endDays_10 : decode cX6_endDays 10 = .ok (.aload_n 0, 1) := by decide +kernel
theorem dX6_endDays_11 : decode cX6_endDays 11 = .ok (.getfield 12, 3) := by decide +kernel
theorem dX6_endDays_14 : decode cX6_endDays 14 = .ok (.iload_n 1, 1) := by decide +kernel
theorem dX6_endDays_15 : decode cX6_endDays 15 = .ok (.invokevirtual 139, 3) := by decide +kernel
theorem dX6_endDays_18 : decode cX6_endDays 18 = .ok (.invokestatic 52, 3) := by decide +kernel
theorem dX6_endDays_21 : decode cX6_endDays 21 = .ok (.aload_n 0, 1) := by decide +kernel
theorem dX6_endDays_22 : decode cX6_endDays 22 = .ok (.getfield 29, 3) := by decide +kernel
theorem dX6_endDays_25 : decode cX6_endDays 25 = .ok (.aload_n 0, 1) := by decide +kernel
theorem dX6_endDays_26 : decode cX6_endDays 26 = .ok (.getfield 12, 3) := by decide +kernel
theorem dX6_endDays_29 : decode cX6_endDays 29 = .ok (.invokevirtual 55, 3) := by decide +kernel
theorem dX6_endDays_32 : decode cX6_endDays 32 = .ok (.aload_n 0, 1) := by decide +kernel
theorem dX6_endDays_33 : decode cX6_endDays 33 = .ok (.getfield 12, 3) := by decide +kernel
theorem dX6_endDays_36 : decode cX6_endDays 36 = .ok (.iload_n 1, 1) := by decide +kernel
theorem dX6_endDays_37 : decode cX6_endDays 37 = .ok (.invokevirtual 142, 3) := by decide +kernel
theorem dX6_endDays_40 : decode cX6_endDays 40 = .ok (.ireturn, 1) := by decide +kernel
theorem dX6_start_0 : decode cX6_start 0 = .ok (.aload_n 0, 1) := by decide +kernel
theorem dX6_start_1 : decode cX6_start 1 = .ok (.getfield 12, 3) := by decide +kernel
theorem dX6_start_4 : decode cX6_start 4 = .ok (.iload_n 1, 1) := by decide +kernel
theorem dX6_start_5 : decode cX6_start 5 = .ok (.invokevirtual 63, 3) := by decide +kernel
theorem dX6_start_8 : decode cX6_start 8 = .ok (.invokestatic 67, 3) := by decide +kernel
theorem dX6_start_11 : decode cX6_start 11 = .ok (.aload_n 0, 1) := by decide +kernel
theorem dX6_start_12 : decode cX6_start 12 = .ok (.getfield 12, 3) := by decide +kernel
theorem dX6_start_15 : decode cX6_start 15 = .ok (.iload_n 1, 1) := by decide +kernel
theorem dX6_start_16 : decode cX6_start 16 = .ok (.invokevirtual 145, 3) := by decide +kernel
theorem dX6_start_19 : decode cX6_start 19 = .ok (.invokestatic 52, 3) := by decide +kernel
theorem dX6_start_22 : decode cX6_start 22 = .ok (.aload_n 0, 1) := by decide +kernel
theorem dX6_start_23 : decode cX6_start 23 = .ok (.getfield 29, 3) := by decide +kernel
theorem dX6_start_26 : decode cX6_start 26 = .ok (.aload_n 0, 1) := by decide +kernel
theorem dX6_start_27 : decode cX6_start 27 = .ok (.getfield 12, 3) := by decide +kernel
theorem dX6_start_30 : decode cX6_start 30 = .ok (.invokevirtual 55, 3) := by decide +kernel
theorem dX6_start_33 : decode cX6_start 33 = .ok (.aload_n 0, 1) := by decide +kernel
theorem dX6_start_34 : decode cX6_start 34 = .ok (.getfield 12, 3) := by decide +kernel
theorem dX6_start_37 : decode cX6_start 37 = .ok (.getfield 105, 3) := by decide +kernel
theorem dX6_start_40 : decode cX6_start 40 = .ok (.iload_n 1, 1) := by decide +kernel
theorem dX6_start_41 : decode cX6_start 41 = .ok (.iconst 1, 1) := by decide +kernel
theorem dX6_start_42 : decode cX6_start 42 = .ok (.iastore, 1) := by decide +kernel
theorem dX6_start_43 : decode cX6_start 43 = .ok (.return_, 1) := by decide +kernel
theorem dX6_submit_0 : decode cX6_submit 0 = .ok (.aload_n 0, 1) := by decide +kernel
theorem dX6_submit_1 : decode cX6_submit 1 = .ok (.getfield 12, 3) := by decide +kernel
theorem dX6_submit_4 : decode cX6_submit 4 = .ok (.iload_n 1, 1) := by decide +kernel
theorem dX6_submit_5 : decode cX6_submit 5 = .ok (.invokevirtual 63, 3) := by decide +kernel
theorem dX6_submit_8 : decode cX6_submit 8 = .ok (.invokestatic 67, 3) := by decide +kernel
theorem dX6_submit_11 : decode cX6_submit 11 = .ok (.aload_n 0, 1) := by decide +kernel
theorem dX6_submit_12 : decode cX6_submit 12 = .ok (.getfield 12, 3) := by decide +kernel
theorem dX6_submit_15 : decode cX6_submit 15 = .ok (.getfield 105, 3) := by decide +kernel
theorem dX6_submit_18 : decode cX6_submit 18 = .ok (.iload_n 1, 1) := by decide +kernel
theorem dX6_submit_19 : decode cX6_submit 19 = .ok (.iaload, 1) := by decide +kernel
theorem dX6_submit_20 : decode cX6_submit 20 = .ok (.iconst 1, 1) := by decide +kernel
theorem dX6_submit_21 : decode cX6_submit 21 = .ok (.if_icmp .ne 7, 3) := by decide +kernel
theorem dX6_submit_24 : decode cX6_submit 24 = .ok (.iconst 1, 1) := by decide +kernel
theorem dX6_submit_25 : decode cX6_submit 25 = .ok (.goto 4, 3) := by decide +kernel
theorem dX6_submit_28 : decode cX6_submit 28 = .ok (.iconst 0, 1) := by decide +kernel
theorem dX6_submit_29 : decode cX6_submit 29 = .ok (.invokestatic 52, 3) := by decide +kernel
theorem dX6_submit_32 : decode cX6_submit 32 = .ok (.aload_n 0, 1) := by decide +kernel
theorem dX6_submit_33 : decode cX6_submit 33 = .ok (.getfield 29, 3) := by decide +kernel
theorem dX6_submit_36 : decode cX6_submit 36 = .ok (.aload_n 0, 1) := by decide +kernel
theorem dX6_submit_37 : decode cX6_submit 37 = .ok (.getfield 12, 3) := by decide +kernel
theorem dX6_submit_40 : decode cX6_submit 40 = .ok (.invokevirtual 55, 3) := by decide +kernel
theorem dX6_submit_43 : decode cX6_submit 43 = .ok (.aload_n 0, 1) := by decide +kernel
theorem dX6_submit_44 : decode cX6_submit 44 = .ok (.getfield 12, 3) := by decide +kernel
theorem dX6_submit_47 : decode cX6_submit 47 = .ok (.getfield 105, 3) := by decide +kernel
theorem dX6_submit_50 : decode cX6_submit 50 = .ok (.iload_n 1, 1) := by decide +kernel
theorem dX6_submit_51 : decode cX6_submit 51 = .ok (.iconst 2, 1) := by decide +kernel
theorem dX6_submit_52 : decode cX6_submit 52 = .ok (.iastore, 1) := by decide +kernel
theorem dX6_submit_53 : decode cX6_submit 53 = .ok (.return_, 1) := by decide +kernel
theorem dX6_sendBack_0 : decode cX6_sendBack 0 = .ok (.aload_n 0, 1) := by decide +kernel
theorem dX6_sendBack_1 : decode cX6_sendBack 1 = .ok (.getfield 12, 3) := by decide +kernel
theorem dX6_sendBack_4 : decode cX6_sendBack 4 = .ok (.iload_n 1, 1) := by decide +kernel
theorem dX6_sendBack_5 : decode cX6_sendBack 5 = .ok (.invokevirtual 63, 3) := by decide +kernel
theorem dX6_sendBack_8 : decode cX6_sendBack 8 = .ok (.invokestatic 67, 3) := by decide +kernel
theorem dX6_sendBack_11 : decode cX6_sendBack 11 = .ok (.aload_n 0, 1) := by decide +kernel
theorem dX6_sendBack_12 : decode cX6_sendBack 12 = .ok (.getfield 12, 3) := by decide +kernel
theorem dX6_sendBack_15 : decode cX6_sendBack 15 = .ok (.getfield 105, 3) := by decide +kernel
theorem dX6_sendBack_18 : decode cX6_sendBack 18 = .ok (.iload_n 1, 1) := by decide +kernel
theorem dX6_sendBack_19 : decode cX6_sendBack 19 = .ok (.iaload, 1) := by decide +kernel
theorem dX6_sendBack_20 : decode cX6_sendBack 20 = .ok (.iconst 2, 1) := by decide +kernel
theorem dX6_sendBack_21 : decode cX6_sendBack 21 = .ok (.if_icmp .ne 7, 3) := by decide +kernel
theorem dX6_sendBack_24 : decode cX6_sendBack 24 = .ok (.iconst 1, 1) := by decide +kernel
theorem dX6_sendBack_25 : decode cX6_sendBack 25 = .ok (.goto 4, 3) := by decide +kernel
theorem dX6_sendBack_28 : decode cX6_sendBack 28 = .ok (.iconst 0, 1) := by decide +kernel
theorem dX6_sendBack_29 : decode cX6_sendBack 29 = .ok (.invokestatic 52, 3) := by decide +kernel
theorem dX6_sendBack_32 : decode cX6_sendBack 32 = .ok (.aload_n 0, 1) := by decide +kernel
theorem dX6_sendBack_33 : decode cX6_sendBack 33 = .ok (.getfield 29, 3) := by decide +kernel
theorem dX6_sendBack_36 : decode cX6_sendBack 36 = .ok (.aload_n 0, 1) := by decide +kernel
theorem dX6_sendBack_37 : decode cX6_sendBack 37 = .ok (.getfield 12, 3) := by decide +kernel
theorem dX6_sendBack_40 : decode cX6_sendBack 40 = .ok (.invokevirtual 55, 3) := by decide +kernel
theorem dX6_sendBack_43 : decode cX6_sendBack 43 = .ok (.aload_n 0, 1) := by decide +kernel
theorem dX6_sendBack_44 : decode cX6_sendBack 44 = .ok (.getfield 12, 3) := by decide +kernel
theorem dX6_sendBack_47 : decode cX6_sendBack 47 = .ok (.iload_n 1, 1) := by decide +kernel
theorem dX6_sendBack_48 : decode cX6_sendBack 48 = .ok (.invokevirtual 148, 3) := by decide +kernel
theorem dX6_sendBack_51 : decode cX6_sendBack 51 = .ok (.ireturn, 1) := by decide +kernel
theorem dX6_close_0 : decode cX6_close 0 = .ok (.aload_n 0, 1) := by decide +kernel
theorem dX6_close_1 : decode cX6_close 1 = .ok (.getfield 12, 3) := by decide +kernel
theorem dX6_close_4 : decode cX6_close 4 = .ok (.iload_n 1, 1) := by decide +kernel
theorem dX6_close_5 : decode cX6_close 5 = .ok (.invokevirtual 63, 3) := by decide +kernel
theorem dX6_close_8 : decode cX6_close 8 = .ok (.invokestatic 67, 3) := by decide +kernel
theorem dX6_close_11 : decode cX6_close 11 = .ok (.aload_n 0, 1) := by decide +kernel
theorem dX6_close_12 : decode cX6_close 12 = .ok (.getfield 12, 3) := by decide +kernel
theorem dX6_close_15 : decode cX6_close 15 = .ok (.iload_n 1, 1) := by decide +kernel
theorem dX6_close_16 : decode cX6_close 16 = .ok (.invokevirtual 151, 3) := by decide +kernel
theorem dX6_close_19 : decode cX6_close 19 = .ok (.invokestatic 52, 3) := by decide +kernel
theorem dX6_close_22 : decode cX6_close 22 = .ok (.aload_n 0, 1) := by decide +kernel
theorem dX6_close_23 : decode cX6_close 23 = .ok (.getfield 29, 3) := by decide +kernel
theorem dX6_close_26 : decode cX6_close 26 = .ok (.aload_n 0, 1) := by decide +kernel
theorem dX6_close_27 : decode cX6_close 27 = .ok (.getfield 12, 3) := by decide +kernel
theorem dX6_close_30 : decode cX6_close 30 = .ok (.invokevirtual 55, 3) := by decide +kernel
theorem dX6_close_33 : decode cX6_close 33 = .ok (.aload_n 0, 1) := by decide +kernel
theorem dX6_close_34 : decode cX6_close 34 = .ok (.getfield 12, 3) := by decide +kernel
theorem dX6_close_37 : decode cX6_close 37 = .ok (.invokevirtual 154, 3) := by decide +kernel
theorem dX6_close_40 : decode cX6_close 40 = .ok (.istore_n 2, 1) := by decide +kernel
theorem dX6_close_41 : decode cX6_close 41 = .ok (.aload_n 0, 1) := by decide +kernel
theorem dX6_close_42 : decode cX6_close 42 = .ok (.getfield 12, 3) := by decide +kernel
theorem dX6_close_45 : decode cX6_close 45 = .ok (.iload_n 1, 1) := by decide +kernel
theorem dX6_close_46 : decode cX6_close 46 = .ok (.invokevirtual 158, 3) := by decide +kernel
theorem dX6_close_49 : decode cX6_close 49 = .ok (.iload_n 2, 1) := by decide +kernel
theorem dX6_close_50 : decode cX6_close 50 = .ok (.aload_n 0, 1) := by decide +kernel
theorem dX6_close_51 : decode cX6_close 51 = .ok (.getfield 12, 3) := by decide +kernel
theorem dX6_close_54 : decode cX6_close 54 = .ok (.invokevirtual 154, 3) := by decide +kernel
theorem dX6_close_57 : decode cX6_close 57 = .ok (.iconst (-1), 1) := by decide +kernel
theorem dX6_close_58 : decode cX6_close 58 = .ok (.ixor, 1) := by decide +kernel
theorem dX6_close_59 : decode cX6_close 59 = .ok (.iand, 1) := by decide +kernel
theorem dX6_close_60 : decode cX6_close 60 = .ok (.invokestatic 162, 3) := by decide +kernel
theorem dX6_close_63 : decode cX6_close 63 = .ok (.ireturn, 1) := by decide +kernel
theorem dX6_reopen_0 : decode cX6_reopen 0 = .ok (.aload_n 0, 1) := by decide +kernel
theorem dX6_reopen_1 : decode cX6_reopen 1 = .ok (.getfield 12, 3) := by decide +kernel
theorem dX6_reopen_4 : decode cX6_reopen 4 = .ok (.iload_n 1, 1) := by decide +kernel
theorem dX6_reopen_5 : decode cX6_reopen 5 = .ok (.invokevirtual 63, 3) := by decide +kernel
theorem dX6_reopen_8 : decode cX6_reopen 8 = .ok (.invokestatic 67, 3) := by decide +kernel
theorem dX6_reopen_11 : decode cX6_reopen 11 = .ok (.aload_n 0, 1) := by decide +kernel
theorem dX6_reopen_12 : decode cX6_reopen 12 = .ok (.getfield 12, 3) := by decide +kernel
theorem dX6_reopen_15 : decode cX6_reopen 15 = .ok (.iload_n 1, 1) := by decide +kernel
theorem dX6_reopen_16 : decode cX6_reopen 16 = .ok (.invokevirtual 167, 3) := by decide +kernel
theorem dX6_reopen_19 : decode cX6_reopen 19 = .ok (.invokestatic 52, 3) := by decide +kernel
theorem dX6_reopen_22 : decode cX6_reopen 22 = .ok (.aload_n 0, 1) := by decide +kernel
theorem dX6_reopen_23 : decode cX6_reopen 23 = .ok (.getfield 29, 3) := by decide +kernel
theorem dX6_reopen_26 : decode cX6_reopen 26 = .ok (.aload_n 0, 1) := by decide +kernel
theorem dX6_reopen_27 : decode cX6_reopen 27 = .ok (.getfield 12, 3) := by decide +kernel
theorem dX6_reopen_30 : decode cX6_reopen 30 = .ok (.invokevirtual 55, 3) := by decide +kernel
theorem dX6_reopen_33 : decode cX6_reopen 33 = .ok (.aload_n 0, 1) := by decide +kernel
theorem dX6_reopen_34 : decode cX6_reopen 34 = .ok (.getfield 12, 3) := by decide +kernel
theorem dX6_reopen_37 : decode cX6_reopen 37 = .ok (.invokevirtual 154, 3) := by decide +kernel
theorem dX6_reopen_40 : decode cX6_reopen 40 = .ok (.istore_n 2, 1) := by decide +kernel
theorem dX6_reopen_41 : decode cX6_reopen 41 = .ok (.aload_n 0, 1) := by decide +kernel
theorem dX6_reopen_42 : decode cX6_reopen 42 = .ok (.getfield 12, 3) := by decide +kernel
theorem dX6_reopen_45 : decode cX6_reopen 45 = .ok (.iload_n 1, 1) := by decide +kernel
theorem dX6_reopen_46 : decode cX6_reopen 46 = .ok (.invokevirtual 170, 3) := by decide +kernel
theorem dX6_reopen_49 : decode cX6_reopen 49 = .ok (.aload_n 0, 1) := by decide +kernel
theorem dX6_reopen_50 : decode cX6_reopen 50 = .ok (.getfield 12, 3) := by decide +kernel
theorem dX6_reopen_53 : decode cX6_reopen 53 = .ok (.invokevirtual 154, 3) := by decide +kernel
theorem dX6_reopen_56 : decode cX6_reopen 56 = .ok (.iload_n 2, 1) := by decide +kernel
theorem dX6_reopen_57 : decode cX6_reopen 57 = .ok (.iconst (-1), 1) := by decide +kernel
theorem dX6_reopen_58 : decode cX6_reopen 58 = .ok (.ixor, 1) := by decide +kernel
theorem dX6_reopen_59 : decode cX6_reopen 59 = .ok (.iand, 1) := by decide +kernel
theorem dX6_reopen_60 : decode cX6_reopen 60 = .ok (.invokestatic 162, 3) := by decide +kernel
theorem dX6_reopen_63 : decode cX6_reopen 63 = .ok (.ireturn, 1) := by decide +kernel
theorem dX6_drop_0 : decode cX6_drop 0 = .ok (.aload_n 0, 1) := by decide +kernel
theorem dX6_drop_1 : decode cX6_drop 1 = .ok (.getfield 12, 3) := by decide +kernel
theorem dX6_drop_4 : decode cX6_drop 4 = .ok (.iload_n 1, 1) := by decide +kernel
theorem dX6_drop_5 : decode cX6_drop 5 = .ok (.invokevirtual 63, 3) := by decide +kernel
theorem dX6_drop_8 : decode cX6_drop 8 = .ok (.invokestatic 67, 3) := by decide +kernel
theorem dX6_drop_11 : decode cX6_drop 11 = .ok (.aload_n 0, 1) := by decide +kernel
theorem dX6_drop_12 : decode cX6_drop 12 = .ok (.getfield 12, 3) := by decide +kernel
theorem dX6_drop_15 : decode cX6_drop 15 = .ok (.iload_n 1, 1) := by decide +kernel
theorem dX6_drop_16 : decode cX6_drop 16 = .ok (.invokevirtual 121, 3) := by decide +kernel
theorem dX6_drop_19 : decode cX6_drop 19 = .ok (.invokestatic 52, 3) := by decide +kernel
theorem dX6_drop_22 : decode cX6_drop 22 = .ok (.aload_n 0, 1) := by decide +kernel
theorem dX6_drop_23 : decode cX6_drop 23 = .ok (.getfield 29, 3) := by decide +kernel
theorem dX6_drop_26 : decode cX6_drop 26 = .ok (.aload_n 0, 1) := by decide +kernel
theorem dX6_drop_27 : decode cX6_drop 27 = .ok (.getfield 12, 3) := by decide +kernel
theorem dX6_drop_30 : decode cX6_drop 30 = .ok (.invokevirtual 55, 3) := by decide +kernel
theorem dX6_drop_33 : decode cX6_drop 33 = .ok (.aload_n 0, 1) := by decide +kernel
theorem dX6_drop_34 : decode cX6_drop 34 = .ok (.getfield 12, 3) := by decide +kernel
theorem dX6_drop_37 : decode cX6_drop 37 = .ok (.invokevirtual 154, 3) := by decide +kernel
theorem dX6_drop_40 : decode cX6_drop 40 = .ok (.istore_n 2, 1) := by decide +kernel
theorem dX6_drop_41 : decode cX6_drop 41 = .ok (.aload_n 0, 1) := by decide +kernel
theorem dX6_drop_42 : decode cX6_drop 42 = .ok (.getfield 12, 3) := by decide +kernel
theorem dX6_drop_45 : decode cX6_drop 45 = .ok (.iload_n 1, 1) := by decide +kernel
theorem dX6_drop_46 : decode cX6_drop 46 = .ok (.iconst 4, 1) := by decide +kernel
theorem dX6_drop_47 : decode cX6_drop 47 = .ok (.invokevirtual 173, 3) := by decide +kernel
theorem dX6_drop_50 : decode cX6_drop 50 = .ok (.iload_n 2, 1) := by decide +kernel
theorem dX6_drop_51 : decode cX6_drop 51 = .ok (.aload_n 0, 1) := by decide +kernel
theorem dX6_drop_52 : decode cX6_drop 52 = .ok (.getfield 12, 3) := by decide +kernel
theorem dX6_drop_55 : decode cX6_drop 55 = .ok (.invokevirtual 154, 3) := by decide +kernel
theorem dX6_drop_58 : decode cX6_drop 58 = .ok (.iconst (-1), 1) := by decide +kernel
theorem dX6_drop_59 : decode cX6_drop 59 = .ok (.ixor, 1) := by decide +kernel
theorem dX6_drop_60 : decode cX6_drop 60 = .ok (.iand, 1) := by decide +kernel
theorem dX6_drop_61 : decode cX6_drop 61 = .ok (.invokestatic 162, 3) := by decide +kernel
theorem dX6_drop_64 : decode cX6_drop 64 = .ok (.ireturn, 1) := by decide +kernel
theorem dX6_append_0 : decode cX6_append 0 = .ok (.iload_n 1, 1) := by decide +kernel
theorem dX6_append_1 : decode cX6_append 1 = .ok (.bipush 33, 2) := by decide +kernel
theorem dX6_append_3 : decode cX6_append 3 = .ok (.bipush 126, 2) := by decide +kernel
theorem dX6_append_5 : decode cX6_append 5 = .ok (.invokestatic 40, 3) := by decide +kernel
theorem dX6_append_8 : decode cX6_append 8 = .ok (.invokestatic 44, 3) := by decide +kernel
theorem dX6_append_11 : decode cX6_append 11 = .ok (.aload_n 0, 1) := by decide +kernel
theorem dX6_append_12 : decode cX6_append 12 = .ok (.getfield 36, 3) := by decide +kernel
theorem dX6_append_15 : decode cX6_append 15 = .ok (.invokevirtual 177, 3) := by decide +kernel
theorem dX6_append_18 : decode cX6_append 18 = .ok (.invokestatic 52, 3) := by decide +kernel
theorem dX6_append_21 : decode cX6_append 21 = .ok (.aload_n 0, 1) := by decide +kernel
theorem dX6_append_22 : decode cX6_append 22 = .ok (.getfield 36, 3) := by decide +kernel
theorem dX6_append_25 : decode cX6_append 25 = .ok (.iload_n 1, 1) := by decide +kernel
theorem dX6_append_26 : decode cX6_append 26 = .ok (.i2c, 1) := by decide +kernel
theorem dX6_append_27 : decode cX6_append 27 = .ok (.invokevirtual 178, 3) := by decide +kernel
theorem dX6_append_30 : decode cX6_append 30 = .ok (.ireturn, 1) := by decide +kernel
theorem dX6_clearBuffer_0 : decode cX6_clearBuffer 0 = .ok (.aload_n 0, 1) := by decide +kernel
theorem dX6_clearBuffer_1 : decode cX6_clearBuffer 1 = .ok (.getfield 36, 3) := by decide +kernel
theorem dX6_clearBuffer_4 : decode cX6_clearBuffer 4 = .ok (.invokevirtual 182, 3) := by decide +kernel
theorem dX6_clearBuffer_7 : decode cX6_clearBuffer 7 = .ok (.ireturn, 1) := by decide +kernel
theorem dX6_firstError_0 : decode cX6_firstError 0 = .ok (.aload_n 0, 1) := by decide +kernel
theorem dX6_firstError_1 : decode cX6_firstError 1 = .ok (.getfield 36, 3) := by decide +kernel
theorem dX6_firstError_4 : decode cX6_firstError 4 = .ok (.invokevirtual 185, 3) := by decide +kernel
theorem dX6_firstError_7 : decode cX6_firstError 7 = .ok (.ireturn, 1) := by decide +kernel
theorem dX6_follow_0 : decode cX6_follow 0 = .ok (.aload_n 0, 1) := by decide +kernel
theorem dX6_follow_1 : decode cX6_follow 1 = .ok (.getfield 36, 3) := by decide +kernel
theorem dX6_follow_4 : decode cX6_follow 4 = .ok (.invokevirtual 188, 3) := by decide +kernel
theorem dX6_follow_7 : decode cX6_follow 7 = .ok (.invokestatic 44, 3) := by decide +kernel
theorem dX6_follow_10 : decode cX6_follow 10 = .ok (.aload_n 0, 1) := by decide +kernel
theorem dX6_follow_11 : decode cX6_follow 11 = .ok (.getfield 16, 3) := by decide +kernel
theorem dX6_follow_14 : decode cX6_follow 14 = .ok (.aload_n 0, 1) := by decide +kernel
theorem dX6_follow_15 : decode cX6_follow 15 = .ok (.getfield 12, 3) := by decide +kernel
theorem dX6_follow_18 : decode cX6_follow 18 = .ok (.invokevirtual 191, 3) := by decide +kernel
theorem dX6_follow_21 : decode cX6_follow 21 = .ok (.aload_n 0, 1) := by decide +kernel
theorem dX6_follow_22 : decode cX6_follow 22 = .ok (.getfield 36, 3) := by decide +kernel
theorem dX6_follow_25 : decode cX6_follow 25 = .ok (.aload_n 0, 1) := by decide +kernel
theorem dX6_follow_26 : decode cX6_follow 26 = .ok (.getfield 16, 3) := by decide +kernel
theorem dX6_follow_29 : decode cX6_follow 29 = .ok (.invokevirtual 194, 3) := by decide +kernel
theorem dX6_follow_32 : decode cX6_follow 32 = .ok (.iconst (-1), 1) := by decide +kernel
theorem dX6_follow_33 : decode cX6_follow 33 = .ok (.if_icmp .ne 7, 3) := by decide +kernel
theorem dX6_follow_36 : decode cX6_follow 36 = .ok (.iconst 1, 1) := by decide +kernel
theorem dX6_follow_37 : decode cX6_follow 37 = .ok (.goto 4, 3) := by decide +kernel
theorem dX6_follow_40 : decode cX6_follow 40 = .ok (.iconst 0, 1) := by decide +kernel
theorem dX6_follow_41 : decode cX6_follow 41 = .ok (.invokestatic 52, 3) := by decide +kernel
theorem dX6_follow_44 : decode cX6_follow 44 = .ok (.aload_n 0, 1) := by decide +kernel
theorem dX6_follow_45 : decode cX6_follow 45 = .ok (.getfield 29, 3) := by decide +kernel
theorem dX6_follow_48 : decode cX6_follow 48 = .ok (.aload_n 0, 1) := by decide +kernel
theorem dX6_follow_49 : decode cX6_follow 49 = .ok (.getfield 12, 3) := by decide +kernel
theorem dX6_follow_52 : decode cX6_follow 52 = .ok (.invokevirtual 55, 3) := by decide +kernel
theorem dX6_follow_55 : decode cX6_follow 55 = .ok (.aload_n 0, 1) := by decide +kernel
theorem dX6_follow_56 : decode cX6_follow 56 = .ok (.getfield 12, 3) := by decide +kernel
theorem dX6_follow_59 : decode cX6_follow 59 = .ok (.getfield 198, 3) := by decide +kernel
theorem dX6_follow_62 : decode cX6_follow 62 = .ok (.istore_n 1, 1) := by decide +kernel
theorem dX6_follow_63 : decode cX6_follow 63 = .ok (.aload_n 0, 1) := by decide +kernel
theorem dX6_follow_64 : decode cX6_follow 64 = .ok (.getfield 12, 3) := by decide +kernel
theorem dX6_follow_67 : decode cX6_follow 67 = .ok (.aload_n 0, 1) := by decide +kernel
theorem dX6_follow_68 : decode cX6_follow 68 = .ok (.getfield 16, 3) := by decide +kernel
theorem dX6_follow_71 : decode cX6_follow 71 = .ok (.invokevirtual 191, 3) := by decide +kernel
theorem dX6_follow_74 : decode cX6_follow 74 = .ok (.aload_n 0, 1) := by decide +kernel
theorem dX6_follow_75 : decode cX6_follow 75 = .ok (.getfield 36, 3) := by decide +kernel
theorem dX6_follow_78 : decode cX6_follow 78 = .ok (.invokevirtual 182, 3) := by decide +kernel
theorem dX6_follow_81 : decode cX6_follow 81 = .ok (.pop, 1) := by decide +kernel
theorem dX6_follow_82 : decode cX6_follow 82 = .ok (.aload_n 0, 1) := by decide +kernel
theorem dX6_follow_83 : decode cX6_follow 83 = .ok (.getfield 12, 3) := by decide +kernel
theorem dX6_follow_86 : decode cX6_follow 86 = .ok (.getfield 198, 3) := by decide +kernel
theorem dX6_follow_89 : decode cX6_follow 89 = .ok (.iload_n 1, 1) := by decide +kernel
theorem dX6_follow_90 : decode cX6_follow 90 = .ok (.isub, 1) := by decide +kernel
theorem dX6_follow_91 : decode cX6_follow 91 = .ok (.ireturn, 1) := by decide +kernel
theorem dX6_impossibleOrder_0 : decode cX6_impossibleOrder 0 = .ok (.aload_n 0, 1) := by decide +kernel
theorem dX6_impossibleOrder_1 : decode cX6_impossibleOrder 1 = .ok (.getfield 36, 3) := by decide +kernel
theorem dX6_impossibleOrder_4 : decode cX6_impossibleOrder 4 = .ok (.invokevirtual 188, 3) := by decide +kernel
theorem dX6_impossibleOrder_7 : decode cX6_impossibleOrder 7 = .ok (.invokestatic 44, 3) := by decide +kernel
theorem dX6_impossibleOrder_10 : decode cX6_impossibleOrder 10 = .ok (.aload_n 0, 1) := by decide +kernel
theorem dX6_impossibleOrder_11 : decode cX6_impossibleOrder 11 = .ok (.getfield 16, 3) := by decide +kernel
theorem dX6_impossibleOrder_14 : decode cX6_impossibleOrder 14 = .ok (.aload_n 0, 1) := by decide +kernel
theorem dX6_impossibleOrder_15 : decode cX6_impossibleOrder 15 = .ok (.getfield 12, 3) := by decide +kernel
theorem dX6_impossibleOrder_18 : decode cX6_impossibleOrder 18 = .ok (.invokevirtual 191, 3) := by decide +kernel
theorem dX6_impossibleOrder_21 : decode cX6_impossibleOrder 21 = .ok (.aload_n 0, 1) := by decide +kernel
theorem dX6_impossibleOrder_22 : decode cX6_impossibleOrder 22 = .ok (.getfield 36, 3) := by decide +kernel
theorem dX6_impossibleOrder_25 : decode cX6_impossibleOrder 25 = .ok (.aload_n 0, 1) := by decide +kernel
theorem dX6_impossibleOrder_26 : decode cX6_impossibleOrder 26 = .ok (.getfield 16, 3) := by decide +kernel
theorem dX6_impossibleOrder_29 : decode cX6_impossibleOrder 29 = .ok (.invokevirtual 194, 3) := by decide +kernel
theorem dX6_impossibleOrder_32 : decode cX6_impossibleOrder 32 = .ok (.istore_n 1, 1) := by decide +kernel
theorem dX6_impossibleOrder_33 : decode cX6_impossibleOrder 33 = .ok (.iload_n 1, 1) := by decide +kernel
theorem dX6_impossibleOrder_34 : decode cX6_impossibleOrder 34 = .ok (.iconst (-1), 1) := by decide +kernel
theorem dX6_impossibleOrder_35 : decode cX6_impossibleOrder 35 = .ok (.if_icmp .eq 7, 3) := by decide +kernel
theorem dX6_impossibleOrder_38 : decode cX6_impossibleOrder 38 = .ok (.iconst 1, 1) := by decide +kernel
theorem dX6_impossibleOrder_39 : decode cX6_impossibleOrder 39 = .ok (.goto 4, 3) := by decide +kernel
theorem dX6_impossibleOrder_42 : decode cX6_impossibleOrder 42 = .ok (.iconst 0, 1) := by decide +kernel
theorem dX6_impossibleOrder_43 : decode cX6_impossibleOrder 43 = .ok (.invokestatic 52, 3) := by decide +kernel
theorem dX6_impossibleOrder_46 : decode cX6_impossibleOrder 46 = .ok (.iload_n 1, 1) := by decide +kernel
theorem dX6_impossibleOrder_47 : decode cX6_impossibleOrder 47 = .ok (.ireturn, 1) := by decide +kernel
theorem dX6_keep_0 : decode cX6_keep 0 = .ok (.iload_n 1, 1) := by decide +kernel
theorem dX6_keep_1 : decode cX6_keep 1 = .ok (.invokestatic 202, 3) := by decide +kernel
theorem dX6_keep_4 : decode cX6_keep 4 = .ok (.invokestatic 44, 3) := by decide +kernel
theorem dX6_keep_7 : decode cX6_keep 7 = .ok (.aload_n 0, 1) := by decide +kernel
theorem dX6_keep_8 : decode cX6_keep 8 = .ok (.getfield 29, 3) := by decide +kernel
theorem dX6_keep_11 : decode cX6_keep 11 = .ok (.iload_n 1, 1) := by decide +kernel
theorem dX6_keep_12 : decode cX6_keep 12 = .ok (.aload_n 0, 1) := by decide +kernel
theorem dX6_keep_13 : decode cX6_keep 13 = .ok (.getfield 12, 3) := by decide +kernel
theorem dX6_keep_16 : decode cX6_keep 16 = .ok (.invokevirtual 205, 3) := by decide +kernel
theorem dX6_keep_19 : decode cX6_keep 19 = .ok (.return_, 1) := by decide +kernel
theorem dX6_goBack_0 : decode cX6_goBack 0 = .ok (.iload_n 1, 1) := by decide +kernel
theorem dX6_goBack_1 : decode cX6_goBack 1 = .ok (.invokestatic 202, 3) := by decide +kernel
theorem dX6_goBack_4 : decode cX6_goBack 4 = .ok (.invokestatic 44, 3) := by decide +kernel
theorem dX6_goBack_7 : decode cX6_goBack 7 = .ok (.aload_n 0, 1) := by decide +kernel
theorem dX6_goBack_8 : decode cX6_goBack 8 = .ok (.getfield 29, 3) := by decide +kernel
theorem dX6_goBack_11 : decode cX6_goBack 11 = .ok (.iload_n 1, 1) := by decide +kernel
theorem dX6_goBack_12 : decode cX6_goBack 12 = .ok (.invokevirtual 209, 3) := by decide +kernel
theorem dX6_goBack_15 : decode cX6_goBack 15 = .ok (.invokestatic 52, 3) := by decide +kernel
theorem dX6_goBack_18 : decode cX6_goBack 18 = .ok (.aload_n 0, 1) := by decide +kernel
theorem dX6_goBack_19 : decode cX6_goBack 19 = .ok (.getfield 29, 3) := by decide +kernel
theorem dX6_goBack_22 : decode cX6_goBack 22 = .ok (.aload_n 0, 1) := by decide +kernel
theorem dX6_goBack_23 : decode cX6_goBack 23 = .ok (.getfield 12, 3) := by decide +kernel
theorem dX6_goBack_26 : decode cX6_goBack 26 = .ok (.invokevirtual 55, 3) := by decide +kernel
theorem dX6_goBack_29 : decode cX6_goBack 29 = .ok (.aload_n 0, 1) := by decide +kernel
theorem dX6_goBack_30 : decode cX6_goBack 30 = .ok (.getfield 29, 3) := by decide +kernel
theorem dX6_goBack_33 : decode cX6_goBack 33 = .ok (.iload_n 1, 1) := by decide +kernel
theorem dX6_goBack_34 : decode cX6_goBack 34 = .ok (.aload_n 0, 1) := by decide +kernel
theorem dX6_goBack_35 : decode cX6_goBack 35 = .ok (.getfield 12, 3) := by decide +kernel
theorem dX6_goBack_38 : decode cX6_goBack 38 = .ok (.invokevirtual 212, 3) := by decide +kernel
theorem dX6_goBack_41 : decode cX6_goBack 41 = .ok (.return_, 1) := by decide +kernel
theorem dX6_undo_0 : decode cX6_undo 0 = .ok (.aload_n 0, 1) := by decide +kernel
theorem dX6_undo_1 : decode cX6_undo 1 = .ok (.getfield 29, 3) := by decide +kernel
theorem dX6_undo_4 : decode cX6_undo 4 = .ok (.invokevirtual 215, 3) := by decide +kernel
theorem dX6_undo_7 : decode cX6_undo 7 = .ok (.ifCond .le 7, 3) := by decide +kernel
theorem dX6_undo_10 : decode cX6_undo 10 = .ok (.iconst 1, 1) := by decide +kernel
theorem dX6_undo_11 : decode cX6_undo 11 = .ok (.goto 4, 3) := by decide +kernel
theorem dX6_undo_14 : decode cX6_undo 14 = .ok (.iconst 0, 1) := by decide +kernel
theorem dX6_undo_15 : decode cX6_undo 15 = .ok (.invokestatic 52, 3) := by decide +kernel
theorem dX6_undo_18 : decode cX6_undo 18 = .ok (.aload_n 0, 1) := by decide +kernel
theorem dX6_undo_19 : decode cX6_undo 19 = .ok (.getfield 29, 3) := by decide +kernel
theorem dX6_undo_22 : decode cX6_undo 22 = .ok (.aload_n 0, 1) := by decide +kernel
theorem dX6_undo_23 : decode cX6_undo 23 = .ok (.getfield 12, 3) := by decide +kernel
theorem dX6_undo_26 : decode cX6_undo 26 = .ok (.invokevirtual 218, 3) := by decide +kernel
theorem dX6_undo_29 : decode cX6_undo 29 = .ok (.return_, 1) := by decide +kernel
theorem dX6_savedStates_0 : decode cX6_savedStates 0 = .ok (.aload_n 0, 1) := by decide +kernel
theorem dX6_savedStates_1 : decode cX6_savedStates 1 = .ok (.getfield 29, 3) := by decide +kernel
theorem dX6_savedStates_4 : decode cX6_savedStates 4 = .ok (.invokevirtual 215, 3) := by decide +kernel
theorem dX6_savedStates_7 : decode cX6_savedStates 7 = .ok (.ireturn, 1) := by decide +kernel
theorem dX6_tickets_0 : decode cX6_tickets 0 = .ok (.aload_n 0, 1) := by decide +kernel
theorem dX6_tickets_1 : decode cX6_tickets 1 = .ok (.getfield 12, 3) := by decide +kernel
theorem dX6_tickets_4 : decode cX6_tickets 4 = .ok (.getfield 221, 3) := by decide +kernel
theorem dX6_tickets_7 : decode cX6_tickets 7 = .ok (.ireturn, 1) := by decide +kernel
theorem dX6_stateOf_0 : decode cX6_stateOf 0 = .ok (.aload_n 0, 1) := by decide +kernel
theorem dX6_stateOf_1 : decode cX6_stateOf 1 = .ok (.getfield 12, 3) := by decide +kernel
theorem dX6_stateOf_4 : decode cX6_stateOf 4 = .ok (.iload_n 1, 1) := by decide +kernel
theorem dX6_stateOf_5 : decode cX6_stateOf 5 = .ok (.invokevirtual 63, 3) := by decide +kernel
theorem dX6_stateOf_8 : decode cX6_stateOf 8 = .ok (.invokestatic 67, 3) := by decide +kernel
theorem dX6_stateOf_11 : decode cX6_stateOf 11 = .ok (.aload_n 0, 1) := by decide +kernel
theorem dX6_stateOf_12 : decode cX6_stateOf 12 = .ok (.getfield 12, 3) := by decide +kernel
theorem dX6_stateOf_15 : decode cX6_stateOf 15 = .ok (.getfield 105, 3) := by decide +kernel
theorem dX6_stateOf_18 : decode cX6_stateOf 18 = .ok (.iload_n 1, 1) := by decide +kernel
theorem dX6_stateOf_19 : decode cX6_stateOf 19 = .ok (.iaload, 1) := by decide +kernel
theorem dX6_stateOf_20 : decode cX6_stateOf 20 = .ok (.ireturn, 1) := by decide +kernel
theorem dX6_pointsOf_0 : decode cX6_pointsOf 0 = .ok (.aload_n 0, 1) := by decide +kernel
theorem dX6_pointsOf_1 : decode cX6_pointsOf 1 = .ok (.getfield 12, 3) := by decide +kernel
theorem dX6_pointsOf_4 : decode cX6_pointsOf 4 = .ok (.iload_n 1, 1) := by decide +kernel
theorem dX6_pointsOf_5 : decode cX6_pointsOf 5 = .ok (.invokevirtual 63, 3) := by decide +kernel
theorem dX6_pointsOf_8 : decode cX6_pointsOf 8 = .ok (.invokestatic 67, 3) := by decide +kernel
theorem dX6_pointsOf_11 : decode cX6_pointsOf 11 = .ok (.aload_n 0, 1) := by decide +kernel
theorem dX6_pointsOf_12 : decode cX6_pointsOf 12 = .ok (.getfield 12, 3) := by decide +kernel
theorem dX6_pointsOf_15 : decode cX6_pointsOf 15 = .ok (.getfield 224, 3) := by decide +kernel
theorem dX6_pointsOf_18 : decode cX6_pointsOf 18 = .ok (.iload_n 1, 1) := by decide +kernel
theorem dX6_pointsOf_19 : decode cX6_pointsOf 19 = .ok (.iaload, 1) := by decide +kernel
theorem dX6_pointsOf_20 : decode cX6_pointsOf 20 = .ok (.ireturn, 1) := by decide +kernel
theorem dX6_priorityOf_0 : decode cX6_priorityOf 0 = .ok (.aload_n 0, 1) := by decide +kernel
theorem dX6_priorityOf_1 : decode cX6_priorityOf 1 = .ok (.getfield 12, 3) := by decide +kernel
theorem dX6_priorityOf_4 : decode cX6_priorityOf 4 = .ok (.iload_n 1, 1) := by decide +kernel
theorem dX6_priorityOf_5 : decode cX6_priorityOf 5 = .ok (.invokevirtual 63, 3) := by decide +kernel
theorem dX6_priorityOf_8 : decode cX6_priorityOf 8 = .ok (.invokestatic 67, 3) := by decide +kernel
theorem dX6_priorityOf_11 : decode cX6_priorityOf 11 = .ok (.aload_n 0, 1) := by decide +kernel
theorem dX6_priorityOf_12 : decode cX6_priorityOf 12 = .ok (.getfield 12, 3) := by decide +kernel
theorem dX6_priorityOf_15 : decode cX6_priorityOf 15 = .ok (.getfield 227, 3) := by decide +kernel
theorem dX6_priorityOf_18 : decode cX6_priorityOf 18 = .ok (.iload_n 1, 1) := by decide +kernel
theorem dX6_priorityOf_19 : decode cX6_priorityOf 19 = .ok (.iaload, 1) := by decide +kernel
theorem dX6_priorityOf_20 : decode cX6_priorityOf 20 = .ok (.ireturn, 1) := by decide +kernel
theorem dX6_hasOwner_0 : decode cX6_hasOwner 0 = .ok (.aload_n 0, 1) := by decide +kernel
theorem dX6_hasOwner_1 : decode cX6_hasOwner 1 = .ok (.getfield 12, 3) := by decide +kernel
theorem dX6_hasOwner_4 : decode cX6_hasOwner 4 = .ok (.iload_n 1, 1) := by decide +kernel
theorem dX6_hasOwner_5 : decode cX6_hasOwner 5 = .ok (.invokevirtual 63, 3) := by decide +kernel
theorem dX6_hasOwner_8 : decode cX6_hasOwner 8 = .ok (.invokestatic 67, 3) := by decide +kernel
theorem dX6_hasOwner_11 : decode cX6_hasOwner 11 = .ok (.aload_n 0, 1) := by decide +kernel
theorem dX6_hasOwner_12 : decode cX6_hasOwner 12 = .ok (.getfield 12, 3) := by decide +kernel
theorem dX6_hasOwner_15 : decode cX6_hasOwner 15 = .ok (.getfield 101, 3) := by decide +kernel
theorem dX6_hasOwner_18 : decode cX6_hasOwner 18 = .ok (.iload_n 1, 1) := by decide +kernel
theorem dX6_hasOwner_19 : decode cX6_hasOwner 19 = .ok (.iaload, 1) := by decide +kernel
theorem dX6_hasOwner_20 : decode cX6_hasOwner 20 = .ok (.iconst (-1), 1) := by decide +kernel
theorem dX6_hasOwner_21 : decode cX6_hasOwner 21 = .ok (.if_icmp .eq 7, 3) := by decide +kernel
theorem dX6_hasOwner_24 : decode cX6_hasOwner 24 = .ok (.iconst 1, 1) := by decide +kernel
theorem dX6_hasOwner_25 : decode cX6_hasOwner 25 = .ok (.goto 4, 3) := by decide +kernel
theorem dX6_hasOwner_28 : decode cX6_hasOwner 28 = .ok (.iconst 0, 1) := by decide +kernel
theorem dX6_hasOwner_29 : decode cX6_hasOwner 29 = .ok (.ireturn, 1) := by decide +kernel
theorem dX6_ownerOf_0 : decode cX6_ownerOf 0 = .ok (.aload_n 0, 1) := by decide +kernel
theorem dX6_ownerOf_1 : decode cX6_ownerOf 1 = .ok (.getfield 12, 3) := by decide +kernel
theorem dX6_ownerOf_4 : decode cX6_ownerOf 4 = .ok (.iload_n 1, 1) := by decide +kernel
theorem dX6_ownerOf_5 : decode cX6_ownerOf 5 = .ok (.invokevirtual 63, 3) := by decide +kernel
theorem dX6_ownerOf_8 : decode cX6_ownerOf 8 = .ok (.invokestatic 67, 3) := by decide +kernel
theorem dX6_ownerOf_11 : decode cX6_ownerOf 11 = .ok (.aload_n 0, 1) := by decide +kernel
theorem dX6_ownerOf_12 : decode cX6_ownerOf 12 = .ok (.getfield 12, 3) := by decide +kernel
theorem dX6_ownerOf_15 : decode cX6_ownerOf 15 = .ok (.getfield 101, 3) := by decide +kernel
theorem dX6_ownerOf_18 : decode cX6_ownerOf 18 = .ok (.iload_n 1, 1) := by decide +kernel
theorem dX6_ownerOf_19 : decode cX6_ownerOf 19 = .ok (.iaload, 1) := by decide +kernel
theorem dX6_ownerOf_20 : decode cX6_ownerOf 20 = .ok (.iconst (-1), 1) := by decide +kernel
theorem dX6_ownerOf_21 : decode cX6_ownerOf 21 = .ok (.if_icmp .eq 7, 3) := by decide +kernel
theorem dX6_ownerOf_24 : decode cX6_ownerOf 24 = .ok (.iconst 1, 1) := by decide +kernel
theorem dX6_ownerOf_25 : decode cX6_ownerOf 25 = .ok (.goto 4, 3) := by decide +kernel
theorem dX6_ownerOf_28 : decode cX6_ownerOf 28 = .ok (.iconst 0, 1) := by decide +kernel
theorem dX6_ownerOf_29 : decode cX6_ownerOf 29 = .ok (.invokestatic 52, 3) := by decide +kernel
theorem dX6_ownerOf_32 : decode cX6_ownerOf 32 = .ok (.aload_n 0, 1) := by decide +kernel
theorem dX6_ownerOf_33 : decode cX6_ownerOf 33 = .ok (.getfield 12, 3) := by decide +kernel
theorem dX6_ownerOf_36 : decode cX6_ownerOf 36 = .ok (.getfield 101, 3) := by decide +kernel
theorem dX6_ownerOf_39 : decode cX6_ownerOf 39 = .ok (.iload_n 1, 1) := by decide +kernel
theorem dX6_ownerOf_40 : decode cX6_ownerOf 40 = .ok (.iaload, 1) := by decide +kernel
theorem dX6_ownerOf_41 : decode cX6_ownerOf 41 = .ok (.ireturn, 1) := by decide +kernel
theorem dX6_isPlanned_0 : decode cX6_isPlanned 0 = .ok (.aload_n 0, 1) := by decide +kernel
theorem dX6_isPlanned_1 : decode cX6_isPlanned 1 = .ok (.getfield 12, 3) := by decide +kernel
theorem dX6_isPlanned_4 : decode cX6_isPlanned 4 = .ok (.iload_n 1, 1) := by decide +kernel
theorem dX6_isPlanned_5 : decode cX6_isPlanned 5 = .ok (.invokevirtual 63, 3) := by decide +kernel
theorem dX6_isPlanned_8 : decode cX6_isPlanned 8 = .ok (.invokestatic 67, 3) := by decide +kernel
theorem dX6_isPlanned_11 : decode cX6_isPlanned 11 = .ok (.aload_n 0, 1) := by decide +kernel
theorem dX6_isPlanned_12 : decode cX6_isPlanned 12 = .ok (.getfield 12, 3) := by decide +kernel
theorem dX6_isPlanned_15 : decode cX6_isPlanned 15 = .ok (.getfield 124, 3) := by decide +kernel
theorem dX6_isPlanned_18 : decode cX6_isPlanned 18 = .ok (.iload_n 1, 1) := by decide +kernel
theorem dX6_isPlanned_19 : decode cX6_isPlanned 19 = .ok (.iaload, 1) := by decide +kernel
theorem dX6_isPlanned_20 : decode cX6_isPlanned 20 = .ok (.iconst (-1), 1) := by decide +kernel
theorem dX6_isPlanned_21 : decode cX6_isPlanned 21 = .ok (.if_icmp .eq 7, 3) := by decide +kernel
theorem dX6_isPlanned_24 : decode cX6_isPlanned 24 = .ok (.iconst 1, 1) := by decide +kernel
theorem dX6_isPlanned_25 : decode cX6_isPlanned 25 = .ok (.goto 4, 3) := by decide +kernel
theorem dX6_isPlanned_28 : decode cX6_isPlanned 28 = .ok (.iconst 0, 1) := by decide +kernel
theorem dX6_isPlanned_29 : decode cX6_isPlanned 29 = .ok (.ireturn, 1) := by decide +kernel
theorem dX6_milestoneOf_0 : decode cX6_milestoneOf 0 = .ok (.aload_n 0, 1) := by decide +kernel
theorem dX6_milestoneOf_1 : decode cX6_milestoneOf 1 = .ok (.getfield 12, 3) := by decide +kernel
theorem dX6_milestoneOf_4 : decode cX6_milestoneOf 4 = .ok (.iload_n 1, 1) := by decide +kernel
theorem dX6_milestoneOf_5 : decode cX6_milestoneOf 5 = .ok (.invokevirtual 63, 3) := by decide +kernel
theorem dX6_milestoneOf_8 : decode cX6_milestoneOf 8 = .ok (.invokestatic 67, 3) := by decide +kernel
theorem dX6_milestoneOf_11 : decode cX6_milestoneOf 11 = .ok (.aload_n 0, 1) := by decide +kernel
theorem dX6_milestoneOf_12 : decode cX6_milestoneOf 12 = .ok (.getfield 12, 3) := by decide +kernel
theorem dX6_milestoneOf_15 : decode cX6_milestoneOf 15 = .ok (.getfield 124, 3) := by decide +kernel
theorem dX6_milestoneOf_18 : decode cX6_milestoneOf 18 = .ok (.iload_n 1, 1) := by decide +kernel
theorem dX6_milestoneOf_19 : decode cX6_milestoneOf 19 = .ok (.iaload, 1) := by decide +kernel
theorem dX6_milestoneOf_20 : decode cX6_milestoneOf 20 = .ok (.iconst (-1), 1) := by decide +kernel
theorem dX6_milestoneOf_21 : decode cX6_milestoneOf 21 = .ok (.if_icmp .eq 7, 3) := by decide +kernel
theorem dX6_milestoneOf_24 : decode cX6_milestoneOf 24 = .ok (.iconst 1, 1) := by decide +kernel
theorem dX6_milestoneOf_25 : decode cX6_milestoneOf 25 = .ok (.goto 4, 3) := by decide +kernel
theorem dX6_milestoneOf_28 : decode cX6_milestoneOf 28 = .ok (.iconst 0, 1) := by decide +kernel
theorem dX6_milestoneOf_29 : decode cX6_milestoneOf 29 = .ok (.invokestatic 52, 3) := by decide +kernel
theorem dX6_milestoneOf_32 : decode cX6_milestoneOf 32 = .ok (.aload_n 0, 1) := by decide +kernel
theorem dX6_milestoneOf_33 : decode cX6_milestoneOf 33 = .ok (.getfield 12, 3) := by decide +kernel
theorem dX6_milestoneOf_36 : decode cX6_milestoneOf 36 = .ok (.getfield 124, 3) := by decide +kernel
theorem dX6_milestoneOf_39 : decode cX6_milestoneOf 39 = .ok (.iload_n 1, 1) := by decide +kernel
theorem dX6_milestoneOf_40 : decode cX6_milestoneOf 40 = .ok (.iaload, 1) := by decide +kernel
theorem dX6_milestoneOf_41 : decode cX6_milestoneOf 41 = .ok (.ireturn, 1) := by decide +kernel
theorem dX6_openedOn_0 : decode cX6_openedOn 0 = .ok (.aload_n 0, 1) := by decide +kernel
theorem dX6_openedOn_1 : decode cX6_openedOn 1 = .ok (.getfield 12, 3) := by decide +kernel
theorem dX6_openedOn_4 : decode cX6_openedOn 4 = .ok (.iload_n 1, 1) := by decide +kernel
theorem dX6_openedOn_5 : decode cX6_openedOn 5 = .ok (.invokevirtual 63, 3) := by decide +kernel
theorem dX6_openedOn_8 : decode cX6_openedOn 8 = .ok (.invokestatic 67, 3) := by decide +kernel
theorem dX6_openedOn_11 : decode cX6_openedOn 11 = .ok (.aload_n 0, 1) := by decide +kernel
theorem dX6_openedOn_12 : decode cX6_openedOn 12 = .ok (.getfield 12, 3) := by decide +kernel
theorem dX6_openedOn_15 : decode cX6_openedOn 15 = .ok (.getfield 230, 3) := by decide +kernel
theorem dX6_openedOn_18 : decode cX6_openedOn 18 = .ok (.iload_n 1, 1) := by decide +kernel
theorem dX6_openedOn_19 : decode cX6_openedOn 19 = .ok (.iaload, 1) := by decide +kernel
theorem dX6_openedOn_20 : decode cX6_openedOn 20 = .ok (.ireturn, 1) := by decide +kernel
theorem dX6_closedOn_0 : decode cX6_closedOn 0 = .ok (.aload_n 0, 1) := by decide +kernel
theorem dX6_closedOn_1 : decode cX6_closedOn 1 = .ok (.getfield 12, 3) := by decide +kernel
theorem dX6_closedOn_4 : decode cX6_closedOn 4 = .ok (.iload_n 1, 1) := by decide +kernel
theorem dX6_closedOn_5 : decode cX6_closedOn 5 = .ok (.invokevirtual 63, 3) := by decide +kernel
theorem dX6_closedOn_8 : decode cX6_closedOn 8 = .ok (.invokestatic 67, 3) := by decide +kernel
theorem dX6_closedOn_11 : decode cX6_closedOn 11 = .ok (.aload_n 0, 1) := by decide +kernel
theorem dX6_closedOn_12 : decode cX6_closedOn 12 = .ok (.getfield 12, 3) := by decide +kernel
theorem dX6_closedOn_15 : decode cX6_closedOn 15 = .ok (.getfield 105, 3) := by decide +kernel
theorem dX6_closedOn_18 : decode cX6_closedOn 18 = .ok (.iload_n 1, 1) := by decide +kernel
theorem dX6_closedOn_19 : decode cX6_closedOn 19 = .ok (.iaload, 1) := by decide +kernel
theorem dX6_closedOn_20 : decode cX6_closedOn 20 = .ok (.iconst 3, 1) := by decide +kernel
theorem dX6_closedOn_21 : decode cX6_closedOn 21 = .ok (.if_icmp .ne 7, 3) := by decide +kernel
theorem dX6_closedOn_24 : decode cX6_closedOn 24 = .ok (.iconst 1, 1) := by decide +kernel
theorem dX6_closedOn_25 : decode cX6_closedOn 25 = .ok (.goto 4, 3) := by decide +kernel
theorem dX6_closedOn_28 : decode cX6_closedOn 28 = .ok (.iconst 0, 1) := by decide +kernel
theorem dX6_closedOn_29 : decode cX6_closedOn 29 = .ok (.invokestatic 52, 3) := by decide +kernel
theorem dX6_closedOn_32 : decode cX6_closedOn 32 = .ok (.aload_n 0, 1) := by decide +kernel
theorem dX6_closedOn_33 : decode cX6_closedOn 33 = .ok (.getfield 12, 3) := by decide +kernel
theorem dX6_closedOn_36 : decode cX6_closedOn 36 = .ok (.getfield 233, 3) := by decide +kernel
theorem dX6_closedOn_39 : decode cX6_closedOn 39 = .ok (.iload_n 1, 1) := by decide +kernel
theorem dX6_closedOn_40 : decode cX6_closedOn 40 = .ok (.iaload, 1) := by decide +kernel
theorem dX6_closedOn_41 : decode cX6_closedOn 41 = .ok (.ireturn, 1) := by decide +kernel
theorem dX6_daysInProgress_0 : decode cX6_daysInProgress 0 = .ok (.aload_n 0, 1) := by decide +kernel
theorem dX6_daysInProgress_1 : decode cX6_daysInProgress 1 = .ok (.getfield 12, 3) := by decide +kernel
theorem dX6_daysInProgress_4 : decode cX6_daysInProgress 4 = .ok (.iload_n 1, 1) := by decide +kernel
theorem dX6_daysInProgress_5 : decode cX6_daysInProgress 5 = .ok (.invokevirtual 63, 3) := by decide +kernel
theorem dX6_daysInProgress_8 : decode cX6_daysInProgress 8 = .ok (.invokestatic 67, 3) := by decide +kernel
theorem dX6_daysInProgress_11 : decode cX6_daysInProgress 11 = .ok (.aload_n 0, 1) := by decide +kernel
theorem dX6_daysInProgress_12 : decode cX6_daysInProgress 12 = .ok (.getfield 12, 3) := by decide +kernel
theorem dX6_daysInProgress_15 : decode cX6_daysInProgress 15 = .ok (.getfield 236, 3) := by decide +kernel
theorem dX6_daysInProgress_18 : decode cX6_daysInProgress 18 = .ok (.iload_n 1, 1) := by decide +kernel
theorem dX6_daysInProgress_19 : decode cX6_daysInProgress 19 = .ok (.iaload, 1) := by decide +kernel
theorem dX6_daysInProgress_20 : decode cX6_daysInProgress 20 = .ok (.ireturn, 1) := by decide +kernel
theorem dX6_timesSentBack_0 : decode cX6_timesSentBack 0 = .ok (.aload_n 0, 1) := by decide +kernel
theorem dX6_timesSentBack_1 : decode cX6_timesSentBack 1 = .ok (.getfield 12, 3) := by decide +kernel
theorem dX6_timesSentBack_4 : decode cX6_timesSentBack 4 = .ok (.iload_n 1, 1) := by decide +kernel
theorem dX6_timesSentBack_5 : decode cX6_timesSentBack 5 = .ok (.invokevirtual 63, 3) := by decide +kernel
theorem dX6_timesSentBack_8 : decode cX6_timesSentBack 8 = .ok (.invokestatic 67, 3) := by decide +kernel
theorem dX6_timesSentBack_11 : decode cX6_timesSentBack 11 = .ok (.aload_n 0, 1) := by decide +kernel
theorem dX6_timesSentBack_12 : decode cX6_timesSentBack 12 = .ok (.getfield 12, 3) := by decide +kernel
theorem dX6_timesSentBack_15 : decode cX6_timesSentBack 15 = .ok (.getfield 239, 3) := by decide +kernel
theorem dX6_timesSentBack_18 : decode cX6_timesSentBack 18 = .ok (.iload_n 1, 1) := by decide +kernel
theorem dX6_timesSentBack_19 : decode cX6_timesSentBack 19 = .ok (.iaload, 1) := by decide +kernel
theorem dX6_timesSentBack_20 : decode cX6_timesSentBack 20 = .ok (.ireturn, 1) := by decide +kernel
theorem dX6_needs_0 : decode cX6_needs 0 = .ok (.aload_n 0, 1) := by decide +kernel
theorem dX6_needs_1 : decode cX6_needs 1 = .ok (.getfield 12, 3) := by decide +kernel
theorem dX6_needs_4 : decode cX6_needs 4 = .ok (.iload_n 1, 1) := by decide +kernel
theorem dX6_needs_5 : decode cX6_needs 5 = .ok (.invokevirtual 63, 3) := by decide +kernel
theorem dX6_needs_8 : decode cX6_needs 8 = .ok (.ifCond .eq 18, 3) := by decide +kernel
theorem dX6_needs_11 : decode cX6_needs 11 = .ok (.aload_n 0, 1) := by decide +kernel
theorem dX6_needs_12 : decode cX6_needs 12 = .ok (.getfield 12, 3) := by decide +kernel
theorem dX6_needs_15 : decode cX6_needs 15 = .ok (.iload_n 2, 1) := by decide +kernel
theorem dX6_needs_16 : decode cX6_needs 16 = .ok (.invokevirtual 63, 3) := by decide +kernel
theorem dX6_needs_19 : decode cX6_needs 19 = .ok (.ifCond .eq 7, 3) := by decide +kernel
theorem dX6_needs_22 : decode cX6_needs 22 = .ok (.iconst 1, 1) := by decide +kernel
theorem dX6_needs_23 : decode cX6_needs 23 = .ok (.goto 4, 3) := by decide +kernel
theorem dX6_needs_26 : decode cX6_needs 26 = .ok (.iconst 0, 1) := by decide +kernel
theorem dX6_needs_27 : decode cX6_needs 27 = .ok (.invokestatic 67, 3) := by decide +kernel
theorem dX6_needs_30 : decode cX6_needs 30 = .ok (.aload_n 0, 1) := by decide +kernel
theorem dX6_needs_31 : decode cX6_needs 31 = .ok (.getfield 12, 3) := by decide +kernel
theorem dX6_needs_34 : decode cX6_needs 34 = .ok (.iload_n 1, 1) := by decide +kernel
theorem dX6_needs_35 : decode cX6_needs 35 = .ok (.iload_n 2, 1) := by decide +kernel
theorem dX6_needs_36 : decode cX6_needs 36 = .ok (.invokevirtual 86, 3) := by decide +kernel
theorem dX6_needs_39 : decode cX6_needs 39 = .ok (.ireturn, 1) := by decide +kernel
theorem dX6_needsOf_0 : decode cX6_needsOf 0 = .ok (.aload_n 0, 1) := by decide +kernel
theorem dX6_needsOf_1 : decode cX6_needsOf 1 = .ok (.getfield 12, 3) := by decide +kernel
theorem dX6_needsOf_4 : decode cX6_needsOf 4 = .ok (.iload_n 1, 1) := by decide +kernel
theorem dX6_needsOf_5 : decode cX6_needsOf 5 = .ok (.invokevirtual 63, 3) := by decide +kernel
theorem dX6_needsOf_8 : decode cX6_needsOf 8 = .ok (.invokestatic 67, 3) := by decide +kernel
theorem dX6_needsOf_11 : decode cX6_needsOf 11 = .ok (.aload_n 0, 1) := by decide +kernel
theorem dX6_needsOf_12 : decode cX6_needsOf 12 = .ok (.getfield 12, 3) := by decide +kernel
theorem dX6_needsOf_15 : decode cX6_needsOf 15 = .ok (.getfield 242, 3) := by decide +kernel
theorem dX6_needsOf_18 : decode cX6_needsOf 18 = .ok (.iload_n 1, 1) := by decide +kernel
theorem dX6_needsOf_19 : decode cX6_needsOf 19 = .ok (.iaload, 1) := by decide +kernel
theorem dX6_needsOf_20 : decode cX6_needsOf 20 = .ok (.invokestatic 162, 3) := by decide +kernel
theorem dX6_needsOf_23 : decode cX6_needsOf 23 = .ok (.ireturn, 1) := by decide +kernel
theorem dX6_neededBy_0 : decode cX6_neededBy 0 = .ok (.aload_n 0, 1) := by decide +kernel
theorem dX6_neededBy_1 : decode cX6_neededBy 1 = .ok (.getfield 12, 3) := by decide +kernel
theorem dX6_neededBy_4 : decode cX6_neededBy 4 = .ok (.iload_n 1, 1) := by decide +kernel
theorem dX6_neededBy_5 : decode cX6_neededBy 5 = .ok (.invokevirtual 63, 3) := by decide +kernel
theorem dX6_neededBy_8 : decode cX6_neededBy 8 = .ok (.invokestatic 67, 3) := by decide +kernel
theorem dX6_neededBy_11 : decode cX6_neededBy 11 = .ok (.aload_n 0, 1) := by decide +kernel
theorem dX6_neededBy_12 : decode cX6_neededBy 12 = .ok (.getfield 12, 3) := by decide +kernel
theorem dX6_neededBy_15 : decode cX6_neededBy 15 = .ok (.iload_n 1, 1) := by decide +kernel
theorem dX6_neededBy_16 : decode cX6_neededBy 16 = .ok (.invokevirtual 245, 3) := by decide +kernel
theorem dX6_neededBy_19 : decode cX6_neededBy 19 = .ok (.invokestatic 162, 3) := by decide +kernel
theorem dX6_neededBy_22 : decode cX6_neededBy 22 = .ok (.ireturn, 1) := by decide +kernel
theorem dX6_isBlocked_0 : decode cX6_isBlocked 0 = .ok (.aload_n 0, 1) := by decide +kernel
theorem dX6_isBlocked_1 : decode cX6_isBlocked 1 = .ok (.getfield 12, 3) := by decide +kernel
theorem dX6_isBlocked_4 : decode cX6_isBlocked 4 = .ok (.iload_n 1, 1) := by decide +kernel
theorem dX6_isBlocked_5 : decode cX6_isBlocked 5 = .ok (.invokevirtual 63, 3) := by decide +kernel
theorem dX6_isBlocked_8 : decode cX6_isBlocked 8 = .ok (.invokestatic 67, 3) := by decide +kernel
theorem dX6_isBlocked_11 : decode cX6_isBlocked 11 = .ok (.aload_n 0, 1) := by decide +kernel
theorem dX6_isBlocked_12 : decode cX6_isBlocked 12 = .ok (.getfield 12, 3) := by decide +kernel
theorem dX6_isBlocked_15 : decode cX6_isBlocked 15 = .ok (.iload_n 1, 1) := by decide +kernel
theorem dX6_isBlocked_16 : decode cX6_isBlocked 16 = .ok (.invokevirtual 248, 3) := by decide +kernel
theorem dX6_isBlocked_19 : decode cX6_isBlocked 19 = .ok (.ifCond .eq 7, 3) := by decide +kernel
theorem dX6_isBlocked_22 : decode cX6_isBlocked 22 = .ok (.iconst 1, 1) := by decide +kernel
theorem dX6_isBlocked_23 : decode cX6_isBlocked 23 = .ok (.goto 4, 3) := by decide +kernel
theorem dX6_isBlocked_26 : decode cX6_isBlocked 26 = .ok (.iconst 0, 1) := by decide +kernel
theorem dX6_isBlocked_27 : decode cX6_isBlocked 27 = .ok (.ireturn, 1) := by decide +kernel
theorem dX6_blockersOf_0 : decode cX6_blockersOf 0 = .ok (.aload_n 0, 1) := by decide +kernel
theorem dX6_blockersOf_1 : decode cX6_blockersOf 1 = .ok (.getfield 12, 3) := by decide +kernel
theorem dX6_blockersOf_4 : decode cX6_blockersOf 4 = .ok (.iload_n 1, 1) := by decide +kernel
theorem dX6_blockersOf_5 : decode cX6_blockersOf 5 = .ok (.invokevirtual 63, 3) := by decide +kernel
theorem dX6_blockersOf_8 : decode cX6_blockersOf 8 = .ok (.invokestatic 67, 3) := by decide +kernel
theorem dX6_blockersOf_11 : decode cX6_blockersOf 11 = .ok (.aload_n 0, 1) := by decide +kernel
theorem dX6_blockersOf_12 : decode cX6_blockersOf 12 = .ok (.getfield 12, 3) := by decide +kernel
theorem dX6_blockersOf_15 : decode cX6_blockersOf 15 = .ok (.iload_n 1, 1) := by decide +kernel
theorem dX6_blockersOf_16 : decode cX6_blockersOf 16 = .ok (.invokevirtual 248, 3) := by decide +kernel
theorem dX6_blockersOf_19 : decode cX6_blockersOf 19 = .ok (.invokestatic 162, 3) := by decide +kernel
theorem dX6_blockersOf_22 : decode cX6_blockersOf 22 = .ok (.ireturn, 1) := by decide +kernel
theorem dX6_allNeedsByGoing_0 : decode cX6_allNeedsByGoing 0 = .ok (.aload_n 0, 1) := by decide +kernel
theorem dX6_allNeedsByGoing_1 : decode cX6_allNeedsByGoing 1 = .ok (.getfield 12, 3) := by decide +kernel
theorem dX6_allNeedsByGoing_4 : decode cX6_allNeedsByGoing 4 = .ok (.iload_n 1, 1) := by decide +kernel
theorem dX6_allNeedsByGoing_5 : decode cX6_allNeedsByGoing 5 = .ok (.invokevirtual 63, 3) := by decide +kernel
theorem dX6_allNeedsByGoing_8 : decode cX6_allNeedsByGoing 8 = .ok (.invokestatic 67, 3) := by decide +kernel
theorem dX6_allNeedsByGoing_11 : decode cX6_allNeedsByGoing 11 = .ok (.aload_n 0, 1) := by decide +kernel
theorem dX6_allNeedsByGoing_12 : decode cX6_allNeedsByGoing 12 = .ok (.getfield 12, 3) := by decide +kernel
theorem dX6_allNeedsByGoing_15 : decode cX6_allNeedsByGoing 15 = .ok (.iload_n 1, 1) := by decide +kernel
theorem dX6_allNeedsByGoing_16 : decode cX6_allNeedsByGoing 16 = .ok (.invokevirtual 251, 3) := by decide +kernel
theorem dX6_allNeedsByGoing_19 : decode cX6_allNeedsByGoing 19 = .ok (.invokestatic 162, 3) := by decide +kernel
theorem dX6_allNeedsByGoing_22 : decode cX6_allNeedsByGoing 22 = .ok (.ireturn, 1) := by decide +kernel
theorem dX6_allNeedsByTable_0 : decode cX6_allNeedsByTable 0 = .ok (.aload_n 0, 1) := by decide +kernel
theorem dX6_allNeedsByTable_1 : decode cX6_allNeedsByTable 1 = .ok (.getfield 12, 3) := by decide +kernel
theorem dX6_allNeedsByTable_4 : decode cX6_allNeedsByTable 4 = .ok (.iload_n 1, 1) := by decide +kernel
theorem dX6_allNeedsByTable_5 : decode cX6_allNeedsByTable 5 = .ok (.invokevirtual 63, 3) := by decide +kernel
theorem dX6_allNeedsByTable_8 : decode cX6_allNeedsByTable 8 = .ok (.invokestatic 67, 3) := by decide +kernel
theorem dX6_allNeedsByTable_11 : decode cX6_allNeedsByTable 11 = .ok (.aload_n 0, 1) := by decide +kernel
theorem dX6_allNeedsByTable_12 : decode cX6_allNeedsByTable 12 = .ok (.getfield 22, 3) := by decide +kernel
theorem dX6_allNeedsByTable_15 : decode cX6_allNeedsByTable 15 = .ok (.aload_n 0, 1) := by decide +kernel
theorem dX6_allNeedsByTable_16 : decode cX6_allNeedsByTable 16 = .ok (.getfield 12, 3) := by decide +kernel
theorem dX6_allNeedsByTable_19 : decode cX6_allNeedsByTable 19 = .ok (.iload_n 1, 1) := by decide +kernel
theorem dX6_allNeedsByTable_20 : decode cX6_allNeedsByTable 20 = .ok (.invokevirtual 254, 3) := by decide +kernel
theorem dX6_allNeedsByTable_23 : decode cX6_allNeedsByTable 23 = .ok (.ireturn, 1) := by decide +kernel
theorem dX6_chainOf_0 : decode cX6_chainOf 0 = .ok (.aload_n 0, 1) := by decide +kernel
theorem dX6_chainOf_1 : decode cX6_chainOf 1 = .ok (.getfield 12, 3) := by decide +kernel
theorem dX6_chainOf_4 : decode cX6_chainOf 4 = .ok (.iload_n 1, 1) := by decide +kernel
theorem dX6_chainOf_5 : decode cX6_chainOf 5 = .ok (.invokevirtual 63, 3) := by decide +kernel
theorem dX6_chainOf_8 : decode cX6_chainOf 8 = .ok (.invokestatic 67, 3) := by decide +kernel
theorem dX6_chainOf_11 : decode cX6_chainOf 11 = .ok (.aload_n 0, 1) := by decide +kernel
theorem dX6_chainOf_12 : decode cX6_chainOf 12 = .ok (.getfield 12, 3) := by decide +kernel
theorem dX6_chainOf_15 : decode cX6_chainOf 15 = .ok (.iload_n 1, 1) := by decide +kernel
theorem dX6_chainOf_16 : decode cX6_chainOf 16 = .ok (.invokestatic 257, 3) := by decide +kernel
theorem dX6_chainOf_19 : decode cX6_chainOf 19 = .ok (.ireturn, 1) := by decide +kernel
theorem dX6_criticalByTrying_0 : decode cX6_criticalByTrying 0 = .ok (.aload_n 0, 1) := by decide +kernel
theorem dX6_criticalByTrying_1 : decode cX6_criticalByTrying 1 = .ok (.getfield 22, 3) := by decide +kernel
theorem dX6_criticalByTrying_4 : decode cX6_criticalByTrying 4 = .ok (.aload_n 0, 1) := by decide +kernel
theorem dX6_criticalByTrying_5 : decode cX6_criticalByTrying 5 = .ok (.getfield 12, 3) := by decide +kernel
theorem dX6_criticalByTrying_8 : decode cX6_criticalByTrying 8 = .ok (.invokevirtual 260, 3) := by decide +kernel
theorem dX6_criticalByTrying_11 : decode cX6_criticalByTrying 11 = .ok (.ireturn, 1) := by decide +kernel
theorem dX6_criticalByOrder_0 : decode cX6_criticalByOrder 0 = .ok (.aload_n 0, 1) := by decide +kernel
theorem dX6_criticalByOrder_1 : decode cX6_criticalByOrder 1 = .ok (.getfield 22, 3) := by decide +kernel
theorem dX6_criticalByOrder_4 : decode cX6_criticalByOrder 4 = .ok (.aload_n 0, 1) := by decide +kernel
theorem dX6_criticalByOrder_5 : decode cX6_criticalByOrder 5 = .ok (.getfield 12, 3) := by decide +kernel
theorem dX6_criticalByOrder_8 : decode cX6_criticalByOrder 8 = .ok (.invokevirtual 263, 3) := by decide +kernel
theorem dX6_criticalByOrder_11 : decode cX6_criticalByOrder 11 = .ok (.ireturn, 1) := by decide +kernel
theorem dX6_capacityOf_0 : decode cX6_capacityOf 0 = .ok (.iload_n 1, 1) := by decide +kernel
theorem dX6_capacityOf_1 : decode cX6_capacityOf 1 = .ok (.invokestatic 92, 3) := by decide +kernel
theorem dX6_capacityOf_4 : decode cX6_capacityOf 4 = .ok (.invokestatic 67, 3) := by decide +kernel
theorem dX6_capacityOf_7 : decode cX6_capacityOf 7 = .ok (.aload_n 0, 1) := by decide +kernel
theorem dX6_capacityOf_8 : decode cX6_capacityOf 8 = .ok (.getfield 12, 3) := by decide +kernel
theorem dX6_capacityOf_11 : decode cX6_capacityOf 11 = .ok (.getfield 266, 3) := by decide +kernel
theorem dX6_capacityOf_14 : decode cX6_capacityOf 14 = .ok (.iload_n 1, 1) := by decide +kernel
theorem dX6_capacityOf_15 : decode cX6_capacityOf 15 = .ok (.iaload, 1) := by decide +kernel
theorem dX6_capacityOf_16 : decode cX6_capacityOf 16 = .ok (.ireturn, 1) := by decide +kernel
theorem dX6_loadByTickets_0 : decode cX6_loadByTickets 0 = .ok (.iload_n 1, 1) := by decide +kernel
theorem dX6_loadByTickets_1 : decode cX6_loadByTickets 1 = .ok (.invokestatic 92, 3) := by decide +kernel
theorem dX6_loadByTickets_4 : decode cX6_loadByTickets 4 = .ok (.invokestatic 67, 3) := by decide +kernel
theorem dX6_loadByTickets_7 : decode cX6_loadByTickets 7 = .ok (.aload_n 0, 1) := by decide +kernel
theorem dX6_loadByTickets_8 : decode cX6_loadByTickets 8 = .ok (.getfield 12, 3) := by decide +kernel
theorem dX6_loadByTickets_11 : decode cX6_loadByTickets 11 = .ok (.iload_n 1, 1) := by decide +kernel
theorem dX6_loadByTickets_12 : decode cX6_loadByTickets 12 = .ok (.invokestatic 269, 3) := by decide +kernel
theorem dX6_loadByTickets_15 : decode cX6_loadByTickets 15 = .ok (.ireturn, 1) := by decide +kernel
theorem dX6_loadByAccount_0 : decode cX6_loadByAccount 0 = .ok (.iload_n 1, 1) := by decide +kernel
theorem dX6_loadByAccount_1 : decode cX6_loadByAccount 1 = .ok (.invokestatic 92, 3) := by decide +kernel
theorem dX6_loadByAccount_4 : decode cX6_loadByAccount 4 = .ok (.invokestatic 67, 3) := by decide +kernel
theorem dX6_loadByAccount_7 : decode cX6_loadByAccount 7 = .ok (.aload_n 0, 1) := by decide +kernel
theorem dX6_loadByAccount_8 : decode cX6_loadByAccount 8 = .ok (.getfield 12, 3) := by decide +kernel
theorem dX6_loadByAccount_11 : decode cX6_loadByAccount 11 = .ok (.getfield 112, 3) := by decide +kernel
theorem dX6_loadByAccount_14 : decode cX6_loadByAccount 14 = .ok (.iload_n 1, 1) := by decide +kernel
theorem dX6_loadByAccount_15 : decode cX6_loadByAccount 15 = .ok (.iaload, 1) := by decide +kernel
theorem dX6_loadByAccount_16 : decode cX6_loadByAccount 16 = .ok (.ireturn, 1) := by decide +kernel
theorem dX6_inProgressOf_0 : decode cX6_inProgressOf 0 = .ok (.iload_n 1, 1) := by decide +kernel
theorem dX6_inProgressOf_1 : decode cX6_inProgressOf 1 = .ok (.invokestatic 92, 3) := by decide +kernel
theorem dX6_inProgressOf_4 : decode cX6_inProgressOf 4 = .ok (.invokestatic 67, 3) := by decide +kernel
theorem dX6_inProgressOf_7 : decode cX6_inProgressOf 7 = .ok (.aload_n 0, 1) := by decide +kernel
theorem dX6_inProgressOf_8 : decode cX6_inProgressOf 8 = .ok (.getfield 12, 3) := by decide +kernel
theorem dX6_inProgressOf_11 : decode cX6_inProgressOf 11 = .ok (.iload_n 1, 1) := by decide +kernel
theorem dX6_inProgressOf_12 : decode cX6_inProgressOf 12 = .ok (.invokestatic 272, 3) := by decide +kernel
theorem dX6_inProgressOf_15 : decode cX6_inProgressOf 15 = .ok (.ireturn, 1) := by decide +kernel
theorem dX6_donePointsOf_0 : decode cX6_donePointsOf 0 = .ok (.iload_n 1, 1) := by decide +kernel
theorem dX6_donePointsOf_1 : decode cX6_donePointsOf 1 = .ok (.invokestatic 92, 3) := by decide +kernel
theorem dX6_donePointsOf_4 : decode cX6_donePointsOf 4 = .ok (.invokestatic 67, 3) := by decide +kernel
theorem dX6_donePointsOf_7 : decode cX6_donePointsOf 7 = .ok (.aload_n 0, 1) := by decide +kernel
theorem dX6_donePointsOf_8 : decode cX6_donePointsOf 8 = .ok (.getfield 12, 3) := by decide +kernel
theorem dX6_donePointsOf_11 : decode cX6_donePointsOf 11 = .ok (.iload_n 1, 1) := by decide +kernel
theorem dX6_donePointsOf_12 : decode cX6_donePointsOf 12 = .ok (.invokestatic 275, 3) := by decide +kernel
theorem dX6_donePointsOf_15 : decode cX6_donePointsOf 15 = .ok (.ireturn, 1) := by decide +kernel
theorem dX6_freestOwner_0 : decode cX6_freestOwner 0 = .ok (.aload_n 0, 1) := by decide +kernel
theorem dX6_freestOwner_1 : decode cX6_freestOwner 1 = .ok (.getfield 12, 3) := by decide +kernel
theorem dX6_freestOwner_4 : decode cX6_freestOwner 4 = .ok (.invokestatic 278, 3) := by decide +kernel
theorem dX6_freestOwner_7 : decode cX6_freestOwner 7 = .ok (.ireturn, 1) := by decide +kernel
theorem dX6_dateOf_0 : decode cX6_dateOf 0 = .ok (.iload_n 1, 1) := by decide +kernel
theorem dX6_dateOf_1 : decode cX6_dateOf 1 = .ok (.invokestatic 118, 3) := by decide +kernel
theorem dX6_dateOf_4 : decode cX6_dateOf 4 = .ok (.invokestatic 67, 3) := by decide +kernel
theorem dX6_dateOf_7 : decode cX6_dateOf 7 = .ok (.aload_n 0, 1) := by decide +kernel
theorem dX6_dateOf_8 : decode cX6_dateOf 8 = .ok (.getfield 12, 3) := by decide +kernel
theorem dX6_dateOf_11 : decode cX6_dateOf 11 = .ok (.getfield 281, 3) := by decide +kernel
theorem dX6_dateOf_14 : decode cX6_dateOf 14 = .ok (.iload_n 1, 1) := by decide +kernel
theorem dX6_dateOf_15 : decode cX6_dateOf 15 = .ok (.iaload, 1) := by decide +kernel
theorem dX6_dateOf_16 : decode cX6_dateOf 16 = .ok (.ireturn, 1) := by decide +kernel
theorem dX6_pointsLeft_0 : decode cX6_pointsLeft 0 = .ok (.iload_n 1, 1) := by decide +kernel
theorem dX6_pointsLeft_1 : decode cX6_pointsLeft 1 = .ok (.invokestatic 118, 3) := by decide +kernel
theorem dX6_pointsLeft_4 : decode cX6_pointsLeft 4 = .ok (.invokestatic 67, 3) := by decide +kernel
theorem dX6_pointsLeft_7 : decode cX6_pointsLeft 7 = .ok (.aload_n 0, 1) := by decide +kernel
theorem dX6_pointsLeft_8 : decode cX6_pointsLeft 8 = .ok (.getfield 12, 3) := by decide +kernel
theorem dX6_pointsLeft_11 : decode cX6_pointsLeft 11 = .ok (.iload_n 1, 1) := by decide +kernel
theorem dX6_pointsLeft_12 : decode cX6_pointsLeft 12 = .ok (.invokestatic 127, 3) := by decide +kernel
theorem dX6_pointsLeft_15 : decode cX6_pointsLeft 15 = .ok (.ireturn, 1) := by decide +kernel
theorem dX6_pointsDone_0 : decode cX6_pointsDone 0 = .ok (.iload_n 1, 1) := by decide +kernel
theorem dX6_pointsDone_1 : decode cX6_pointsDone 1 = .ok (.invokestatic 118, 3) := by decide +kernel
theorem dX6_pointsDone_4 : decode cX6_pointsDone 4 = .ok (.invokestatic 67, 3) := by decide +kernel
theorem dX6_pointsDone_7 : decode cX6_pointsDone 7 = .ok (.aload_n 0, 1) := by decide +kernel
theorem dX6_pointsDone_8 : decode cX6_pointsDone 8 = .ok (.getfield 12, 3) := by decide +kernel
theorem dX6_pointsDone_11 : decode cX6_pointsDone 11 = .ok (.iload_n 1, 1) := by decide +kernel
theorem dX6_pointsDone_12 : decode cX6_pointsDone 12 = .ok (.invokestatic 284, 3) := by decide +kernel
theorem dX6_pointsDone_15 : decode cX6_pointsDone 15 = .ok (.ireturn, 1) := by decide +kernel
theorem dX6_hundredthsDone_0 : decode cX6_hundredthsDone 0 = .ok (.iload_n 1, 1) := by decide +kernel
theorem dX6_hundredthsDone_1 : decode cX6_hundredthsDone 1 = .ok (.invokestatic 118, 3) := by decide +kernel
theorem dX6_hundredthsDone_4 : decode cX6_hundredthsDone 4 = .ok (.invokestatic 67, 3) := by decide +kernel
theorem dX6_hundredthsDone_7 : decode cX6_hundredthsDone 7 = .ok (.aload_n 0, 1) := by decide +kernel
theorem dX6_hundredthsDone_8 : decode cX6_hundredthsDone 8 = .ok (.getfield 12, 3) := by decide +kernel
theorem dX6_hundredthsDone_11 : decode cX6_hundredthsDone 11 = .ok (.iload_n 1, 1) := by decide +kernel
theorem dX6_hundredthsDone_12 : decode cX6_hundredthsDone 12 = .ok (.invokestatic 287, 3) := by decide +kernel
theorem dX6_hundredthsDone_15 : decode cX6_hundredthsDone 15 = .ok (.ireturn, 1) := by decide +kernel
theorem dX6_isLate_0 : decode cX6_isLate 0 = .ok (.iload_n 1, 1) := by decide +kernel
theorem dX6_isLate_1 : decode cX6_isLate 1 = .ok (.invokestatic 118, 3) := by decide +kernel
theorem dX6_isLate_4 : decode cX6_isLate 4 = .ok (.invokestatic 67, 3) := by decide +kernel
theorem dX6_isLate_7 : decode cX6_isLate 7 = .ok (.aload_n 0, 1) := by decide +kernel
theorem dX6_isLate_8 : decode cX6_isLate 8 = .ok (.getfield 12, 3) := by decide +kernel
theorem dX6_isLate_11 : decode cX6_isLate 11 = .ok (.iload_n 1, 1) := by decide +kernel
theorem dX6_isLate_12 : decode cX6_isLate 12 = .ok (.invokestatic 290, 3) := by decide +kernel
theorem dX6_isLate_15 : decode cX6_isLate 15 = .ok (.ireturn, 1) := by decide +kernel
theorem dX6_misplanned_0 : decode cX6_misplanned 0 = .ok (.iload_n 1, 1) := by decide +kernel
theorem dX6_misplanned_1 : decode cX6_misplanned 1 = .ok (.invokestatic 118, 3) := by decide +kernel
theorem dX6_misplanned_4 : decode cX6_misplanned 4 = .ok (.invokestatic 67, 3) := by decide +kernel
theorem dX6_misplanned_7 : decode cX6_misplanned 7 = .ok (.aload_n 0, 1) := by decide +kernel
theorem dX6_misplanned_8 : decode cX6_misplanned 8 = .ok (.getfield 12, 3) := by decide +kernel
theorem dX6_misplanned_11 : decode cX6_misplanned 11 = .ok (.iload_n 1, 1) := by decide +kernel
theorem dX6_misplanned_12 : decode cX6_misplanned 12 = .ok (.invokestatic 294, 3) := by decide +kernel
theorem dX6_misplanned_15 : decode cX6_misplanned 15 = .ok (.ireturn, 1) := by decide +kernel
theorem dX6_lateMilestones_0 : decode cX6_lateMilestones 0 = .ok (.aload_n 0, 1) := by decide +kernel
theorem dX6_lateMilestones_1 : decode cX6_lateMilestones 1 = .ok (.getfield 12, 3) := by decide +kernel
theorem dX6_lateMilestones_4 : decode cX6_lateMilestones 4 = .ok (.invokestatic 297, 3) := by decide +kernel
theorem dX6_lateMilestones_7 : decode cX6_lateMilestones 7 = .ok (.ireturn, 1) := by decide +kernel
theorem dX6_nextToDo_0 : decode cX6_nextToDo 0 = .ok (.aload_n 0, 1) := by decide +kernel
theorem dX6_nextToDo_1 : decode cX6_nextToDo 1 = .ok (.getfield 12, 3) := by decide +kernel
theorem dX6_nextToDo_4 : decode cX6_nextToDo 4 = .ok (.invokestatic 300, 3) := by decide +kernel
theorem dX6_nextToDo_7 : decode cX6_nextToDo 7 = .ok (.istore_n 1, 1) := by decide +kernel
theorem dX6_nextToDo_8 : decode cX6_nextToDo 8 = .ok (.iload_n 1, 1) := by decide +kernel
theorem dX6_nextToDo_9 : decode cX6_nextToDo 9 = .ok (.iconst (-1), 1) := by decide +kernel
theorem dX6_nextToDo_10 : decode cX6_nextToDo 10 = .ok (.if_icmp .eq 7, 3) := by decide +kernel
theorem dX6_nextToDo_13 : decode cX6_nextToDo 13 = .ok (.iconst 1, 1) := by decide +kernel
theorem dX6_nextToDo_14 : decode cX6_nextToDo 14 = .ok (.goto 4, 3) := by decide +kernel
theorem dX6_nextToDo_17 : decode cX6_nextToDo 17 = .ok (.iconst 0, 1) := by decide +kernel
theorem dX6_nextToDo_18 : decode cX6_nextToDo 18 = .ok (.invokestatic 52, 3) := by decide +kernel
theorem dX6_nextToDo_21 : decode cX6_nextToDo 21 = .ok (.iload_n 1, 1) := by decide +kernel
theorem dX6_nextToDo_22 : decode cX6_nextToDo 22 = .ok (.ireturn, 1) := by decide +kernel
theorem dX6_closedAt_0 : decode cX6_closedAt 0 = .ok (.aload_n 0, 1) := by decide +kernel
theorem dX6_closedAt_1 : decode cX6_closedAt 1 = .ok (.getfield 22, 3) := by decide +kernel
theorem dX6_closedAt_4 : decode cX6_closedAt 4 = .ok (.aload_n 0, 1) := by decide +kernel
theorem dX6_closedAt_5 : decode cX6_closedAt 5 = .ok (.getfield 12, 3) := by decide +kernel
theorem dX6_closedAt_8 : decode cX6_closedAt 8 = .ok (.invokevirtual 303, 3) := by decide +kernel
theorem dX6_closedAt_11 : decode cX6_closedAt 11 = .ok (.istore_n 2, 1) := by decide +kernel
theorem dX6_closedAt_12 : decode cX6_closedAt 12 = .ok (.iload_n 1, 1) := by decide +kernel
theorem dX6_closedAt_13 : decode cX6_closedAt 13 = .ok (.iconst 0, 1) := by decide +kernel
theorem dX6_closedAt_14 : decode cX6_closedAt 14 = .ok (.iload_n 2, 1) := by decide +kernel
theorem dX6_closedAt_15 : decode cX6_closedAt 15 = .ok (.iconst 1, 1) := by decide +kernel
theorem dX6_closedAt_16 : decode cX6_closedAt 16 = .ok (.isub, 1) := by decide +kernel
theorem dX6_closedAt_17 : decode cX6_closedAt 17 = .ok (.invokestatic 40, 3) := by decide +kernel
theorem dX6_closedAt_20 : decode cX6_closedAt 20 = .ok (.invokestatic 67, 3) := by decide +kernel
theorem dX6_closedAt_23 : decode cX6_closedAt 23 = .ok (.aload_n 0, 1) := by decide +kernel
theorem dX6_closedAt_24 : decode cX6_closedAt 24 = .ok (.getfield 22, 3) := by decide +kernel
theorem dX6_closedAt_27 : decode cX6_closedAt 27 = .ok (.getfield 306, 3) := by decide +kernel
theorem dX6_closedAt_30 : decode cX6_closedAt 30 = .ok (.iload_n 1, 1) := by decide +kernel
theorem dX6_closedAt_31 : decode cX6_closedAt 31 = .ok (.iaload, 1) := by decide +kernel
theorem dX6_closedAt_32 : decode cX6_closedAt 32 = .ok (.ireturn, 1) := by decide +kernel
theorem dX6_day_0 : decode cX6_day 0 = .ok (.aload_n 0, 1) := by decide +kernel
theorem dX6_day_1 : decode cX6_day 1 = .ok (.getfield 12, 3) := by decide +kernel
theorem dX6_day_4 : decode cX6_day 4 = .ok (.getfield 309, 3) := by decide +kernel
theorem dX6_day_7 : decode cX6_day 7 = .ok (.ireturn, 1) := by decide +kernel
theorem dX6_withState_0 : decode cX6_withState 0 = .ok (.iload_n 1, 1) := by decide +kernel
theorem dX6_withState_1 : decode cX6_withState 1 = .ok (.iconst 0, 1) := by decide +kernel
theorem dX6_withState_2 : decode cX6_withState 2 = .ok (.iconst 4, 1) := by decide +kernel
theorem dX6_withState_3 : decode cX6_withState 3 = .ok (.invokestatic 40, 3) := by decide +kernel
theorem dX6_withState_6 : decode cX6_withState 6 = .ok (.invokestatic 44, 3) := by decide +kernel
theorem dX6_withState_9 : decode cX6_withState 9 = .ok (.aload_n 0, 1) := by decide +kernel
theorem dX6_withState_10 : decode cX6_withState 10 = .ok (.getfield 12, 3) := by decide +kernel
theorem dX6_withState_13 : decode cX6_withState 13 = .ok (.iload_n 1, 1) := by decide +kernel
theorem dX6_withState_14 : decode cX6_withState 14 = .ok (.invokevirtual 312, 3) := by decide +kernel
theorem dX6_withState_17 : decode cX6_withState 17 = .ok (.invokestatic 162, 3) := by decide +kernel
theorem dX6_withState_20 : decode cX6_withState 20 = .ok (.ireturn, 1) := by decide +kernel
theorem dX6_pointsWith_0 : decode cX6_pointsWith 0 = .ok (.iload_n 1, 1) := by decide +kernel
theorem dX6_pointsWith_1 : decode cX6_pointsWith 1 = .ok (.iconst 0, 1) := by decide +kernel
theorem dX6_pointsWith_2 : decode cX6_pointsWith 2 = .ok (.iconst 4, 1) := by decide +kernel
theorem dX6_pointsWith_3 : decode cX6_pointsWith 3 = .ok (.invokestatic 40, 3) := by decide +kernel
theorem dX6_pointsWith_6 : decode cX6_pointsWith 6 = .ok (.invokestatic 44, 3) := by decide +kernel
theorem dX6_pointsWith_9 : decode cX6_pointsWith 9 = .ok (.aload_n 0, 1) := by decide +kernel
theorem dX6_pointsWith_10 : decode cX6_pointsWith 10 = .ok (.getfield 12, 3) := by decide +kernel
theorem dX6_pointsWith_13 : decode cX6_pointsWith 13 = .ok (.aload_n 0, 1) := by decide +kernel
theorem dX6_pointsWith_14 : decode cX6_pointsWith 14 = .ok (.getfield 12, 3) := by decide +kernel
theorem dX6_pointsWith_17 : decode cX6_pointsWith 17 = .ok (.iload_n 1, 1) := by decide +kernel
theorem dX6_pointsWith_18 : decode cX6_pointsWith 18 = .ok (.invokevirtual 312, 3) := by decide +kernel
theorem dX6_pointsWith_21 : decode cX6_pointsWith 21 = .ok (.invokevirtual 315, 3) := by decide +kernel
theorem dX6_pointsWith_24 : decode cX6_pointsWith 24 = .ok (.ireturn, 1) := by decide +kernel
theorem dX6_allPoints_0 : decode cX6_allPoints 0 = .ok (.aload_n 0, 1) := by decide +kernel
theorem dX6_allPoints_1 : decode cX6_allPoints 1 = .ok (.getfield 12, 3) := by decide +kernel
theorem dX6_allPoints_4 : decode cX6_allPoints 4 = .ok (.ldc_w 318, 3) := by decide +kernel
theorem dX6_allPoints_7 : decode cX6_allPoints 7 = .ok (.invokevirtual 315, 3) := by decide +kernel
theorem dX6_allPoints_10 : decode cX6_allPoints 10 = .ok (.ireturn, 1) := by decide +kernel
theorem dX6_blockedTickets_0 : decode cX6_blockedTickets 0 = .ok (.aload_n 0, 1) := by decide +kernel
theorem dX6_blockedTickets_1 : decode cX6_blockedTickets 1 = .ok (.getfield 12, 3) := by decide +kernel
theorem dX6_blockedTickets_4 : decode cX6_blockedTickets 4 = .ok (.invokestatic 319, 3) := by decide +kernel
theorem dX6_blockedTickets_7 : decode cX6_blockedTickets 7 = .ok (.ireturn, 1) := by decide +kernel
theorem dX6_closings_0 : decode cX6_closings 0 = .ok (.aload_n 0, 1) := by decide +kernel
theorem dX6_closings_1 : decode cX6_closings 1 = .ok (.getfield 12, 3) := by decide +kernel
theorem dX6_closings_4 : decode cX6_closings 4 = .ok (.getfield 198, 3) := by decide +kernel
theorem dX6_closings_7 : decode cX6_closings 7 = .ok (.ireturn, 1) := by decide +kernel
theorem dX6_reopenings_0 : decode cX6_reopenings 0 = .ok (.aload_n 0, 1) := by decide +kernel
theorem dX6_reopenings_1 : decode cX6_reopenings 1 = .ok (.getfield 12, 3) := by decide +kernel
theorem dX6_reopenings_4 : decode cX6_reopenings 4 = .ok (.getfield 322, 3) := by decide +kernel
theorem dX6_reopenings_7 : decode cX6_reopenings 7 = .ok (.ireturn, 1) := by decide +kernel
theorem dX6_pointsOfWeek_0 : decode cX6_pointsOfWeek 0 = .ok (.aload_n 0, 1) := by decide +kernel
theorem dX6_pointsOfWeek_1 : decode cX6_pointsOfWeek 1 = .ok (.getfield 12, 3) := by decide +kernel
theorem dX6_pointsOfWeek_4 : decode cX6_pointsOfWeek 4 = .ok (.invokestatic 325, 3) := by decide +kernel
theorem dX6_pointsOfWeek_7 : decode cX6_pointsOfWeek 7 = .ok (.ireturn, 1) := by decide +kernel
theorem dX6_meanDays_0 : decode cX6_meanDays 0 = .ok (.aload_n 0, 1) := by decide +kernel
theorem dX6_meanDays_1 : decode cX6_meanDays 1 = .ok (.getfield 12, 3) := by decide +kernel
theorem dX6_meanDays_4 : decode cX6_meanDays 4 = .ok (.invokestatic 328, 3) := by decide +kernel
theorem dX6_meanDays_7 : decode cX6_meanDays 7 = .ok (.dreturn, 1) := by decide +kernel
theorem dX6_digest_0 : decode cX6_digest 0 = .ok (.ldc2_w 332, 3) := by decide +kernel
theorem dX6_digest_3 : decode cX6_digest 3 = .ok (.aload_n 0, 1) := by decide +kernel
theorem dX6_digest_4 : decode cX6_digest 4 = .ok (.getfield 12, 3) := by decide +kernel
theorem dX6_digest_7 : decode cX6_digest 7 = .ok (.getfield 221, 3) := by decide +kernel
theorem dX6_digest_10 : decode cX6_digest 10 = .ok (.i2l, 1) := by decide +kernel
theorem dX6_digest_11 : decode cX6_digest 11 = .ok (.invokestatic 334, 3) := by decide +kernel
theorem dX6_digest_14 : decode cX6_digest 14 = .ok (.lstore_n 1, 1) := by decide +kernel
theorem dX6_digest_15 : decode cX6_digest 15 = .ok (.iconst 0, 1) := by decide +kernel
theorem dX6_digest_16 : decode cX6_digest 16 = .ok (.istore_n 3, 1) := by decide +kernel
theorem dX6_digest_17 : decode cX6_digest 17 = .ok (.iload_n 3, 1) := by decide +kernel
theorem dX6_digest_18 : decode cX6_digest 18 = .ok (.aload_n 0, 1) := by decide +kernel
theorem dX6_digest_19 : decode cX6_digest 19 = .ok (.getfield 12, 3) := by decide +kernel
theorem dX6_digest_22 : decode cX6_digest 22 = .ok (.getfield 221, 3) := by decide +kernel
theorem dX6_digest_25 : decode cX6_digest 25 = .ok (.if_icmp .ge 16, 3) := by decide +kernel
theorem dX6_digest_28 : decode cX6_digest 28 = .ok (.aload_n 0, 1) := by decide +kernel
theorem dX6_digest_29 : decode cX6_digest 29 = .ok (.lload_n 1, 1) := by decide +kernel
theorem dX6_digest_30 : decode cX6_digest 30 = .ok (.iload_n 3, 1) := by decide +kernel
theorem dX6_digest_31 : decode cX6_digest 31 = .ok (.invokevirtual 338, 3) := by decide +kernel
theorem dX6_digest_34 : decode cX6_digest 34 = .ok (.lstore_n 1, 1) := by decide +kernel
theorem dX6_digest_35 : decode cX6_digest 35 = .ok (.iinc 3 1, 3) := by decide +kernel
theorem dX6_digest_38 : decode cX6_digest 38 = .ok (.goto (-21), 3) := by decide +kernel
theorem dX6_digest_41 : decode cX6_digest 41 = .ok (.iconst 0, 1) := by decide +kernel
theorem dX6_digest_42 : decode cX6_digest 42 = .ok (.istore_n 3, 1) := by decide +kernel
theorem dX6_digest_43 : decode cX6_digest 43 = .ok (.iload_n 3, 1) := by decide +kernel
theorem dX6_digest_44 : decode cX6_digest 44 = .ok (.iconst 5, 1) := by decide +kernel
theorem dX6_digest_45 : decode cX6_digest 45 = .ok (.if_icmp .ge 16, 3) := by decide +kernel
theorem dX6_digest_48 : decode cX6_digest 48 = .ok (.aload_n 0, 1) := by decide +kernel
theorem dX6_digest_49 : decode cX6_digest 49 = .ok (.lload_n 1, 1) := by decide +kernel
theorem dX6_digest_50 : decode cX6_digest 50 = .ok (.iload_n 3, 1) := by decide +kernel
theorem dX6_digest_51 : decode cX6_digest 51 = .ok (.invokevirtual 342, 3) := by decide +kernel
theorem dX6_digest_54 : decode cX6_digest 54 = .ok (.lstore_n 1, 1) := by decide +kernel
theorem dX6_digest_55 : decode cX6_digest 55 = .ok (.iinc 3 1, 3) := by decide +kernel
theorem dX6_digest_58 : decode cX6_digest 58 = .ok (.goto (-15), 3) := by decide +kernel
theorem dX6_digest_61 : decode cX6_digest 61 = .ok (.iconst 0, 1) := by decide +kernel
theorem dX6_digest_62 : decode cX6_digest 62 = .ok (.istore_n 3, 1) := by decide +kernel
theorem dX6_digest_63 : decode cX6_digest 63 = .ok (.iload_n 3, 1) := by decide +kernel
theorem dX6_digest_64 : decode cX6_digest 64 = .ok (.iconst 4, 1) := by decide +kernel
theorem dX6_digest_65 : decode cX6_digest 65 = .ok (.if_icmp .ge 16, 3) := by decide +kernel
theorem dX6_digest_68 : decode cX6_digest 68 = .ok (.aload_n 0, 1) := by decide +kernel
theorem dX6_digest_69 : decode cX6_digest 69 = .ok (.lload_n 1, 1) := by decide +kernel
theorem dX6_digest_70 : decode cX6_digest 70 = .ok (.iload_n 3, 1) := by decide +kernel
theorem dX6_digest_71 : decode cX6_digest 71 = .ok (.invokevirtual 345, 3) := by decide +kernel
theorem dX6_digest_74 : decode cX6_digest 74 = .ok (.lstore_n 1, 1) := by decide +kernel
theorem dX6_digest_75 : decode cX6_digest 75 = .ok (.iinc 3 1, 3) := by decide +kernel
theorem dX6_digest_78 : decode cX6_digest 78 = .ok (.goto (-15), 3) := by decide +kernel
theorem dX6_digest_81 : decode cX6_digest 81 = .ok (.lload_n 1, 1) := by decide +kernel
theorem dX6_digest_82 : decode cX6_digest 82 = .ok (.aload_n 0, 1) := by decide +kernel
theorem dX6_digest_83 : decode cX6_digest 83 = .ok (.getfield 12, 3) := by decide +kernel
theorem dX6_digest_86 : decode cX6_digest 86 = .ok (.invokestatic 278, 3) := by decide +kernel
theorem dX6_digest_89 : decode cX6_digest 89 = .ok (.i2l, 1) := by decide +kernel
theorem dX6_digest_90 : decode cX6_digest 90 = .ok (.invokestatic 334, 3) := by decide +kernel
theorem dX6_digest_93 : decode cX6_digest 93 = .ok (.lstore_n 1, 1) := by decide +kernel
theorem dX6_digest_94 : decode cX6_digest 94 = .ok (.lload_n 1, 1) := by decide +kernel
theorem dX6_digest_95 : decode cX6_digest 95 = .ok (.aload_n 0, 1) := by decide +kernel
theorem dX6_digest_96 : decode cX6_digest 96 = .ok (.getfield 22, 3) := by decide +kernel
theorem dX6_digest_99 : decode cX6_digest 99 = .ok (.aload_n 0, 1) := by decide +kernel
theorem dX6_digest_100 : decode cX6_digest 100 = .ok (.getfield 12, 3) := by decide +kernel
theorem dX6_digest_103 : decode cX6_digest 103 = .ok (.invokevirtual 260, 3) := by decide +kernel
theorem dX6_digest_106 : decode cX6_digest 106 = .ok (.i2l, 1) := by decide +kernel
theorem dX6_digest_107 : decode cX6_digest 107 = .ok (.invokestatic 334, 3) := by decide +kernel
theorem dX6_digest_110 : decode cX6_digest 110 = .ok (.lstore_n 1, 1) := by decide +kernel
theorem dX6_digest_111 : decode cX6_digest 111 = .ok (.lload_n 1, 1) := by decide +kernel
theorem dX6_digest_112 : decode cX6_digest 112 = .ok (.aload_n 0, 1) := by decide +kernel
theorem dX6_digest_113 : decode cX6_digest 113 = .ok (.getfield 22, 3) := by decide +kernel
theorem dX6_digest_116 : decode cX6_digest 116 = .ok (.aload_n 0, 1) := by decide +kernel
theorem dX6_digest_117 : decode cX6_digest 117 = .ok (.getfield 12, 3) := by decide +kernel
theorem dX6_digest_120 : decode cX6_digest 120 = .ok (.invokevirtual 263, 3) := by decide +kernel
theorem dX6_digest_123 : decode cX6_digest 123 = .ok (.i2l, 1) := by decide +kernel
theorem dX6_digest_124 : decode cX6_digest 124 = .ok (.invokestatic 334, 3) := by decide +kernel
theorem dX6_digest_127 : decode cX6_digest 127 = .ok (.lstore_n 1, 1) := by decide +kernel
theorem dX6_digest_128 : decode cX6_digest 128 = .ok (.aload_n 0, 1) := by decide +kernel
theorem dX6_digest_129 : decode cX6_digest 129 = .ok (.lload_n 1, 1) := by decide +kernel
theorem dX6_digest_130 : decode cX6_digest 130 = .ok (.invokevirtual 348, 3) := by decide +kernel
theorem dX6_digest_133 : decode cX6_digest 133 = .ok (.lstore_n 1, 1) := by decide +kernel
theorem dX6_digest_134 : decode cX6_digest 134 = .ok (.aload_n 0, 1) := by decide +kernel
theorem dX6_digest_135 : decode cX6_digest 135 = .ok (.lload_n 1, 1) := by decide +kernel
theorem dX6_digest_136 : decode cX6_digest 136 = .ok (.invokevirtual 352, 3) := by decide +kernel
theorem dX6_digest_139 : decode cX6_digest 139 = .ok (.lstore_n 1, 1) := by decide +kernel
theorem dX6_digest_140 : decode cX6_digest 140 = .ok (.iconst 0, 1) := by decide +kernel
theorem dX6_digest_141 : decode cX6_digest 141 = .ok (.istore_n 3, 1) := by decide +kernel
theorem dX6_digest_142 : decode cX6_digest 142 = .ok (.iload_n 3, 1) := by decide +kernel
theorem dX6_digest_143 : decode cX6_digest 143 = .ok (.iconst 2, 1) := by decide +kernel
theorem dX6_digest_144 : decode cX6_digest 144 = .ok (.if_icmp .ge 26, 3) := by decide +kernel
theorem dX6_digest_147 : decode cX6_digest 147 = .ok (.lload_n 1, 1) := by decide +kernel
theorem dX6_digest_148 : decode cX6_digest 148 = .ok (.aload_n 0, 1) := by decide +kernel
theorem dX6_digest_149 : decode cX6_digest 149 = .ok (.getfield 29, 3) := by decide +kernel
theorem dX6_digest_152 : decode cX6_digest 152 = .ok (.iload_n 3, 1) := by decide +kernel
theorem dX6_digest_153 : decode cX6_digest 153 = .ok (.invokevirtual 209, 3) := by decide +kernel
theorem dX6_digest_156 : decode cX6_digest 156 = .ok (.invokestatic 355, 3) := by decide +kernel
theorem dX6_digest_159 : decode cX6_digest 159 = .ok (.i2l, 1) := by decide +kernel
theorem dX6_digest_160 : decode cX6_digest 160 = .ok (.invokestatic 334, 3) := by decide +kernel
theorem dX6_digest_163 : decode cX6_digest 163 = .ok (.lstore_n 1, 1) := by decide +kernel
theorem dX6_digest_164 : decode cX6_digest 164 = .ok (.iinc 3 1, 3) := by decide +kernel
theorem dX6_digest_167 : decode cX6_digest 167 = .ok (.goto (-25), 3) := by decide +kernel
theorem dX6_digest_170 : decode cX6_digest 170 = .ok (.aload_n 0, 1) := by decide +kernel
theorem dX6_digest_171 : decode cX6_digest 171 = .ok (.getfield 36, 3) := by decide +kernel
theorem dX6_digest_174 : decode cX6_digest 174 = .ok (.lload_n 1, 1) := by decide +kernel
theorem dX6_digest_175 : decode cX6_digest 175 = .ok (.invokevirtual 359, 3) := by decide +kernel
theorem dX6_digest_178 : decode cX6_digest 178 = .ok (.lreturn, 1) := by decide +kernel
theorem dX6_withTicket_0 : decode cX6_withTicket 0 = .ok (.lload_n 1, 1) := by decide +kernel
theorem dX6_withTicket_1 : decode cX6_withTicket 1 = .ok (.aload_n 0, 1) := by decide +kernel
theorem dX6_withTicket_2 : decode cX6_withTicket 2 = .ok (.getfield 12, 3) := by decide +kernel
theorem dX6_withTicket_5 : decode cX6_withTicket 5 = .ok (.getfield 105, 3) := by decide +kernel
theorem dX6_withTicket_8 : decode cX6_withTicket 8 = .ok (.iload_n 3, 1) := by decide +kernel
theorem dX6_withTicket_9 : decode cX6_withTicket 9 = .ok (.iaload, 1) := by decide +kernel
theorem dX6_withTicket_10 : decode cX6_withTicket 10 = .ok (.i2l, 1) := by decide +kernel
theorem dX6_withTicket_11 : decode cX6_withTicket 11 = .ok (.invokestatic 334, 3) := by decide +kernel
theorem dX6_withTicket_14 : decode cX6_withTicket 14 = .ok (.lstore 4, 2) := by decide +kernel
theorem dX6_withTicket_16 : decode cX6_withTicket 16 = .ok (.lload 4, 2) := by decide +kernel
theorem dX6_withTicket_18 : decode cX6_withTicket 18 = .ok (.aload_n 0, 1) := by decide +kernel
theorem dX6_withTicket_19 : decode cX6_withTicket 19 = .ok (.getfield 12, 3) := by decide +kernel
theorem dX6_withTicket_22 : decode cX6_withTicket 22 = .ok (.getfield 224, 3) := by decide +kernel
theorem dX6_withTicket_25 : decode cX6_withTicket 25 = .ok (.iload_n 3, 1) := by decide +kernel
theorem dX6_withTicket_26 : decode cX6_withTicket 26 = .ok (.iaload, 1) := by decide +kernel
theorem dX6_withTicket_27 : decode cX6_withTicket 27 = .ok (.i2l, 1) := by decide +kernel
theorem dX6_withTicket_28 : decode cX6_withTicket 28 = .ok (.invokestatic 334, 3) := by decide +kernel
theorem dX6_withTicket_31 : decode cX6_withTicket 31 = .ok (.lstore 4, 2) := by decide +kernel
theorem dX6_withTicket_33 : decode cX6_withTicket 33 = .ok (.lload 4, 2) := by decide +kernel
theorem dX6_withTicket_35 : decode cX6_withTicket 35 = .ok (.aload_n 0, 1) := by decide +kernel
theorem dX6_withTicket_36 : decode cX6_withTicket 36 = .ok (.getfield 12, 3) := by decide +kernel
theorem dX6_withTicket_39 : decode cX6_withTicket 39 = .ok (.getfield 227, 3) := by decide +kernel
theorem dX6_withTicket_42 : decode cX6_withTicket 42 = .ok (.iload_n 3, 1) := by decide +kernel
theorem dX6_withTicket_43 : decode cX6_withTicket 43 = .ok (.iaload, 1) := by decide +kernel
theorem dX6_withTicket_44 : decode cX6_withTicket 44 = .ok (.i2l, 1) := by decide +kernel
theorem dX6_withTicket_45 : decode cX6_withTicket 45 = .ok (.invokestatic 334, 3) := by decide +kernel
theorem dX6_withTicket_48 : decode cX6_withTicket 48 = .ok (.lstore 4, 2) := by decide +kernel
theorem dX6_withTicket_50 : decode cX6_withTicket 50 = .ok (.lload 4, 2) := by decide +kernel
theorem dX6_withTicket_52 : decode cX6_withTicket 52 = .ok (.aload_n 0, 1) := by decide +kernel
theorem dX6_withTicket_53 : decode cX6_withTicket 53 = .ok (.getfield 12, 3) := by decide +kernel
theorem dX6_withTicket_56 : decode cX6_withTicket 56 = .ok (.getfield 101, 3) := by decide +kernel
theorem dX6_withTicket_59 : decode cX6_withTicket 59 = .ok (.iload_n 3, 1) := by decide +kernel
theorem dX6_withTicket_60 : decode cX6_withTicket 60 = .ok (.iaload, 1) := by decide +kernel
theorem dX6_withTicket_61 : decode cX6_withTicket 61 = .ok (.iconst 1, 1) := by decide +kernel
theorem dX6_withTicket_62 : decode cX6_withTicket 62 = .ok (.iadd, 1) := by decide +kernel
theorem dX6_withTicket_63 : decode cX6_withTicket 63 = .ok (.i2l, 1) := by decide +kernel
theorem dX6_withTicket_64 : decode cX6_withTicket 64 = .ok (.invokestatic 334, 3) := by decide +kernel
theorem dX6_withTicket_67 : decode cX6_withTicket 67 = .ok (.lstore 4, 2) := by decide +kernel
theorem dX6_withTicket_69 : decode cX6_withTicket 69 = .ok (.lload 4, 2) := by decide +kernel
theorem dX6_withTicket_71 : decode cX6_withTicket 71 = .ok (.aload_n 0, 1) := by decide +kernel
theorem dX6_withTicket_72 : decode cX6_withTicket 72 = .ok (.getfield 12, 3) := by decide +kernel
theorem dX6_withTicket_75 : decode cX6_withTicket 75 = .ok (.getfield 124, 3) := by decide +kernel
theorem dX6_withTicket_78 : decode cX6_withTicket 78 = .ok (.iload_n 3, 1) := by decide +kernel
theorem dX6_withTicket_79 : decode cX6_withTicket 79 = .ok (.iaload, 1) := by decide +kernel
theorem dX6_withTicket_80 : decode cX6_withTicket 80 = .ok (.iconst 1, 1) := by decide +kernel
theorem dX6_withTicket_81 : decode cX6_withTicket 81 = .ok (.iadd, 1) := by decide +kernel
theorem dX6_withTicket_82 : decode cX6_withTicket 82 = .ok (.i2l, 1) := by decide +kernel
theorem dX6_withTicket_83 : decode cX6_withTicket 83 = .ok (.invokestatic 334, 3) := by decide +kernel
theorem dX6_withTicket_86 : decode cX6_withTicket 86 = .ok (.lstore 4, 2) := by decide +kernel
theorem dX6_withTicket_88 : decode cX6_withTicket 88 = .ok (.lload 4, 2) := by decide +kernel
theorem dX6_withTicket_90 : decode cX6_withTicket 90 = .ok (.aload_n 0, 1) := by decide +kernel
theorem dX6_withTicket_91 : decode cX6_withTicket 91 = .ok (.getfield 12, 3) := by decide +kernel
theorem dX6_withTicket_94 : decode cX6_withTicket 94 = .ok (.getfield 230, 3) := by decide +kernel
theorem dX6_withTicket_97 : decode cX6_withTicket 97 = .ok (.iload_n 3, 1) := by decide +kernel
theorem dX6_withTicket_98 : decode cX6_withTicket 98 = .ok (.iaload, 1) := by decide +kernel
theorem dX6_withTicket_99 : decode cX6_withTicket 99 = .ok (.i2l, 1) := by decide +kernel
theorem dX6_withTicket_100 : decode cX6_withTicket 100 = .ok (.invokestatic 334, 3) := by decide +kernel
theorem dX6_withTicket_103 : decode cX6_withTicket 103 = .ok (.lstore 4, 2) := by decide +kernel
theorem dX6_withTicket_105 : decode cX6_withTicket 105 = .ok (.lload 4, 2) := by decide +kernel
theorem dX6_withTicket_107 : decode cX6_withTicket 107 = .ok (.aload_n 0, 1) := by decide +kernel
theorem dX6_withTicket_108 : decode cX6_withTicket 108 = .ok (.getfield 12, 3) := by decide +kernel
theorem dX6_withTicket_111 : decode cX6_withTicket 111 = .ok (.getfield 236, 3) := by decide +kernel
theorem dX6_withTicket_114 : decode cX6_withTicket 114 = .ok (.iload_n 3, 1) := by decide +kernel
theorem dX6_withTicket_115 : decode cX6_withTicket 115 = .ok (.iaload, 1) := by decide +kernel
theorem dX6_withTicket_116 : decode cX6_withTicket 116 = .ok (.i2l, 1) := by decide +kernel
theorem dX6_withTicket_117 : decode cX6_withTicket 117 = .ok (.invokestatic 334, 3) := by decide +kernel
theorem dX6_withTicket_120 : decode cX6_withTicket 120 = .ok (.lstore 4, 2) := by decide +kernel
theorem dX6_withTicket_122 : decode cX6_withTicket 122 = .ok (.lload 4, 2) := by decide +kernel
theorem dX6_withTicket_124 : decode cX6_withTicket 124 = .ok (.aload_n 0, 1) := by decide +kernel
theorem dX6_withTicket_125 : decode cX6_withTicket 125 = .ok (.getfield 12, 3) := by decide +kernel
theorem dX6_withTicket_128 : decode cX6_withTicket 128 = .ok (.getfield 239, 3) := by decide +kernel
theorem dX6_withTicket_131 : decode cX6_withTicket 131 = .ok (.iload_n 3, 1) := by decide +kernel
theorem dX6_withTicket_132 : decode cX6_withTicket 132 = .ok (.iaload, 1) := by decide +kernel
theorem dX6_withTicket_133 : decode cX6_withTicket 133 = .ok (.i2l, 1) := by decide +kernel
theorem dX6_withTicket_134 : decode cX6_withTicket 134 = .ok (.invokestatic 334, 3) := by decide +kernel
theorem dX6_withTicket_137 : decode cX6_withTicket 137 = .ok (.lstore 4, 2) := by decide +kernel
theorem dX6_withTicket_139 : decode cX6_withTicket 139 = .ok (.aload_n 0, 1) := by decide +kernel
theorem dX6_withTicket_140 : decode cX6_withTicket 140 = .ok (.getfield 12, 3) := by decide +kernel
theorem dX6_withTicket_143 : decode cX6_withTicket 143 = .ok (.iload_n 3, 1) := by decide +kernel
theorem dX6_withTicket_144 : decode cX6_withTicket 144 = .ok (.invokevirtual 248, 3) := by decide +kernel
theorem dX6_withTicket_147 : decode cX6_withTicket 147 = .ok (.invokestatic 162, 3) := by decide +kernel
theorem dX6_withTicket_150 : decode cX6_withTicket 150 = .ok (.istore 6, 2) := by decide +kernel
theorem dX6_withTicket_152 : decode cX6_withTicket 152 = .ok (.lload 4, 2) := by decide +kernel
theorem dX6_withTicket_154 : decode cX6_withTicket 154 = .ok (.iload 6, 2) := by decide +kernel
theorem dX6_withTicket_156 : decode cX6_withTicket 156 = .ok (.ifCond .le 7, 3) := by decide +kernel
theorem dX6_withTicket_159 : decode cX6_withTicket 159 = .ok (.iconst 1, 1) := by decide +kernel
theorem dX6_withTicket_160 : decode cX6_withTicket 160 = .ok (.goto 4, 3) := by decide +kernel
theorem dX6_withTicket_163 : decode cX6_withTicket 163 = .ok (.iconst 0, 1) := by decide +kernel
theorem dX6_withTicket_164 : decode cX6_withTicket 164 = .ok (.invokestatic 355, 3) := by decide +kernel
theorem dX6_withTicket_167 : decode cX6_withTicket 167 = .ok (.i2l, 1) := by decide +kernel
theorem dX6_withTicket_168 : decode cX6_withTicket 168 = .ok (.invokestatic 334, 3) := by decide +kernel
theorem dX6_withTicket_171 : decode cX6_withTicket 171 = .ok (.lstore 4, 2) := by decide +kernel
theorem dX6_withTicket_173 : decode cX6_withTicket 173 = .ok (.lload 4, 2) := by decide +kernel
theorem dX6_withTicket_175 : decode cX6_withTicket 175 = .ok (.iload 6, 2) := by decide +kernel
theorem dX6_withTicket_177 : decode cX6_withTicket 177 = .ok (.i2l, 1) := by decide +kernel
theorem dX6_withTicket_178 : decode cX6_withTicket 178 = .ok (.invokestatic 334, 3) := by decide +kernel
theorem dX6_withTicket_181 : decode cX6_withTicket 181 = .ok (.lstore 4, 2) := by decide +kernel
theorem dX6_withTicket_183 : decode cX6_withTicket 183 = .ok (.lload 4, 2) := by decide +kernel
theorem dX6_withTicket_185 : decode cX6_withTicket 185 = .ok (.aload_n 0, 1) := by decide +kernel
theorem dX6_withTicket_186 : decode cX6_withTicket 186 = .ok (.getfield 12, 3) := by decide +kernel
theorem dX6_withTicket_189 : decode cX6_withTicket 189 = .ok (.iload_n 3, 1) := by decide +kernel
theorem dX6_withTicket_190 : decode cX6_withTicket 190 = .ok (.invokevirtual 251, 3) := by decide +kernel
theorem dX6_withTicket_193 : decode cX6_withTicket 193 = .ok (.invokestatic 162, 3) := by decide +kernel
theorem dX6_withTicket_196 : decode cX6_withTicket 196 = .ok (.i2l, 1) := by decide +kernel
theorem dX6_withTicket_197 : decode cX6_withTicket 197 = .ok (.invokestatic 334, 3) := by decide +kernel
theorem dX6_withTicket_200 : decode cX6_withTicket 200 = .ok (.lstore 4, 2) := by decide +kernel
theorem dX6_withTicket_202 : decode cX6_withTicket 202 = .ok (.lload 4, 2) := by decide +kernel
theorem dX6_withTicket_204 : decode cX6_withTicket 204 = .ok (.aload_n 0, 1) := by decide +kernel
theorem dX6_withTicket_205 : decode cX6_withTicket 205 = .ok (.getfield 22, 3) := by decide +kernel
theorem dX6_withTicket_208 : decode cX6_withTicket 208 = .ok (.aload_n 0, 1) := by decide +kernel
theorem dX6_withTicket_209 : decode cX6_withTicket 209 = .ok (.getfield 12, 3) := by decide +kernel
theorem dX6_withTicket_212 : decode cX6_withTicket 212 = .ok (.iload_n 3, 1) := by decide +kernel
theorem dX6_withTicket_213 : decode cX6_withTicket 213 = .ok (.invokevirtual 254, 3) := by decide +kernel
theorem dX6_withTicket_216 : decode cX6_withTicket 216 = .ok (.i2l, 1) := by decide +kernel
theorem dX6_withTicket_217 : decode cX6_withTicket 217 = .ok (.invokestatic 334, 3) := by decide +kernel
theorem dX6_withTicket_220 : decode cX6_withTicket 220 = .ok (.lstore 4, 2) := by decide +kernel
theorem dX6_withTicket_222 : decode cX6_withTicket 222 = .ok (.lload 4, 2) := by decide +kernel
theorem dX6_withTicket_224 : decode cX6_withTicket 224 = .ok (.aload_n 0, 1) := by decide +kernel
theorem dX6_withTicket_225 : decode cX6_withTicket 225 = .ok (.getfield 12, 3) := by decide +kernel
theorem dX6_withTicket_228 : decode cX6_withTicket 228 = .ok (.iload_n 3, 1) := by decide +kernel
theorem dX6_withTicket_229 : decode cX6_withTicket 229 = .ok (.invokestatic 257, 3) := by decide +kernel
theorem dX6_withTicket_232 : decode cX6_withTicket 232 = .ok (.i2l, 1) := by decide +kernel
theorem dX6_withTicket_233 : decode cX6_withTicket 233 = .ok (.invokestatic 334, 3) := by decide +kernel
theorem dX6_withTicket_236 : decode cX6_withTicket 236 = .ok (.lstore 4, 2) := by decide +kernel
theorem dX6_withTicket_238 : decode cX6_withTicket 238 = .ok (.iconst 0, 1) := by decide +kernel
theorem dX6_withTicket_239 : decode cX6_withTicket 239 = .ok (.istore 7, 2) := by decide +kernel
theorem dX6_withTicket_241 : decode cX6_withTicket 241 = .ok (.iload 7, 2) := by decide +kernel
theorem dX6_withTicket_243 : decode cX6_withTicket 243 = .ok (.aload_n 0, 1) := by decide +kernel
theorem dX6_withTicket_244 : decode cX6_withTicket 244 = .ok (.getfield 12, 3) := by decide +kernel
theorem dX6_withTicket_247 : decode cX6_withTicket 247 = .ok (.getfield 221, 3) := by decide +kernel
theorem dX6_withTicket_250 : decode cX6_withTicket 250 = .ok (.if_icmp .ge 30, 3) := by decide +kernel
theorem dX6_withTicket_253 : decode cX6_withTicket 253 = .ok (.lload 4, 2) := by decide +kernel
theorem dX6_withTicket_255 : decode cX6_withTicket 255 = .ok (.aload_n 0, 1) := by decide +kernel
theorem dX6_withTicket_256 : decode cX6_withTicket 256 = .ok (.getfield 12, 3) := by decide +kernel
theorem dX6_withTicket_259 : decode cX6_withTicket 259 = .ok (.iload_n 3, 1) := by decide +kernel
theorem dX6_withTicket_260 : decode cX6_withTicket 260 = .ok (.iload 7, 2) := by decide +kernel
theorem dX6_withTicket_262 : decode cX6_withTicket 262 = .ok (.invokevirtual 86, 3) := by decide +kernel
theorem dX6_withTicket_265 : decode cX6_withTicket 265 = .ok (.invokestatic 355, 3) := by decide +kernel
theorem dX6_withTicket_268 : decode cX6_withTicket 268 = .ok (.i2l, 1) := by decide +kernel
theorem dX6_withTicket_269 : decode cX6_withTicket 269 = .ok (.invokestatic 334, 3) := by decide +kernel
theorem dX6_withTicket_272 : decode cX6_withTicket 272 = .ok (.lstore 4, 2) := by decide +kernel
theorem dX6_withTicket_274 : decode cX6_withTicket 274 = .ok (.iinc 7 1, 3) := by decide +kernel
theorem dX6_withTicket_277 : decode cX6_withTicket 277 = .ok (.goto (-36), 3) := by decide +kernel
theorem dX6_withTicket_280 : decode cX6_withTicket 280 = .ok (.lload 4, 2) := by decide +kernel
theorem dX6_withTicket_282 : decode cX6_withTicket 282 = .ok (.lreturn, 1) := by decide +kernel
theorem dX6_withOwner_0 : decode cX6_withOwner 0 = .ok (.lload_n 1, 1) := by decide +kernel
theorem dX6_withOwner_1 : decode cX6_withOwner 1 = .ok (.aload_n 0, 1) := by decide +kernel
theorem dX6_withOwner_2 : decode cX6_withOwner 2 = .ok (.getfield 12, 3) := by decide +kernel
theorem dX6_withOwner_5 : decode cX6_withOwner 5 = .ok (.getfield 266, 3) := by decide +kernel
theorem dX6_withOwner_8 : decode cX6_withOwner 8 = .ok (.iload_n 3, 1) := by decide +kernel
theorem dX6_withOwner_9 : decode cX6_withOwner 9 = .ok (.iaload, 1) := by decide +kernel
theorem dX6_withOwner_10 : decode cX6_withOwner 10 = .ok (.i2l, 1) := by decide +kernel
theorem dX6_withOwner_11 : decode cX6_withOwner 11 = .ok (.invokestatic 334, 3) := by decide +kernel
theorem dX6_withOwner_14 : decode cX6_withOwner 14 = .ok (.lstore 4, 2) := by decide +kernel
theorem dX6_withOwner_16 : decode cX6_withOwner 16 = .ok (.lload 4, 2) := by decide +kernel
theorem dX6_withOwner_18 : decode cX6_withOwner 18 = .ok (.aload_n 0, 1) := by decide +kernel
theorem dX6_withOwner_19 : decode cX6_withOwner 19 = .ok (.getfield 12, 3) := by decide +kernel
theorem dX6_withOwner_22 : decode cX6_withOwner 22 = .ok (.iload_n 3, 1) := by decide +kernel
theorem dX6_withOwner_23 : decode cX6_withOwner 23 = .ok (.invokestatic 269, 3) := by decide +kernel
theorem dX6_withOwner_26 : decode cX6_withOwner 26 = .ok (.i2l, 1) := by decide +kernel
theorem dX6_withOwner_27 : decode cX6_withOwner 27 = .ok (.invokestatic 334, 3) := by decide +kernel
theorem dX6_withOwner_30 : decode cX6_withOwner 30 = .ok (.lstore 4, 2) := by decide +kernel
theorem dX6_withOwner_32 : decode cX6_withOwner 32 = .ok (.lload 4, 2) := by decide +kernel
theorem dX6_withOwner_34 : decode cX6_withOwner 34 = .ok (.aload_n 0, 1) := by decide +kernel
theorem dX6_withOwner_35 : decode cX6_withOwner 35 = .ok (.getfield 12, 3) := by decide +kernel
theorem dX6_withOwner_38 : decode cX6_withOwner 38 = .ok (.getfield 112, 3) := by decide +kernel
theorem dX6_withOwner_41 : decode cX6_withOwner 41 = .ok (.iload_n 3, 1) := by decide +kernel
theorem dX6_withOwner_42 : decode cX6_withOwner 42 = .ok (.iaload, 1) := by decide +kernel
theorem dX6_withOwner_43 : decode cX6_withOwner 43 = .ok (.i2l, 1) := by decide +kernel
theorem dX6_withOwner_44 : decode cX6_withOwner 44 = .ok (.invokestatic 334, 3) := by decide +kernel
theorem dX6_withOwner_47 : decode cX6_withOwner 47 = .ok (.lstore 4, 2) := by decide +kernel
theorem dX6_withOwner_49 : decode cX6_withOwner 49 = .ok (.lload 4, 2) := by decide +kernel
theorem dX6_withOwner_51 : decode cX6_withOwner 51 = .ok (.aload_n 0, 1) := by decide +kernel
theorem dX6_withOwner_52 : decode cX6_withOwner 52 = .ok (.getfield 12, 3) := by decide +kernel
theorem dX6_withOwner_55 : decode cX6_withOwner 55 = .ok (.iload_n 3, 1) := by decide +kernel
theorem dX6_withOwner_56 : decode cX6_withOwner 56 = .ok (.invokestatic 272, 3) := by decide +kernel
theorem dX6_withOwner_59 : decode cX6_withOwner 59 = .ok (.i2l, 1) := by decide +kernel
theorem dX6_withOwner_60 : decode cX6_withOwner 60 = .ok (.invokestatic 334, 3) := by decide +kernel
theorem dX6_withOwner_63 : decode cX6_withOwner 63 = .ok (.lstore 4, 2) := by decide +kernel
theorem dX6_withOwner_65 : decode cX6_withOwner 65 = .ok (.lload 4, 2) := by decide +kernel
theorem dX6_withOwner_67 : decode cX6_withOwner 67 = .ok (.aload_n 0, 1) := by decide +kernel
theorem dX6_withOwner_68 : decode cX6_withOwner 68 = .ok (.getfield 12, 3) := by decide +kernel
theorem dX6_withOwner_71 : decode cX6_withOwner 71 = .ok (.iload_n 3, 1) := by decide +kernel
theorem dX6_withOwner_72 : decode cX6_withOwner 72 = .ok (.invokestatic 275, 3) := by decide +kernel
theorem dX6_withOwner_75 : decode cX6_withOwner 75 = .ok (.i2l, 1) := by decide +kernel
theorem dX6_withOwner_76 : decode cX6_withOwner 76 = .ok (.invokestatic 334, 3) := by decide +kernel
theorem dX6_withOwner_79 : decode cX6_withOwner 79 = .ok (.lreturn, 1) := by decide +kernel
theorem dX6_withMilestone_0 : decode cX6_withMilestone 0 = .ok (.lload_n 1, 1) := by decide +kernel
theorem dX6_withMilestone_1 : decode cX6_withMilestone 1 = .ok (.aload_n 0, 1) := by decide +kernel
theorem dX6_withMilestone_2 : decode cX6_withMilestone 2 = .ok (.getfield 12, 3) := by decide +kernel
theorem dX6_withMilestone_5 : decode cX6_withMilestone 5 = .ok (.getfield 281, 3) := by decide +kernel
theorem dX6_withMilestone_8 : decode cX6_withMilestone 8 = .ok (.iload_n 3, 1) := by decide +kernel
theorem dX6_withMilestone_9 : decode cX6_withMilestone 9 = .ok (.iaload, 1) := by decide +kernel
theorem dX6_withMilestone_10 : decode cX6_withMilestone 10 = .ok (.i2l, 1) := by decide +kernel
theorem dX6_withMilestone_11 : decode cX6_withMilestone 11 = .ok (.invokestatic 334, 3) := by decide +kernel
theorem dX6_withMilestone_14 : decode cX6_withMilestone 14 = .ok (.lstore 4, 2) := by decide +kernel
theorem dX6_withMilestone_16 : decode cX6_withMilestone 16 = .ok (.lload 4, 2) := by decide +kernel
theorem dX6_withMilestone_18 : decode cX6_withMilestone 18 = .ok (.aload_n 0, 1) := by decide +kernel
theorem dX6_withMilestone_19 : decode cX6_withMilestone 19 = .ok (.getfield 12, 3) := by decide +kernel
theorem dX6_withMilestone_22 : decode cX6_withMilestone 22 = .ok (.iload_n 3, 1) := by decide +kernel
theorem dX6_withMilestone_23 : decode cX6_withMilestone 23 = .ok (.invokestatic 127, 3) := by decide +kernel
theorem dX6_withMilestone_26 : decode cX6_withMilestone 26 = .ok (.i2l, 1) := by decide +kernel
theorem dX6_withMilestone_27 : decode cX6_withMilestone 27 = .ok (.invokestatic 334, 3) := by decide +kernel
theorem dX6_withMilestone_30 : decode cX6_withMilestone 30 = .ok (.lstore 4, 2) := by decide +kernel
theorem dX6_withMilestone_32 : decode cX6_withMilestone 32 = .ok (.lload 4, 2) := by decide +kernel
theorem dX6_withMilestone_34 : decode cX6_withMilestone 34 = .ok (.aload_n 0, 1) := by decide +kernel
theorem dX6_withMilestone_35 : decode cX6_withMilestone 35 = .ok (.getfield 12, 3) := by decide +kernel
theorem dX6_withMilestone_38 : decode cX6_withMilestone 38 = .ok (.iload_n 3, 1) := by decide +kernel
theorem dX6_withMilestone_39 : decode cX6_withMilestone 39 = .ok (.invokestatic 284, 3) := by decide +kernel
theorem dX6_withMilestone_42 : decode cX6_withMilestone 42 = .ok (.i2l, 1) := by decide +kernel
theorem dX6_withMilestone_43 : decode cX6_withMilestone 43 = .ok (.invokestatic 334, 3) := by decide +kernel
theorem dX6_withMilestone_46 : decode cX6_withMilestone 46 = .ok (.lstore 4, 2) := by decide +kernel
theorem dX6_withMilestone_48 : decode cX6_withMilestone 48 = .ok (.lload 4, 2) := by decide +kernel
theorem dX6_withMilestone_50 : decode cX6_withMilestone 50 = .ok (.aload_n 0, 1) := by decide +kernel
theorem dX6_withMilestone_51 : decode cX6_withMilestone 51 = .ok (.getfield 12, 3) := by decide +kernel
theorem dX6_withMilestone_54 : decode cX6_withMilestone 54 = .ok (.iload_n 3, 1) := by decide +kernel
theorem dX6_withMilestone_55 : decode cX6_withMilestone 55 = .ok (.invokestatic 287, 3) := by decide +kernel
theorem dX6_withMilestone_58 : decode cX6_withMilestone 58 = .ok (.i2l, 1) := by decide +kernel
theorem dX6_withMilestone_59 : decode cX6_withMilestone 59 = .ok (.invokestatic 334, 3) := by decide +kernel
theorem dX6_withMilestone_62 : decode cX6_withMilestone 62 = .ok (.lstore 4, 2) := by decide +kernel
theorem dX6_withMilestone_64 : decode cX6_withMilestone 64 = .ok (.lload 4, 2) := by decide +kernel
theorem dX6_withMilestone_66 : decode cX6_withMilestone 66 = .ok (.aload_n 0, 1) := by decide +kernel
theorem dX6_withMilestone_67 : decode cX6_withMilestone 67 = .ok (.getfield 12, 3) := by decide +kernel
theorem dX6_withMilestone_70 : decode cX6_withMilestone 70 = .ok (.iload_n 3, 1) := by decide +kernel
theorem dX6_withMilestone_71 : decode cX6_withMilestone 71 = .ok (.invokestatic 290, 3) := by decide +kernel
theorem dX6_withMilestone_74 : decode cX6_withMilestone 74 = .ok (.invokestatic 355, 3) := by decide +kernel
theorem dX6_withMilestone_77 : decode cX6_withMilestone 77 = .ok (.i2l, 1) := by decide +kernel
theorem dX6_withMilestone_78 : decode cX6_withMilestone 78 = .ok (.invokestatic 334, 3) := by decide +kernel
theorem dX6_withMilestone_81 : decode cX6_withMilestone 81 = .ok (.lstore 4, 2) := by decide +kernel
theorem dX6_withMilestone_83 : decode cX6_withMilestone 83 = .ok (.lload 4, 2) := by decide +kernel
theorem dX6_withMilestone_85 : decode cX6_withMilestone 85 = .ok (.aload_n 0, 1) := by decide +kernel
theorem dX6_withMilestone_86 : decode cX6_withMilestone 86 = .ok (.getfield 12, 3) := by decide +kernel
theorem dX6_withMilestone_89 : decode cX6_withMilestone 89 = .ok (.iload_n 3, 1) := by decide +kernel
theorem dX6_withMilestone_90 : decode cX6_withMilestone 90 = .ok (.invokestatic 294, 3) := by decide +kernel
theorem dX6_withMilestone_93 : decode cX6_withMilestone 93 = .ok (.i2l, 1) := by decide +kernel
theorem dX6_withMilestone_94 : decode cX6_withMilestone 94 = .ok (.invokestatic 334, 3) := by decide +kernel
theorem dX6_withMilestone_97 : decode cX6_withMilestone 97 = .ok (.lreturn, 1) := by decide +kernel
theorem dX6_withWhatToDo_0 : decode cX6_withWhatToDo 0 = .ok (.lload_n 1, 1) := by decide +kernel
theorem dX6_withWhatToDo_1 : decode cX6_withWhatToDo 1 = .ok (.aload_n 0, 1) := by decide +kernel
theorem dX6_withWhatToDo_2 : decode cX6_withWhatToDo 2 = .ok (.getfield 12, 3) := by decide +kernel
theorem dX6_withWhatToDo_5 : decode cX6_withWhatToDo 5 = .ok (.invokestatic 300, 3) := by decide +kernel
theorem dX6_withWhatToDo_8 : decode cX6_withWhatToDo 8 = .ok (.iconst 1, 1) := by decide +kernel
theorem dX6_withWhatToDo_9 : decode cX6_withWhatToDo 9 = .ok (.iadd, 1) := by decide +kernel
theorem dX6_withWhatToDo_10 : decode cX6_withWhatToDo 10 = .ok (.i2l, 1) := by decide +kernel
theorem dX6_withWhatToDo_11 : decode cX6_withWhatToDo 11 = .ok (.invokestatic 334, 3) := by decide +kernel
theorem dX6_withWhatToDo_14 : decode cX6_withWhatToDo 14 = .ok (.lstore_n 3, 1) := by decide +kernel
theorem dX6_withWhatToDo_15 : decode cX6_withWhatToDo 15 = .ok (.aload_n 0, 1) := by decide +kernel
theorem dX6_withWhatToDo_16 : decode cX6_withWhatToDo 16 = .ok (.getfield 22, 3) := by decide +kernel
theorem dX6_withWhatToDo_19 : decode cX6_withWhatToDo 19 = .ok (.aload_n 0, 1) := by decide +kernel
theorem dX6_withWhatToDo_20 : decode cX6_withWhatToDo 20 = .ok (.getfield 12, 3) := by decide +kernel
theorem dX6_withWhatToDo_23 : decode cX6_withWhatToDo 23 = .ok (.invokevirtual 303, 3) := by decide +kernel
theorem dX6_withWhatToDo_26 : decode cX6_withWhatToDo 26 = .ok (.istore 5, 2) := by decide +kernel
theorem dX6_withWhatToDo_28 : decode cX6_withWhatToDo 28 = .ok (.iconst 0, 1) := by decide +kernel
theorem dX6_withWhatToDo_29 : decode cX6_withWhatToDo 29 = .ok (.istore 6, 2) := by decide +kernel
theorem dX6_withWhatToDo_31 : decode cX6_withWhatToDo 31 = .ok (.iload 6, 2) := by decide +kernel
theorem dX6_withWhatToDo_33 : decode cX6_withWhatToDo 33 = .ok (.iload 5, 2) := by decide +kernel
theorem dX6_withWhatToDo_35 : decode cX6_withWhatToDo 35 = .ok (.if_icmp .ge 25, 3) := by decide +kernel
theorem dX6_withWhatToDo_38 : decode cX6_withWhatToDo 38 = .ok (.lload_n 3, 1) := by decide +kernel
theorem dX6_withWhatToDo_39 : decode cX6_withWhatToDo 39 = .ok (.aload_n 0, 1) := by decide +kernel
theorem dX6_withWhatToDo_40 : decode cX6_withWhatToDo 40 = .ok (.getfield 22, 3) := by decide +kernel
theorem dX6_withWhatToDo_43 : decode cX6_withWhatToDo 43 = .ok (.getfield 306, 3) := by decide +kernel
theorem dX6_withWhatToDo_46 : decode cX6_withWhatToDo 46 = .ok (.iload 6, 2) := by decide +kernel
theorem dX6_withWhatToDo_48 : decode cX6_withWhatToDo 48 = .ok (.iaload, 1) := by decide +kernel
theorem dX6_withWhatToDo_49 : decode cX6_withWhatToDo 49 = .ok (.i2l, 1) := by decide +kernel
theorem dX6_withWhatToDo_50 : decode cX6_withWhatToDo 50 = .ok (.invokestatic 334, 3) := by decide +kernel
theorem dX6_withWhatToDo_53 : decode cX6_withWhatToDo 53 = .ok (.lstore_n 3, 1) := by decide +kernel
theorem dX6_withWhatToDo_54 : decode cX6_withWhatToDo 54 = .ok (.iinc 6 1, 3) := by decide +kernel
theorem dX6_withWhatToDo_57 : decode cX6_withWhatToDo 57 = .ok (.goto (-26), 3) := by decide +kernel
theorem dX6_withWhatToDo_60 : decode cX6_withWhatToDo 60 = .ok (.lload_n 3, 1) := by decide +kernel
theorem dX6_withWhatToDo_61 : decode cX6_withWhatToDo 61 = .ok (.lreturn, 1) := by decide +kernel
theorem dX6_withAccounts_0 : decode cX6_withAccounts 0 = .ok (.lload_n 1, 1) := by decide +kernel
theorem dX6_withAccounts_1 : decode cX6_withAccounts 1 = .ok (.aload_n 0, 1) := by decide +kernel
theorem dX6_withAccounts_2 : decode cX6_withAccounts 2 = .ok (.getfield 12, 3) := by decide +kernel
theorem dX6_withAccounts_5 : decode cX6_withAccounts 5 = .ok (.getfield 309, 3) := by decide +kernel
theorem dX6_withAccounts_8 : decode cX6_withAccounts 8 = .ok (.i2l, 1) := by decide +kernel
theorem dX6_withAccounts_9 : decode cX6_withAccounts 9 = .ok (.invokestatic 334, 3) := by decide +kernel
theorem dX6_withAccounts_12 : decode cX6_withAccounts 12 = .ok (.lstore_n 3, 1) := by decide +kernel
theorem dX6_withAccounts_13 : decode cX6_withAccounts 13 = .ok (.lload_n 3, 1) := by decide +kernel
theorem dX6_withAccounts_14 : decode cX6_withAccounts 14 = .ok (.aload_n 0, 1) := by decide +kernel
theorem dX6_withAccounts_15 : decode cX6_withAccounts 15 = .ok (.getfield 12, 3) := by decide +kernel
theorem dX6_withAccounts_18 : decode cX6_withAccounts 18 = .ok (.invokestatic 319, 3) := by decide +kernel
theorem dX6_withAccounts_21 : decode cX6_withAccounts 21 = .ok (.i2l, 1) := by decide +kernel
theorem dX6_withAccounts_22 : decode cX6_withAccounts 22 = .ok (.invokestatic 334, 3) := by decide +kernel
theorem dX6_withAccounts_25 : decode cX6_withAccounts 25 = .ok (.lstore_n 3, 1) := by decide +kernel
theorem dX6_withAccounts_26 : decode cX6_withAccounts 26 = .ok (.lload_n 3, 1) := by decide +kernel
theorem dX6_withAccounts_27 : decode cX6_withAccounts 27 = .ok (.aload_n 0, 1) := by decide +kernel
theorem dX6_withAccounts_28 : decode cX6_withAccounts 28 = .ok (.getfield 12, 3) := by decide +kernel
theorem dX6_withAccounts_31 : decode cX6_withAccounts 31 = .ok (.getfield 198, 3) := by decide +kernel
theorem dX6_withAccounts_34 : decode cX6_withAccounts 34 = .ok (.i2l, 1) := by decide +kernel
theorem dX6_withAccounts_35 : decode cX6_withAccounts 35 = .ok (.invokestatic 334, 3) := by decide +kernel
theorem dX6_withAccounts_38 : decode cX6_withAccounts 38 = .ok (.lstore_n 3, 1) := by decide +kernel
theorem dX6_withAccounts_39 : decode cX6_withAccounts 39 = .ok (.lload_n 3, 1) := by decide +kernel
theorem dX6_withAccounts_40 : decode cX6_withAccounts 40 = .ok (.aload_n 0, 1) := by decide +kernel
theorem dX6_withAccounts_41 : decode cX6_withAccounts 41 = .ok (.getfield 12, 3) := by decide +kernel
theorem dX6_withAccounts_44 : decode cX6_withAccounts 44 = .ok (.getfield 322, 3) := by decide +kernel
theorem dX6_withAccounts_47 : decode cX6_withAccounts 47 = .ok (.i2l, 1) := by decide +kernel
theorem dX6_withAccounts_48 : decode cX6_withAccounts 48 = .ok (.invokestatic 334, 3) := by decide +kernel
theorem dX6_withAccounts_51 : decode cX6_withAccounts 51 = .ok (.lstore_n 3, 1) := by decide +kernel
theorem dX6_withAccounts_52 : decode cX6_withAccounts 52 = .ok (.lload_n 3, 1) := by decide +kernel
theorem dX6_withAccounts_53 : decode cX6_withAccounts 53 = .ok (.aload_n 0, 1) := by decide +kernel
theorem dX6_withAccounts_54 : decode cX6_withAccounts 54 = .ok (.getfield 12, 3) := by decide +kernel
theorem dX6_withAccounts_57 : decode cX6_withAccounts 57 = .ok (.invokestatic 325, 3) := by decide +kernel
theorem dX6_withAccounts_60 : decode cX6_withAccounts 60 = .ok (.i2l, 1) := by decide +kernel
theorem dX6_withAccounts_61 : decode cX6_withAccounts 61 = .ok (.invokestatic 334, 3) := by decide +kernel
theorem dX6_withAccounts_64 : decode cX6_withAccounts 64 = .ok (.lstore_n 3, 1) := by decide +kernel
theorem dX6_withAccounts_65 : decode cX6_withAccounts 65 = .ok (.lload_n 3, 1) := by decide +kernel
theorem dX6_withAccounts_66 : decode cX6_withAccounts 66 = .ok (.aload_n 0, 1) := by decide +kernel
theorem dX6_withAccounts_67 : decode cX6_withAccounts 67 = .ok (.getfield 29, 3) := by decide +kernel
theorem dX6_withAccounts_70 : decode cX6_withAccounts 70 = .ok (.invokevirtual 215, 3) := by decide +kernel
theorem dX6_withAccounts_73 : decode cX6_withAccounts 73 = .ok (.i2l, 1) := by decide +kernel
theorem dX6_withAccounts_74 : decode cX6_withAccounts 74 = .ok (.invokestatic 334, 3) := by decide +kernel
theorem dX6_withAccounts_77 : decode cX6_withAccounts 77 = .ok (.lstore_n 3, 1) := by decide +kernel
theorem dX6_withAccounts_78 : decode cX6_withAccounts 78 = .ok (.lload_n 3, 1) := by decide +kernel
theorem dX6_withAccounts_79 : decode cX6_withAccounts 79 = .ok (.aload_n 0, 1) := by decide +kernel
theorem dX6_withAccounts_80 : decode cX6_withAccounts 80 = .ok (.getfield 12, 3) := by decide +kernel
theorem dX6_withAccounts_83 : decode cX6_withAccounts 83 = .ok (.invokestatic 328, 3) := by decide +kernel
theorem dX6_withAccounts_86 : decode cX6_withAccounts 86 = .ok (.invokestatic 362, 3) := by decide +kernel
theorem dX6_withAccounts_89 : decode cX6_withAccounts 89 = .ok (.invokestatic 334, 3) := by decide +kernel
theorem dX6_withAccounts_92 : decode cX6_withAccounts 92 = .ok (.lreturn, 1) := by decide +kernel
theorem dX6_mixed_0 : decode cX6_mixed 0 = .ok (.ldc2_w 366, 3) := by decide +kernel
theorem dX6_mixed_3 : decode cX6_mixed 3 = .ok (.lload_n 0, 1) := by decide +kernel
theorem dX6_mixed_4 : decode cX6_mixed 4 = .ok (.lmul, 1) := by decide +kernel
theorem dX6_mixed_5 : decode cX6_mixed 5 = .ok (.lload_n 2, 1) := by decide +kernel
theorem dX6_mixed_6 : decode cX6_mixed 6 = .ok (.ladd, 1) := by decide +kernel
theorem dX6_mixed_7 : decode cX6_mixed 7 = .ok (.lreturn, 1) := by decide +kernel
theorem dX6_oneIf_0 : decode cX6_oneIf 0 = .ok (.iload_n 0, 1) := by decide +kernel
theorem dX6_oneIf_1 : decode cX6_oneIf 1 = .ok (.ifCond .eq 7, 3) := by decide +kernel
theorem dX6_oneIf_4 : decode cX6_oneIf 4 = .ok (.iconst 1, 1) := by decide +kernel
theorem dX6_oneIf_5 : decode cX6_oneIf 5 = .ok (.goto 4, 3) := by decide +kernel
theorem dX6_oneIf_8 : decode cX6_oneIf 8 = .ok (.iconst 0, 1) := by decide +kernel
theorem dX6_oneIf_9 : decode cX6_oneIf 9 = .ok (.ireturn, 1) := by decide +kernel
theorem dX6_bitsOf_0 : decode cX6_bitsOf 0 = .ok (.dload_n 0, 1) := by decide +kernel
theorem dX6_bitsOf_1 : decode cX6_bitsOf 1 = .ok (.dconst 0, 1) := by decide +kernel
theorem dX6_bitsOf_2 : decode cX6_bitsOf 2 = .ok (.dcmp .g, 1) := by decide +kernel
theorem dX6_bitsOf_3 : decode cX6_bitsOf 3 = .ok (.ifCond .gt 5, 3) := by decide +kernel
theorem dX6_bitsOf_6 : decode cX6_bitsOf 6 = .ok (.lconst 0, 1) := by decide +kernel
theorem dX6_bitsOf_7 : decode cX6_bitsOf 7 = .ok (.lreturn, 1) := by decide +kernel
theorem dX6_bitsOf_8 : decode cX6_bitsOf 8 = .ok (.ldc2_w 368, 3) := by decide +kernel
theorem dX6_bitsOf_11 : decode cX6_bitsOf 11 = .ok (.lstore_n 2, 1) := by decide +kernel
theorem dX6_bitsOf_12 : decode cX6_bitsOf 12 = .ok (.dload_n 0, 1) := by decide +kernel
theorem dX6_bitsOf_13 : decode cX6_bitsOf 13 = .ok (.dstore 4, 2) := by decide +kernel
theorem dX6_bitsOf_15 : decode cX6_bitsOf 15 = .ok (.iconst 0, 1) := by decide +kernel
theorem dX6_bitsOf_16 : decode cX6_bitsOf 16 = .ok (.istore 6, 2) := by decide +kernel
theorem dX6_bitsOf_18 : decode cX6_bitsOf 18 = .ok (.iload 6, 2) := by decide +kernel
theorem dX6_bitsOf_20 : decode cX6_bitsOf 20 = .ok (.sipush 1100, 3) := by decide +kernel
theorem dX6_bitsOf_23 : decode cX6_bitsOf 23 = .ok (.if_icmp .ge 30, 3) := by decide +kernel
theorem dX6_bitsOf_26 : decode cX6_bitsOf 26 = .ok (.dload 4, 2) := by decide +kernel
theorem dX6_bitsOf_28 : decode cX6_bitsOf 28 = .ok (.ldc2_w 370, 3) := by decide +kernel
theorem dX6_bitsOf_31 : decode cX6_bitsOf 31 = .ok (.dcmp .l, 1) := by decide +kernel
theorem dX6_bitsOf_32 : decode cX6_bitsOf 32 = .ok (.ifCond .lt 21, 3) := by decide +kernel
theorem dX6_bitsOf_35 : decode cX6_bitsOf 35 = .ok (.dload 4, 2) := by decide +kernel
theorem dX6_bitsOf_37 : decode cX6_bitsOf 37 = .ok (.ldc2_w 370, 3) := by decide +kernel
theorem dX6_bitsOf_40 : decode cX6_bitsOf 40 = .ok (.ddiv, 1) := by decide +kernel
theorem dX6_bitsOf_41 : decode cX6_bitsOf 41 = .ok (.dstore 4, 2) := by decide +kernel
theorem dX6_bitsOf_43 : decode cX6_bitsOf 43 = .ok (.lload_n 2, 1) := by decide +kernel
theorem dX6_bitsOf_44 : decode cX6_bitsOf 44 = .ok (.lconst 1, 1) := by decide +kernel
theorem dX6_bitsOf_45 : decode cX6_bitsOf 45 = .ok (.ladd, 1) := by decide +kernel
theorem dX6_bitsOf_46 : decode cX6_bitsOf 46 = .ok (.lstore_n 2, 1) := by decide +kernel
theorem dX6_bitsOf_47 : decode cX6_bitsOf 47 = .ok (.iinc 6 1, 3) := by decide +kernel
theorem dX6_bitsOf_50 : decode cX6_bitsOf 50 = .ok (.goto (-32), 3) := by decide +kernel
theorem dX6_bitsOf_53 : decode cX6_bitsOf 53 = .ok (.iconst 0, 1) := by decide +kernel
theorem dX6_bitsOf_54 : decode cX6_bitsOf 54 = .ok (.istore 6, 2) := by decide +kernel
theorem dX6_bitsOf_56 : decode cX6_bitsOf 56 = .ok (.iload 6, 2) := by decide +kernel
theorem dX6_bitsOf_58 : decode cX6_bitsOf 58 = .ok (.sipush 1100, 3) := by decide +kernel
theorem dX6_bitsOf_61 : decode cX6_bitsOf 61 = .ok (.if_icmp .ge 28, 3) := by decide +kernel
theorem dX6_bitsOf_64 : decode cX6_bitsOf 64 = .ok (.dload 4, 2) := by decide +kernel
theorem dX6_bitsOf_66 : decode cX6_bitsOf 66 = .ok (.dconst 1, 1) := by decide +kernel
theorem dX6_bitsOf_67 : decode cX6_bitsOf 67 = .ok (.dcmp .g, 1) := by decide +kernel
theorem dX6_bitsOf_68 : decode cX6_bitsOf 68 = .ok (.ifCond .ge 21, 3) := by decide +kernel
theorem dX6_bitsOf_71 : decode cX6_bitsOf 71 = .ok (.dload 4, 2) := by decide +kernel
theorem dX6_bitsOf_73 : decode cX6_bitsOf 73 = .ok (.ldc2_w 370, 3) := by decide +kernel
theorem dX6_bitsOf_76 : decode cX6_bitsOf 76 = .ok (.dmul, 1) := by decide +kernel
theorem dX6_bitsOf_77 : decode cX6_bitsOf 77 = .ok (.dstore 4, 2) := by decide +kernel
theorem dX6_bitsOf_79 : decode cX6_bitsOf 79 = .ok (.lload_n 2, 1) := by decide +kernel
theorem dX6_bitsOf_80 : decode cX6_bitsOf 80 = .ok (.lconst 1, 1) := by decide +kernel
theorem dX6_bitsOf_81 : decode cX6_bitsOf 81 = .ok (.lsub, 1) := by decide +kernel
theorem dX6_bitsOf_82 : decode cX6_bitsOf 82 = .ok (.lstore_n 2, 1) := by decide +kernel
theorem dX6_bitsOf_83 : decode cX6_bitsOf 83 = .ok (.iinc 6 1, 3) := by decide +kernel
theorem dX6_bitsOf_86 : decode cX6_bitsOf 86 = .ok (.goto (-30), 3) := by decide +kernel
theorem dX6_bitsOf_89 : decode cX6_bitsOf 89 = .ok (.lload_n 2, 1) := by decide +kernel
theorem dX6_bitsOf_90 : decode cX6_bitsOf 90 = .ok (.bipush 52, 2) := by decide +kernel
theorem dX6_bitsOf_92 : decode cX6_bitsOf 92 = .ok (.lshl, 1) := by decide +kernel
theorem dX6_bitsOf_93 : decode cX6_bitsOf 93 = .ok (.dload 4, 2) := by decide +kernel
theorem dX6_bitsOf_95 : decode cX6_bitsOf 95 = .ok (.dconst 1, 1) := by decide +kernel
theorem dX6_bitsOf_96 : decode cX6_bitsOf 96 = .ok (.dsub, 1) := by decide +kernel
theorem dX6_bitsOf_97 : decode cX6_bitsOf 97 = .ok (.ldc2_w 372, 3) := by decide +kernel
theorem dX6_bitsOf_100 : decode cX6_bitsOf 100 = .ok (.dmul, 1) := by decide +kernel
theorem dX6_bitsOf_101 : decode cX6_bitsOf 101 = .ok (.d2l, 1) := by decide +kernel
theorem dX6_bitsOf_102 : decode cX6_bitsOf 102 = .ok (.ladd, 1) := by decide +kernel
theorem dX6_bitsOf_103 : decode cX6_bitsOf 103 = .ok (.lreturn, 1) := by decide +kernel
theorem dX6_requireIndex_0 : decode cX6_requireIndex 0 = .ok (.iload_n 0, 1) := by decide +kernel
theorem dX6_requireIndex_1 : decode cX6_requireIndex 1 = .ok (.ifCond .ne 14, 3) := by decide +kernel
theorem dX6_requireIndex_4 : decode cX6_requireIndex 4 = .ok (.new 374, 3) := by decide +kernel
theorem dX6_requireIndex_7 : decode cX6_requireIndex 7 = .ok (.dup, 1) := by decide +kernel
theorem dX6_requireIndex_8 : decode cX6_requireIndex 8 = .ok (.ldc_w 376, 3) := by decide +kernel
theorem dX6_requireIndex_11 : decode cX6_requireIndex 11 = .ok (.invokespecial 378, 3) := by decide +kernel
theorem dX6_requireIndex_14 : decode cX6_requireIndex 14 = .ok (.athrow, 1) := by decide +kernel
theorem dX6_requireIndex_15 : decode cX6_requireIndex 15 = .ok (.return_, 1) := by decide +kernel
theorem dX6_requireArgument_0 : decode cX6_requireArgument 0 = .ok (.iload_n 0, 1) := by decide +kernel
theorem dX6_requireArgument_1 : decode cX6_requireArgument 1 = .ok (.ifCond .ne 14, 3) := by decide +kernel
theorem dX6_requireArgument_4 : decode cX6_requireArgument 4 = .ok (.new 381, 3) := by decide +kernel
theorem dX6_requireArgument_7 : decode cX6_requireArgument 7 = .ok (.dup, 1) := by decide +kernel
theorem dX6_requireArgument_8 : decode cX6_requireArgument 8 = .ok (.ldc_w 383, 3) := by decide +kernel
theorem dX6_requireArgument_11 : decode cX6_requireArgument 11 = .ok (.invokespecial 385, 3) := by decide +kernel
theorem dX6_requireArgument_14 : decode cX6_requireArgument 14 = .ok (.athrow, 1) := by decide +kernel
theorem dX6_requireArgument_15 : decode cX6_requireArgument 15 = .ok (.return_, 1) := by decide +kernel
theorem dX6_requireState_0 : decode cX6_requireState 0 = .ok (.iload_n 0, 1) := by decide +kernel
theorem dX6_requireState_1 : decode cX6_requireState 1 = .ok (.ifCond .ne 14, 3) := by decide +kernel
theorem dX6_requireState_4 : decode cX6_requireState 4 = .ok (.new 386, 3) := by decide +kernel
theorem dX6_requireState_7 : decode cX6_requireState 7 = .ok (.dup, 1) := by decide +kernel
theorem dX6_requireState_8 : decode cX6_requireState 8 = .ok (.ldc_w 388, 3) := by decide +kernel
theorem dX6_requireState_11 : decode cX6_requireState 11 = .ok (.invokespecial 390, 3) := by decide +kernel
theorem dX6_requireState_14 : decode cX6_requireState 14 = .ok (.athrow, 1) := by decide +kernel
theorem dX6_requireState_15 : decode cX6_requireState 15 = .ok (.return_, 1) := by decide +kernel
theorem dX6_within_0 : decode cX6_within 0 = .ok (.iload_n 0, 1) := by decide +kernel
theorem dX6_within_1 : decode cX6_within 1 = .ok (.iload_n 1, 1) := by decide +kernel
theorem dX6_within_2 : decode cX6_within 2 = .ok (.if_icmp .lt 12, 3) := by decide +kernel
theorem dX6_within_5 : decode cX6_within 5 = .ok (.iload_n 0, 1) := by decide +kernel
theorem dX6_within_6 : decode cX6_within 6 = .ok (.iload_n 2, 1) := by decide +kernel
theorem dX6_within_7 : decode cX6_within 7 = .ok (.if_icmp .gt 7, 3) := by decide +kernel
theorem dX6_within_10 : decode cX6_within 10 = .ok (.iconst 1, 1) := by decide +kernel
theorem dX6_within_11 : decode cX6_within 11 = .ok (.goto 4, 3) := by decide +kernel
theorem dX6_within_14 : decode cX6_within 14 = .ok (.iconst 0, 1) := by decide +kernel
theorem dX6_within_15 : decode cX6_within 15 = .ok (.ireturn, 1) := by decide +kernel
theorem dX6_isOwner_0 : decode cX6_isOwner 0 = .ok (.iload_n 0, 1) := by decide +kernel
theorem dX6_isOwner_1 : decode cX6_isOwner 1 = .ok (.iconst 0, 1) := by decide +kernel
theorem dX6_isOwner_2 : decode cX6_isOwner 2 = .ok (.iconst 4, 1) := by decide +kernel
theorem dX6_isOwner_3 : decode cX6_isOwner 3 = .ok (.invokestatic 40, 3) := by decide +kernel
theorem dX6_isOwner_6 : decode cX6_isOwner 6 = .ok (.ireturn, 1) := by decide +kernel
theorem dX6_isMilestone_0 : decode cX6_isMilestone 0 = .ok (.iload_n 0, 1) := by decide +kernel
theorem dX6_isMilestone_1 : decode cX6_isMilestone 1 = .ok (.iconst 0, 1) := by decide +kernel
theorem dX6_isMilestone_2 : decode cX6_isMilestone 2 = .ok (.iconst 3, 1) := by decide +kernel
theorem dX6_isMilestone_3 : decode cX6_isMilestone 3 = .ok (.invokestatic 40, 3) := by decide +kernel
theorem dX6_isMilestone_6 : decode cX6_isMilestone 6 = .ok (.ireturn, 1) := by decide +kernel
theorem dX6_isSlot_0 : decode cX6_isSlot 0 = .ok (.iload_n 0, 1) := by decide +kernel
theorem dX6_isSlot_1 : decode cX6_isSlot 1 = .ok (.iconst 0, 1) := by decide +kernel
theorem dX6_isSlot_2 : decode cX6_isSlot 2 = .ok (.iconst 1, 1) := by decide +kernel
theorem dX6_isSlot_3 : decode cX6_isSlot 3 = .ok (.invokestatic 40, 3) := by decide +kernel
theorem dX6_isSlot_6 : decode cX6_isSlot 6 = .ok (.ireturn, 1) := by decide +kernel
theorem dX6_setOf_0 : decode cX6_setOf 0 = .ok (.iconst 1, 1) := by decide +kernel
theorem dX6_setOf_1 : decode cX6_setOf 1 = .ok (.iload_n 0, 1) := by decide +kernel
theorem dX6_setOf_2 : decode cX6_setOf 2 = .ok (.ishl, 1) := by decide +kernel
theorem dX6_setOf_3 : decode cX6_setOf 3 = .ok (.ireturn, 1) := by decide +kernel
theorem dX6_isIn_0 : decode cX6_isIn 0 = .ok (.iload_n 0, 1) := by decide +kernel
theorem dX6_isIn_1 : decode cX6_isIn 1 = .ok (.iconst 1, 1) := by decide +kernel
theorem dX6_isIn_2 : decode cX6_isIn 2 = .ok (.iload_n 1, 1) := by decide +kernel
theorem dX6_isIn_3 : decode cX6_isIn 3 = .ok (.ishl, 1) := by decide +kernel
theorem dX6_isIn_4 : decode cX6_isIn 4 = .ok (.iand, 1) := by decide +kernel
theorem dX6_isIn_5 : decode cX6_isIn 5 = .ok (.ifCond .eq 7, 3) := by decide +kernel
theorem dX6_isIn_8 : decode cX6_isIn 8 = .ok (.iconst 1, 1) := by decide +kernel
theorem dX6_isIn_9 : decode cX6_isIn 9 = .ok (.goto 4, 3) := by decide +kernel
theorem dX6_isIn_12 : decode cX6_isIn 12 = .ok (.iconst 0, 1) := by decide +kernel
theorem dX6_isIn_13 : decode cX6_isIn 13 = .ok (.ireturn, 1) := by decide +kernel
