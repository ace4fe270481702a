theorem dL_openTicket_0 : decode cL_openTicket 0 = .ok (.aload_n 3, 1) := by decide +kernel
theorem dL_openTicket_1 : decode cL_openTicket 1 = .ok (.iconst 0, 1) := by decide +kernel
theorem dL_openTicket_2 : decode cL_openTicket 2 = .ok (.aload_n 0, 1) := by decide +kernel
theorem dL_openTicket_3 : decode cL_openTicket 3 = .ok (.iload_n 1, 1) := by decide +kernel
theorem dL_openTicket_4 : decode cL_openTicket 4 = .ok (.iload_n 2, 1) := by decide +kernel
theorem dL_openTicket_5 : decode cL_openTicket 5 = .ok (.invokevirtual 7, 3) := by decide +kernel
theorem dL_openTicket_8 : decode cL_openTicket 8 = .ok (.i2l, 1) := by decide +kernel
theorem dL_openTicket_9 : decode cL_openTicket 9 = .ok (.lastore, 1) := by decide +kernel
theorem dL_openTicket_10 : decode cL_openTicket 10 = .ok (.goto 11, 3) := by decide +kernel
theorem dL_openTicket_13 : decode cL_openTicket 13 = .ok (.astore 4, 2) := by decide +kernel
theorem dL_openTicket_15 : decode cL_openTicket 15 = .ok (.iconst 1, 1) := by decide +kernel
theorem dL_openTicket_16 : decode cL_openTicket 16 = .ok (.ireturn, 1) := by decide +kernel
theorem dL_openTicket_17 : decode cL_openTicket 17 = .ok (.astore 4, 2) := by decide +kernel
theorem dL_openTicket_19 : decode cL_openTicket 19 = .ok (.iconst 2, 1) := by decide +kernel
theorem dL_openTicket_20 : decode cL_openTicket 20 = .ok (.ireturn, 1) := by decide +kernel
theorem dL_openTicket_21 : decode cL_openTicket 21 = .ok (.iconst 0, 1) := by decide +kernel
theorem dL_openTicket_22 : decode cL_openTicket 22 = .ok (.ireturn, 1) := by decide +kernel
theorem dL_reestimate_0 : decode cL_reestimate 0 = .ok (.aload_n 3, 1) := by decide +kernel
theorem dL_reestimate_1 : decode cL_reestimate 1 = .ok (.iconst 0, 1) := by decide +kernel
theorem dL_reestimate_2 : decode cL_reestimate 2 = .ok (.aload_n 0, 1) := by decide +kernel
theorem dL_reestimate_3 : decode cL_reestimate 3 = .ok (.iload_n 1, 1) := by decide +kernel
theorem dL_reestimate_4 : decode cL_reestimate 4 = .ok (.iload_n 2, 1) := by decide +kernel
theorem dL_reestimate_5 : decode cL_reestimate 5 = .ok (.invokevirtual 17, 3) := by decide +kernel
theorem dL_reestimate_8 : decode cL_reestimate 8 = .ok (.i2l, 1) := by decide +kernel
theorem dL_reestimate_9 : decode cL_reestimate 9 = .ok (.lastore, 1) := by decide +kernel
theorem dL_reestimate_10 : decode cL_reestimate 10 = .ok (.goto 15, 3) := by decide +kernel
theorem dL_reestimate_13 : decode cL_reestimate 13 = .ok (.astore 4, 2) := by decide +kernel
theorem dL_reestimate_15 : decode cL_reestimate 15 = .ok (.iconst 1, 1) := by decide +kernel
theorem dL_reestimate_16 : decode cL_reestimate 16 = .ok (.ireturn, 1) := by decide +kernel
theorem dL_reestimate_17 : decode cL_reestimate 17 = .ok (.astore 4, 2) := by decide +kernel
theorem dL_reestimate_19 : decode cL_reestimate 19 = .ok (.iconst 2, 1) := by decide +kernel
theorem dL_reestimate_20 : decode cL_reestimate 20 = .ok (.ireturn, 1) := by decide +kernel
theorem dL_reestimate_21 : decode cL_reestimate 21 = .ok (.astore 4, 2) := by decide +kernel
theorem dL_reestimate_23 : decode cL_reestimate 23 = .ok (.iconst 3, 1) := by decide +kernel
theorem dL_reestimate_24 : decode cL_reestimate 24 = .ok (.ireturn, 1) := by decide +kernel
theorem dL_reestimate_25 : decode cL_reestimate 25 = .ok (.iconst 0, 1) := by decide +kernel
theorem dL_reestimate_26 : decode cL_reestimate 26 = .ok (.ireturn, 1) := by decide +kernel
theorem dL_changePriority_0 : decode cL_changePriority 0 = .ok (.aload_n 3, 1) := by decide +kernel
theorem dL_changePriority_1 : decode cL_changePriority 1 = .ok (.iconst 0, 1) := by decide +kernel
theorem dL_changePriority_2 : decode cL_changePriority 2 = .ok (.aload_n 0, 1) := by decide +kernel
theorem dL_changePriority_3 : decode cL_changePriority 3 = .ok (.iload_n 1, 1) := by decide +kernel
theorem dL_changePriority_4 : decode cL_changePriority 4 = .ok (.iload_n 2, 1) := by decide +kernel
theorem dL_changePriority_5 : decode cL_changePriority 5 = .ok (.invokevirtual 22, 3) := by decide +kernel
theorem dL_changePriority_8 : decode cL_changePriority 8 = .ok (.i2l, 1) := by decide +kernel
theorem dL_changePriority_9 : decode cL_changePriority 9 = .ok (.lastore, 1) := by decide +kernel
theorem dL_changePriority_10 : decode cL_changePriority 10 = .ok (.goto 11, 3) := by decide +kernel
theorem dL_changePriority_13 : decode cL_changePriority 13 = .ok (.astore 4, 2) := by decide +kernel
theorem dL_changePriority_15 : decode cL_changePriority 15 = .ok (.iconst 1, 1) := by decide +kernel
theorem dL_changePriority_16 : decode cL_changePriority 16 = .ok (.ireturn, 1) := by decide +kernel
theorem dL_changePriority_17 : decode cL_changePriority 17 = .ok (.astore 4, 2) := by decide +kernel
theorem dL_changePriority_19 : decode cL_changePriority 19 = .ok (.iconst 2, 1) := by decide +kernel
theorem dL_changePriority_20 : decode cL_changePriority 20 = .ok (.ireturn, 1) := by decide +kernel
theorem dL_changePriority_21 : decode cL_changePriority 21 = .ok (.iconst 0, 1) := by decide +kernel
theorem dL_changePriority_22 : decode cL_changePriority 22 = .ok (.ireturn, 1) := by decide +kernel
theorem dL_need_0 : decode cL_need 0 = .ok (.aload_n 3, 1) := by decide +kernel
theorem dL_need_1 : decode cL_need 1 = .ok (.iconst 0, 1) := by decide +kernel
theorem dL_need_2 : decode cL_need 2 = .ok (.aload_n 0, 1) := by decide +kernel
theorem dL_need_3 : decode cL_need 3 = .ok (.iload_n 1, 1) := by decide +kernel
theorem dL_need_4 : decode cL_need 4 = .ok (.iload_n 2, 1) := by decide +kernel
theorem dL_need_5 : decode cL_need 5 = .ok (.invokevirtual 25, 3) := by decide +kernel
theorem dL_need_8 : decode cL_need 8 = .ok (.i2l, 1) := by decide +kernel
theorem dL_need_9 : decode cL_need 9 = .ok (.lastore, 1) := by decide +kernel
theorem dL_need_10 : decode cL_need 10 = .ok (.goto 15, 3) := by decide +kernel
theorem dL_need_13 : decode cL_need 13 = .ok (.astore 4, 2) := by decide +kernel
theorem dL_need_15 : decode cL_need 15 = .ok (.iconst 1, 1) := by decide +kernel
theorem dL_need_16 : decode cL_need 16 = .ok (.ireturn, 1) := by decide +kernel
theorem dL_need_17 : decode cL_need 17 = .ok (.astore 4, 2) := by decide +kernel
theorem dL_need_19 : decode cL_need 19 = .ok (.iconst 2, 1) := by decide +kernel
theorem dL_need_20 : decode cL_need 20 = .ok (.ireturn, 1) := by decide +kernel
theorem dL_need_21 : decode cL_need 21 = .ok (.astore 4, 2) := by decide +kernel
theorem dL_need_23 : decode cL_need 23 = .ok (.iconst 3, 1) := by decide +kernel
theorem dL_need_24 : decode cL_need 24 = .ok (.ireturn, 1) := by decide +kernel
theorem dL_need_25 : decode cL_need 25 = .ok (.iconst 0, 1) := by decide +kernel
theorem dL_need_26 : decode cL_need 26 = .ok (.ireturn, 1) := by decide +kernel
theorem dL_release_0 : decode cL_release 0 = .ok (.aload_n 3, 1) := by decide +kernel
theorem dL_release_1 : decode cL_release 1 = .ok (.iconst 0, 1) := by decide +kernel
theorem dL_release_2 : decode cL_release 2 = .ok (.aload_n 0, 1) := by decide +kernel
theorem dL_release_3 : decode cL_release 3 = .ok (.iload_n 1, 1) := by decide +kernel
theorem dL_release_4 : decode cL_release 4 = .ok (.iload_n 2, 1) := by decide +kernel
theorem dL_release_5 : decode cL_release 5 = .ok (.invokevirtual 28, 3) := by decide +kernel
theorem dL_release_8 : decode cL_release 8 = .ok (.i2l, 1) := by decide +kernel
theorem dL_release_9 : decode cL_release 9 = .ok (.lastore, 1) := by decide +kernel
theorem dL_release_10 : decode cL_release 10 = .ok (.goto 11, 3) := by decide +kernel
theorem dL_release_13 : decode cL_release 13 = .ok (.astore 4, 2) := by decide +kernel
theorem dL_release_15 : decode cL_release 15 = .ok (.iconst 1, 1) := by decide +kernel
theorem dL_release_16 : decode cL_release 16 = .ok (.ireturn, 1) := by decide +kernel
theorem dL_release_17 : decode cL_release 17 = .ok (.astore 4, 2) := by decide +kernel
theorem dL_release_19 : decode cL_release 19 = .ok (.iconst 2, 1) := by decide +kernel
theorem dL_release_20 : decode cL_release 20 = .ok (.ireturn, 1) := by decide +kernel
theorem dL_release_21 : decode cL_release 21 = .ok (.iconst 0, 1) := by decide +kernel
theorem dL_release_22 : decode cL_release 22 = .ok (.ireturn, 1) := by decide +kernel
theorem dL_assign_0 : decode cL_assign 0 = .ok (.aload_n 3, 1) := by decide +kernel
theorem dL_assign_1 : decode cL_assign 1 = .ok (.iconst 0, 1) := by decide +kernel
theorem dL_assign_2 : decode cL_assign 2 = .ok (.aload_n 0, 1) := by decide +kernel
theorem dL_assign_3 : decode cL_assign 3 = .ok (.iload_n 1, 1) := by decide +kernel
theorem dL_assign_4 : decode cL_assign 4 = .ok (.iload_n 2, 1) := by decide +kernel
theorem dL_assign_5 : decode cL_assign 5 = .ok (.invokevirtual 31, 3) := by decide +kernel
theorem dL_assign_8 : decode cL_assign 8 = .ok (.i2l, 1) := by decide +kernel
theorem dL_assign_9 : decode cL_assign 9 = .ok (.lastore, 1) := by decide +kernel
theorem dL_assign_10 : decode cL_assign 10 = .ok (.goto 11, 3) := by decide +kernel
theorem dL_assign_13 : decode cL_assign 13 = .ok (.astore 4, 2) := by decide +kernel
theorem dL_assign_15 : decode cL_assign 15 = .ok (.iconst 1, 1) := by decide +kernel
theorem dL_assign_16 : decode cL_assign 16 = .ok (.ireturn, 1) := by decide +kernel
theorem dL_assign_17 : decode cL_assign 17 = .ok (.astore 4, 2) := by decide +kernel
theorem dL_assign_19 : decode cL_assign 19 = .ok (.iconst 2, 1) := by decide +kernel
theorem dL_assign_20 : decode cL_assign 20 = .ok (.ireturn, 1) := by decide +kernel
theorem dL_assign_21 : decode cL_assign 21 = .ok (.iconst 0, 1) := by decide +kernel
theorem dL_assign_22 : decode cL_assign 22 = .ok (.ireturn, 1) := by decide +kernel
theorem dL_unassign_0 : decode cL_unassign 0 = .ok (.aload_n 2, 1) := by decide +kernel
theorem dL_unassign_1 : decode cL_unassign 1 = .ok (.iconst 0, 1) := by decide +kernel
theorem dL_unassign_2 : decode cL_unassign 2 = .ok (.aload_n 0, 1) := by decide +kernel
theorem dL_unassign_3 : decode cL_unassign 3 = .ok (.iload_n 1, 1) := by decide +kernel
theorem dL_unassign_4 : decode cL_unassign 4 = .ok (.invokevirtual 34, 3) := by decide +kernel
theorem dL_unassign_7 : decode cL_unassign 7 = .ok (.i2l, 1) := by decide +kernel
theorem dL_unassign_8 : decode cL_unassign 8 = .ok (.lastore, 1) := by decide +kernel
theorem dL_unassign_9 : decode cL_unassign 9 = .ok (.goto 9, 3) := by decide +kernel
theorem dL_unassign_12 : decode cL_unassign 12 = .ok (.astore_n 3, 1) := by decide +kernel
theorem dL_unassign_13 : decode cL_unassign 13 = .ok (.iconst 1, 1) := by decide +kernel
theorem dL_unassign_14 : decode cL_unassign 14 = .ok (.ireturn, 1) := by decide +kernel
theorem dL_unassign_15 : decode cL_unassign 15 = .ok (.astore_n 3, 1) := by decide +kernel
theorem dL_unassign_16 : decode cL_unassign 16 = .ok (.iconst 2, 1) := by decide +kernel
theorem dL_unassign_17 : decode cL_unassign 17 = .ok (.ireturn, 1) := by decide +kernel
theorem dL_unassign_18 : decode cL_unassign 18 = .ok (.iconst 0, 1) := by decide +kernel
theorem dL_unassign_19 : decode cL_unassign 19 = .ok (.ireturn, 1) := by decide +kernel
theorem dL_changeCapacity_0 : decode cL_changeCapacity 0 = .ok (.aload_n 3, 1) := by decide +kernel
theorem dL_changeCapacity_1 : decode cL_changeCapacity 1 = .ok (.iconst 0, 1) := by decide +kernel
theorem dL_changeCapacity_2 : decode cL_changeCapacity 2 = .ok (.aload_n 0, 1) := by decide +kernel
theorem dL_changeCapacity_3 : decode cL_changeCapacity 3 = .ok (.iload_n 1, 1) := by decide +kernel
theorem dL_changeCapacity_4 : decode cL_changeCapacity 4 = .ok (.iload_n 2, 1) := by decide +kernel
theorem dL_changeCapacity_5 : decode cL_changeCapacity 5 = .ok (.invokevirtual 38, 3) := by decide +kernel
theorem dL_changeCapacity_8 : decode cL_changeCapacity 8 = .ok (.i2l, 1) := by decide +kernel
theorem dL_changeCapacity_9 : decode cL_changeCapacity 9 = .ok (.lastore, 1) := by decide +kernel
theorem dL_changeCapacity_10 : decode cL_changeCapacity 10 = .ok (.goto 15, 3) := by decide +kernel
theorem dL_changeCapacity_13 : decode cL_changeCapacity 13 = .ok (.astore 4, 2) := by decide +kernel
theorem dL_changeCapacity_15 : decode cL_changeCapacity 15 = .ok (.iconst 1, 1) := by decide +kernel
theorem dL_changeCapacity_16 : decode cL_changeCapacity 16 = .ok (.ireturn, 1) := by decide +kernel
theorem dL_changeCapacity_17 : decode cL_changeCapacity 17 = .ok (.astore 4, 2) := by decide +kernel
theorem dL_changeCapacity_19 : decode cL_changeCapacity 19 = .ok (.iconst 2, 1) := by decide +kernel
theorem dL_changeCapacity_20 : decode cL_changeCapacity 20 = .ok (.ireturn, 1) := by decide +kernel
theorem dL_changeCapacity_21 : decode cL_changeCapacity 21 = .ok (.astore 4, 2) := by decide +kernel
theorem dL_changeCapacity_23 : decode cL_changeCapacity 23 = .ok (.iconst 3, 1) := by decide +kernel
theorem dL_changeCapacity_24 : decode cL_changeCapacity 24 = .ok (.ireturn, 1) := by decide +kernel
theorem dL_changeCapacity_25 : decode cL_changeCapacity 25 = .ok (.iconst 0, 1) := by decide +kernel
theorem dL_changeCapacity_26 : decode cL_changeCapacity 26 = .ok (.ireturn, 1) := by decide +kernel
theorem dL_plan_0 : decode cL_plan 0 = .ok (.aload_n 3, 1) := by decide +kernel
theorem dL_plan_1 : decode cL_plan 1 = .ok (.iconst 0, 1) := by decide +kernel
theorem dL_plan_2 : decode cL_plan 2 = .ok (.aload_n 0, 1) := by decide +kernel
theorem dL_plan_3 : decode cL_plan 3 = .ok (.iload_n 1, 1) := by decide +kernel
theorem dL_plan_4 : decode cL_plan 4 = .ok (.iload_n 2, 1) := by decide +kernel
theorem dL_plan_5 : decode cL_plan 5 = .ok (.invokevirtual 41, 3) := by decide +kernel
theorem dL_plan_8 : decode cL_plan 8 = .ok (.i2l, 1) := by decide +kernel
theorem dL_plan_9 : decode cL_plan 9 = .ok (.lastore, 1) := by decide +kernel
theorem dL_plan_10 : decode cL_plan 10 = .ok (.goto 11, 3) := by decide +kernel
theorem dL_plan_13 : decode cL_plan 13 = .ok (.astore 4, 2) := by decide +kernel
theorem dL_plan_15 : decode cL_plan 15 = .ok (.iconst 1, 1) := by decide +kernel
theorem dL_plan_16 : decode cL_plan 16 = .ok (.ireturn, 1) := by decide +kernel
theorem dL_plan_17 : decode cL_plan 17 = .ok (.astore 4, 2) := by decide +kernel
theorem dL_plan_19 : decode cL_plan 19 = .ok (.iconst 2, 1) := by decide +kernel
theorem dL_plan_20 : decode cL_plan 20 = .ok (.ireturn, 1) := by decide +kernel
theorem dL_plan_21 : decode cL_plan 21 = .ok (.iconst 0, 1) := by decide +kernel
theorem dL_plan_22 : decode cL_plan 22 = .ok (.ireturn, 1) := by decide +kernel
theorem dL_unplan_0 : decode cL_unplan 0 = .ok (.aload_n 2, 1) := by decide +kernel
theorem dL_unplan_1 : decode cL_unplan 1 = .ok (.iconst 0, 1) := by decide +kernel
theorem dL_unplan_2 : decode cL_unplan 2 = .ok (.aload_n 0, 1) := by decide +kernel
theorem dL_unplan_3 : decode cL_unplan 3 = .ok (.iload_n 1, 1) := by decide +kernel
theorem dL_unplan_4 : decode cL_unplan 4 = .ok (.invokevirtual 44, 3) := by decide +kernel
theorem dL_unplan_7 : decode cL_unplan 7 = .ok (.i2l, 1) := by decide +kernel
theorem dL_unplan_8 : decode cL_unplan 8 = .ok (.lastore, 1) := by decide +kernel
theorem dL_unplan_9 : decode cL_unplan 9 = .ok (.goto 9, 3) := by decide +kernel
theorem dL_unplan_12 : decode cL_unplan 12 = .ok (.astore_n 3, 1) := by decide +kernel
theorem dL_unplan_13 : decode cL_unplan 13 = .ok (.iconst 1, 1) := by decide +kernel
theorem dL_unplan_14 : decode cL_unplan 14 = .ok (.ireturn, 1) := by decide +kernel
theorem dL_unplan_15 : decode cL_unplan 15 = .ok (.astore_n 3, 1) := by decide +kernel
theorem dL_unplan_16 : decode cL_unplan 16 = .ok (.iconst 2, 1) := by decide +kernel
theorem dL_unplan_17 : decode cL_unplan 17 = .ok (.ireturn, 1) := by decide +kernel
theorem dL_unplan_18 : decode cL_unplan 18 = .ok (.iconst 0, 1) := by decide +kernel
theorem dL_unplan_19 : decode cL_unplan 19 = .ok (.ireturn, 1) := by decide +kernel
theorem dL_changeDate_0 : decode cL_changeDate 0 = .ok (.aload_n 3, 1) := by decide +kernel
theorem dL_changeDate_1 : decode cL_changeDate 1 = .ok (.iconst 0, 1) := by decide +kernel
theorem dL_changeDate_2 : decode cL_changeDate 2 = .ok (.aload_n 0, 1) := by decide +kernel
theorem dL_changeDate_3 : decode cL_changeDate 3 = .ok (.iload_n 1, 1) := by decide +kernel
theorem dL_changeDate_4 : decode cL_changeDate 4 = .ok (.iload_n 2, 1) := by decide +kernel
theorem dL_changeDate_5 : decode cL_changeDate 5 = .ok (.invokevirtual 47, 3) := by decide +kernel
theorem dL_changeDate_8 : decode cL_changeDate 8 = .ok (.i2l, 1) := by decide +kernel
theorem dL_changeDate_9 : decode cL_changeDate 9 = .ok (.lastore, 1) := by decide +kernel
theorem dL_changeDate_10 : decode cL_changeDate 10 = .ok (.goto 11, 3) := by decide +kernel
theorem dL_changeDate_13 : decode cL_changeDate 13 = .ok (.astore 4, 2) := by decide +kernel
theorem dL_changeDate_15 : decode cL_changeDate 15 = .ok (.iconst 1, 1) := by decide +kernel
theorem dL_changeDate_16 : decode cL_changeDate 16 = .ok (.ireturn, 1) := by decide +kernel
theorem dL_changeDate_17 : decode cL_changeDate 17 = .ok (.astore 4, 2) := by decide +kernel
theorem dL_changeDate_19 : decode cL_changeDate 19 = .ok (.iconst 2, 1) := by decide +kernel
theorem dL_changeDate_20 : decode cL_changeDate 20 = .ok (.ireturn, 1) := by decide +kernel
theorem dL_changeDate_21 : decode cL_changeDate 21 = .ok (.iconst 0, 1) := by decide +kernel
theorem dL_changeDate_22 : decode cL_changeDate 22 = .ok (.ireturn, 1) := by decide +kernel
theorem dL_endDays_0 : decode cL_endDays 0 = .ok (.aload_n 2, 1) := by decide +kernel
theorem dL_endDays_1 : decode cL_endDays 1 = .ok (.iconst 0, 1) := by decide +kernel
theorem dL_endDays_2 : decode cL_endDays 2 = .ok (.aload_n 0, 1) := by decide +kernel
theorem dL_endDays_3 : decode cL_endDays 3 = .ok (.iload_n 1, 1) := by decide +kernel
theorem dL_endDays_4 : decode cL_endDays 4 = .ok (.invokevirtual 50, 3) := by decide +kernel
theorem dL_endDays_7 : decode cL_endDays 7 = .ok (.i2l, 1) := by decide +kernel
theorem dL_endDays_8 : decode cL_endDays 8 = .ok (.lastore, 1) := by decide +kernel
theorem dL_endDays_9 : decode cL_endDays 9 = .ok (.goto 9, 3) := by decide +kernel
theorem dL_endDays_12 : decode cL_endDays 12 = .ok (.astore_n 3, 1) := by decide +kernel
theorem dL_endDays_13 : decode cL_endDays 13 = .ok (.iconst 1, 1) := by decide +kernel
theorem dL_endDays_14 : decode cL_endDays 14 = .ok (.ireturn, 1) := by decide +kernel
theorem dL_endDays_15 : decode cL_endDays 15 = .ok (.astore_n 3, 1) := by decide +kernel
theorem dL_endDays_16 : decode cL_endDays 16 = .ok (.iconst 2, 1) := by decide +kernel
theorem dL_endDays_17 : decode cL_endDays 17 = .ok (.ireturn, 1) := by decide +kernel
theorem dL_endDays_18 : decode cL_endDays 18 = .ok (.iconst 0, 1) := by decide +kernel
theorem dL_endDays_19 : decode cL_endDays 19 = .ok (.ireturn, 1) := by decide +kernel
theorem dL_start_0 : decode cL_start 0 = .ok (.aload_n 0, 1) := by decide +kernel
theorem dL_start_1 : decode cL_start 1 = .ok (.iload_n 1, 1) := by decide +kernel
theorem dL_start_2 : decode cL_start 2 = .ok (.invokevirtual 53, 3) := by decide +kernel
theorem dL_start_5 : decode cL_start 5 = .ok (.goto 9, 3) := by decide +kernel
theorem dL_start_8 : decode cL_start 8 = .ok (.astore_n 2, 1) := by decide +kernel
theorem dL_start_9 : decode cL_start 9 = .ok (.iconst 1, 1) := by decide +kernel
theorem dL_start_10 : decode cL_start 10 = .ok (.ireturn, 1) := by decide +kernel
theorem dL_start_11 : decode cL_start 11 = .ok (.astore_n 2, 1) := by decide +kernel
theorem dL_start_12 : decode cL_start 12 = .ok (.iconst 2, 1) := by decide +kernel
theorem dL_start_13 : decode cL_start 13 = .ok (.ireturn, 1) := by decide +kernel
theorem dL_start_14 : decode cL_start 14 = .ok (.iconst 0, 1) := by decide +kernel
theorem dL_start_15 : decode cL_start 15 = .ok (.ireturn, 1) := by decide +kernel
theorem dL_submit_0 : decode cL_submit 0 = .ok (.aload_n 0, 1) := by decide +kernel
theorem dL_submit_1 : decode cL_submit 1 = .ok (.iload_n 1, 1) := by decide +kernel
theorem dL_submit_2 : decode cL_submit 2 = .ok (.invokevirtual 57, 3) := by decide +kernel
theorem dL_submit_5 : decode cL_submit 5 = .ok (.goto 9, 3) := by decide +kernel
theorem dL_submit_8 : decode cL_submit 8 = .ok (.astore_n 2, 1) := by decide +kernel
theorem dL_submit_9 : decode cL_submit 9 = .ok (.iconst 1, 1) := by decide +kernel
theorem dL_submit_10 : decode cL_submit 10 = .ok (.ireturn, 1) := by decide +kernel
theorem dL_submit_11 : decode cL_submit 11 = .ok (.astore_n 2, 1) := by decide +kernel
theorem dL_submit_12 : decode cL_submit 12 = .ok (.iconst 2, 1) := by decide +kernel
theorem dL_submit_13 : decode cL_submit 13 = .ok (.ireturn, 1) := by decide +kernel
theorem dL_submit_14 : decode cL_submit 14 = .ok (.iconst 0, 1) := by decide +kernel
theorem dL_submit_15 : decode cL_submit 15 = .ok (.ireturn, 1) := by decide +kernel
theorem dL_sendBack_0 : decode cL_sendBack 0 = .ok (.aload_n 2, 1) := by decide +kernel
theorem dL_sendBack_1 : decode cL_sendBack 1 = .ok (.iconst 0, 1) := by decide +kernel
theorem dL_sendBack_2 : decode cL_sendBack 2 = .ok (.aload_n 0, 1) := by decide +kernel
theorem dL_sendBack_3 : decode cL_sendBack 3 = .ok (.iload_n 1, 1) := by decide +kernel
theorem dL_sendBack_4 : decode cL_sendBack 4 = .ok (.invokevirtual 60, 3) := by decide +kernel
theorem dL_sendBack_7 : decode cL_sendBack 7 = .ok (.i2l, 1) := by decide +kernel
theorem dL_sendBack_8 : decode cL_sendBack 8 = .ok (.lastore, 1) := by decide +kernel
theorem dL_sendBack_9 : decode cL_sendBack 9 = .ok (.goto 9, 3) := by decide +kernel
theorem dL_sendBack_12 : decode cL_sendBack 12 = .ok (.astore_n 3, 1) := by decide +kernel
theorem dL_sendBack_13 : decode cL_sendBack 13 = .ok (.iconst 1, 1) := by decide +kernel
theorem dL_sendBack_14 : decode cL_sendBack 14 = .ok (.ireturn, 1) := by decide +kernel
theorem dL_sendBack_15 : decode cL_sendBack 15 = .ok (.astore_n 3, 1) := by decide +kernel
theorem dL_sendBack_16 : decode cL_sendBack 16 = .ok (.iconst 2, 1) := by decide +kernel
theorem dL_sendBack_17 : decode cL_sendBack 17 = .ok (.ireturn, 1) := by decide +kernel
theorem dL_sendBack_18 : decode cL_sendBack 18 = .ok (.iconst 0, 1) := by decide +kernel
theorem dL_sendBack_19 : decode cL_sendBack 19 = .ok (.ireturn, 1) := by decide +kernel
theorem dL_close_0 : decode cL_close 0 = .ok (.aload_n 2, 1) := by decide +kernel
theorem dL_close_1 : decode cL_close 1 = .ok (.iconst 0, 1) := by decide +kernel
theorem dL_close_2 : decode cL_close 2 = .ok (.aload_n 0, 1) := by decide +kernel
theorem dL_close_3 : decode cL_close 3 = .ok (.iload_n 1, 1) := by decide +kernel
theorem dL_close_4 : decode cL_close 4 = .ok (.invokevirtual 63, 3) := by decide +kernel
theorem dL_close_7 : decode cL_close 7 = .ok (.i2l, 1) := by decide +kernel
theorem dL_close_8 : decode cL_close 8 = .ok (.lastore, 1) := by decide +kernel
theorem dL_close_9 : decode cL_close 9 = .ok (.goto 9, 3) := by decide +kernel
theorem dL_close_12 : decode cL_close 12 = .ok (.astore_n 3, 1) := by decide +kernel
theorem dL_close_13 : decode cL_close 13 = .ok (.iconst 1, 1) := by decide +kernel
theorem dL_close_14 : decode cL_close 14 = .ok (.ireturn, 1) := by decide +kernel
theorem dL_close_15 : decode cL_close 15 = .ok (.astore_n 3, 1) := by decide +kernel
theorem dL_close_16 : decode cL_close 16 = .ok (.iconst 2, 1) := by decide +kernel
theorem dL_close_17 : decode cL_close 17 = .ok (.ireturn, 1) := by decide +kernel
theorem dL_close_18 : decode cL_close 18 = .ok (.iconst 0, 1) := by decide +kernel
theorem dL_close_19 : decode cL_close 19 = .ok (.ireturn, 1) := by decide +kernel
theorem dL_reopen_0 : decode cL_reopen 0 = .ok (.aload_n 2, 1) := by decide +kernel
theorem dL_reopen_1 : decode cL_reopen 1 = .ok (.iconst 0, 1) := by decide +kernel
theorem dL_reopen_2 : decode cL_reopen 2 = .ok (.aload_n 0, 1) := by decide +kernel
theorem dL_reopen_3 : decode cL_reopen 3 = .ok (.iload_n 1, 1) := by decide +kernel
theorem dL_reopen_4 : decode cL_reopen 4 = .ok (.invokevirtual 66, 3) := by decide +kernel
theorem dL_reopen_7 : decode cL_reopen 7 = .ok (.i2l, 1) := by decide +kernel
theorem dL_reopen_8 : decode cL_reopen 8 = .ok (.lastore, 1) := by decide +kernel
theorem dL_reopen_9 : decode cL_reopen 9 = .ok (.goto 9, 3) := by decide +kernel
theorem dL_reopen_12 : decode cL_reopen 12 = .ok (.astore_n 3, 1) := by decide +kernel
theorem dL_reopen_13 : decode cL_reopen 13 = .ok (.iconst 1, 1) := by decide +kernel
theorem dL_reopen_14 : decode cL_reopen 14 = .ok (.ireturn, 1) := by decide +kernel
theorem dL_reopen_15 : decode cL_reopen 15 = .ok (.astore_n 3, 1) := by decide +kernel
theorem dL_reopen_16 : decode cL_reopen 16 = .ok (.iconst 2, 1) := by decide +kernel
theorem dL_reopen_17 : decode cL_reopen 17 = .ok (.ireturn, 1) := by decide +kernel
theorem dL_reopen_18 : decode cL_reopen 18 = .ok (.iconst 0, 1) := by decide +kernel
theorem dL_reopen_19 : decode cL_reopen 19 = .ok (.ireturn, 1) := by decide +kernel
theorem dL_drop_0 : decode cL_drop 0 = .ok (.aload_n 2, 1) := by decide +kernel
theorem dL_drop_1 : decode cL_drop 1 = .ok (.iconst 0, 1) := by decide +kernel
theorem dL_drop_2 : decode cL_drop 2 = .ok (.aload_n 0, 1) := by decide +kernel
theorem dL_drop_3 : decode cL_drop 3 = .ok (.iload_n 1, 1) := by decide +kernel
theorem dL_drop_4 : decode cL_drop 4 = .ok (.invokevirtual 69, 3) := by decide +kernel
theorem dL_drop_7 : decode cL_drop 7 = .ok (.i2l, 1) := by decide +kernel
theorem dL_drop_8 : decode cL_drop 8 = .ok (.lastore, 1) := by decide +kernel
theorem dL_drop_9 : decode cL_drop 9 = .ok (.goto 9, 3) := by decide +kernel
theorem dL_drop_12 : decode cL_drop 12 = .ok (.astore_n 3, 1) := by decide +kernel
theorem dL_drop_13 : decode cL_drop 13 = .ok (.iconst 1, 1) := by decide +kernel
theorem dL_drop_14 : decode cL_drop 14 = .ok (.ireturn, 1) := by decide +kernel
theorem dL_drop_15 : decode cL_drop 15 = .ok (.astore_n 3, 1) := by decide +kernel
theorem dL_drop_16 : decode cL_drop 16 = .ok (.iconst 2, 1) := by decide +kernel
theorem dL_drop_17 : decode cL_drop 17 = .ok (.ireturn, 1) := by decide +kernel
theorem dL_drop_18 : decode cL_drop 18 = .ok (.iconst 0, 1) := by decide +kernel
theorem dL_drop_19 : decode cL_drop 19 = .ok (.ireturn, 1) := by decide +kernel
theorem dL_append_0 : decode cL_append 0 = .ok (.aload_n 2, 1) := by decide +kernel
theorem dL_append_1 : decode cL_append 1 = .ok (.iconst 0, 1) := by decide +kernel
theorem dL_append_2 : decode cL_append 2 = .ok (.aload_n 0, 1) := by decide +kernel
theorem dL_append_3 : decode cL_append 3 = .ok (.iload_n 1, 1) := by decide +kernel
theorem dL_append_4 : decode cL_append 4 = .ok (.invokevirtual 72, 3) := by decide +kernel
theorem dL_append_7 : decode cL_append 7 = .ok (.i2l, 1) := by decide +kernel
theorem dL_append_8 : decode cL_append 8 = .ok (.lastore, 1) := by decide +kernel
theorem dL_append_9 : decode cL_append 9 = .ok (.goto 9, 3) := by decide +kernel
theorem dL_append_12 : decode cL_append 12 = .ok (.astore_n 3, 1) := by decide +kernel
theorem dL_append_13 : decode cL_append 13 = .ok (.iconst 1, 1) := by decide +kernel
theorem dL_append_14 : decode cL_append 14 = .ok (.ireturn, 1) := by decide +kernel
theorem dL_append_15 : decode cL_append 15 = .ok (.astore_n 3, 1) := by decide +kernel
theorem dL_append_16 : decode cL_append 16 = .ok (.iconst 2, 1) := by decide +kernel
theorem dL_append_17 : decode cL_append 17 = .ok (.ireturn, 1) := by decide +kernel
theorem dL_append_18 : decode cL_append 18 = .ok (.iconst 0, 1) := by decide +kernel
theorem dL_append_19 : decode cL_append 19 = .ok (.ireturn, 1) := by decide +kernel
theorem dL_follow_0 : decode cL_follow 0 = .ok (.aload_n 1, 1) := by decide +kernel
theorem dL_follow_1 : decode cL_follow 1 = .ok (.iconst 0, 1) := by decide +kernel
theorem dL_follow_2 : decode cL_follow 2 = .ok (.aload_n 0, 1) := by decide +kernel
theorem dL_follow_3 : decode cL_follow 3 = .ok (.invokevirtual 75, 3) := by decide +kernel
theorem dL_follow_6 : decode cL_follow 6 = .ok (.i2l, 1) := by decide +kernel
theorem dL_follow_7 : decode cL_follow 7 = .ok (.lastore, 1) := by decide +kernel
theorem dL_follow_8 : decode cL_follow 8 = .ok (.goto 9, 3) := by decide +kernel
theorem dL_follow_11 : decode cL_follow 11 = .ok (.astore_n 2, 1) := by decide +kernel
theorem dL_follow_12 : decode cL_follow 12 = .ok (.iconst 1, 1) := by decide +kernel
theorem dL_follow_13 : decode cL_follow 13 = .ok (.ireturn, 1) := by decide +kernel
theorem dL_follow_14 : decode cL_follow 14 = .ok (.astore_n 2, 1) := by decide +kernel
theorem dL_follow_15 : decode cL_follow 15 = .ok (.iconst 2, 1) := by decide +kernel
theorem dL_follow_16 : decode cL_follow 16 = .ok (.ireturn, 1) := by decide +kernel
theorem dL_follow_17 : decode cL_follow 17 = .ok (.iconst 0, 1) := by decide +kernel
theorem dL_follow_18 : decode cL_follow 18 = .ok (.ireturn, 1) := by decide +kernel
theorem dL_impossibleOrder_0 : decode cL_impossibleOrder 0 = .ok (.aload_n 1, 1) := by decide +kernel
theorem dL_impossibleOrder_1 : decode cL_impossibleOrder 1 = .ok (.iconst 0, 1) := by decide +kernel
theorem dL_impossibleOrder_2 : decode cL_impossibleOrder 2 = .ok (.aload_n 0, 1) := by decide +kernel
theorem dL_impossibleOrder_3 : decode cL_impossibleOrder 3 = .ok (.invokevirtual 79, 3) := by decide +kernel
theorem dL_impossibleOrder_6 : decode cL_impossibleOrder 6 = .ok (.i2l, 1) := by decide +kernel
theorem dL_impossibleOrder_7 : decode cL_impossibleOrder 7 = .ok (.lastore, 1) := by decide +kernel
theorem dL_impossibleOrder_8 : decode cL_impossibleOrder 8 = .ok (.goto 9, 3) := by decide +kernel
theorem dL_impossibleOrder_11 : decode cL_impossibleOrder 11 = .ok (.astore_n 2, 1) := by decide +kernel
theorem dL_impossibleOrder_12 : decode cL_impossibleOrder 12 = .ok (.iconst 1, 1) := by decide +kernel
theorem dL_impossibleOrder_13 : decode cL_impossibleOrder 13 = .ok (.ireturn, 1) := by decide +kernel
theorem dL_impossibleOrder_14 : decode cL_impossibleOrder 14 = .ok (.astore_n 2, 1) := by decide +kernel
theorem dL_impossibleOrder_15 : decode cL_impossibleOrder 15 = .ok (.iconst 2, 1) := by decide +kernel
theorem dL_impossibleOrder_16 : decode cL_impossibleOrder 16 = .ok (.ireturn, 1) := by decide +kernel
theorem dL_impossibleOrder_17 : decode cL_impossibleOrder 17 = .ok (.iconst 0, 1) := by decide +kernel
theorem dL_impossibleOrder_18 : decode cL_impossibleOrder 18 = .ok (.ireturn, 1) := by decide +kernel
theorem dL_keep_0 : decode cL_keep 0 = .ok (.aload_n 0, 1) := by decide +kernel
theorem dL_keep_1 : decode cL_keep 1 = .ok (.iload_n 1, 1) := by decide +kernel
theorem dL_keep_2 : decode cL_keep 2 = .ok (.invokevirtual 82, 3) := by decide +kernel
theorem dL_keep_5 : decode cL_keep 5 = .ok (.goto 6, 3) := by decide +kernel
theorem dL_keep_8 : decode cL_keep 8 = .ok (.astore_n 2, 1) := by decide +kernel
theorem dL_keep_9 : decode cL_keep 9 = .ok (.iconst 1, 1) := by decide +kernel
theorem dL_keep_10 : decode cL_keep 10 = .ok (.ireturn, 1) := by decide +kernel
theorem dL_keep_11 : decode cL_keep 11 = .ok (.iconst 0, 1) := by decide +kernel
theorem dL_keep_12 : decode cL_keep 12 = .ok (.ireturn, 1) := by decide +kernel
theorem dL_goBack_0 : decode cL_goBack 0 = .ok (.aload_n 0, 1) := by decide +kernel
theorem dL_goBack_1 : decode cL_goBack 1 = .ok (.iload_n 1, 1) := by decide +kernel
theorem dL_goBack_2 : decode cL_goBack 2 = .ok (.invokevirtual 85, 3) := by decide +kernel
theorem dL_goBack_5 : decode cL_goBack 5 = .ok (.goto 9, 3) := by decide +kernel
theorem dL_goBack_8 : decode cL_goBack 8 = .ok (.astore_n 2, 1) := by decide +kernel
theorem dL_goBack_9 : decode cL_goBack 9 = .ok (.iconst 1, 1) := by decide +kernel
theorem dL_goBack_10 : decode cL_goBack 10 = .ok (.ireturn, 1) := by decide +kernel
theorem dL_goBack_11 : decode cL_goBack 11 = .ok (.astore_n 2, 1) := by decide +kernel
theorem dL_goBack_12 : decode cL_goBack 12 = .ok (.iconst 2, 1) := by decide +kernel
theorem dL_goBack_13 : decode cL_goBack 13 = .ok (.ireturn, 1) := by decide +kernel
theorem dL_goBack_14 : decode cL_goBack 14 = .ok (.iconst 0, 1) := by decide +kernel
theorem dL_goBack_15 : decode cL_goBack 15 = .ok (.ireturn, 1) := by decide +kernel
theorem dL_undo_0 : decode cL_undo 0 = .ok (.aload_n 0, 1) := by decide +kernel
theorem dL_undo_1 : decode cL_undo 1 = .ok (.invokevirtual 88, 3) := by decide +kernel
theorem dL_undo_4 : decode cL_undo 4 = .ok (.goto 6, 3) := by decide +kernel
theorem dL_undo_7 : decode cL_undo 7 = .ok (.astore_n 1, 1) := by decide +kernel
theorem dL_undo_8 : decode cL_undo 8 = .ok (.iconst 1, 1) := by decide +kernel
theorem dL_undo_9 : decode cL_undo 9 = .ok (.ireturn, 1) := by decide +kernel
theorem dL_undo_10 : decode cL_undo 10 = .ok (.iconst 0, 1) := by decide +kernel
theorem dL_undo_11 : decode cL_undo 11 = .ok (.ireturn, 1) := by decide +kernel
theorem dL_stateOf_0 : decode cL_stateOf 0 = .ok (.aload_n 2, 1) := by decide +kernel
theorem dL_stateOf_1 : decode cL_stateOf 1 = .ok (.iconst 0, 1) := by decide +kernel
theorem dL_stateOf_2 : decode cL_stateOf 2 = .ok (.aload_n 0, 1) := by decide +kernel
theorem dL_stateOf_3 : decode cL_stateOf 3 = .ok (.iload_n 1, 1) := by decide +kernel
theorem dL_stateOf_4 : decode cL_stateOf 4 = .ok (.invokevirtual 91, 3) := by decide +kernel
theorem dL_stateOf_7 : decode cL_stateOf 7 = .ok (.i2l, 1) := by decide +kernel
theorem dL_stateOf_8 : decode cL_stateOf 8 = .ok (.lastore, 1) := by decide +kernel
theorem dL_stateOf_9 : decode cL_stateOf 9 = .ok (.goto 6, 3) := by decide +kernel
theorem dL_stateOf_12 : decode cL_stateOf 12 = .ok (.astore_n 3, 1) := by decide +kernel
theorem dL_stateOf_13 : decode cL_stateOf 13 = .ok (.iconst 1, 1) := by decide +kernel
theorem dL_stateOf_14 : decode cL_stateOf 14 = .ok (.ireturn, 1) := by decide +kernel
theorem dL_stateOf_15 : decode cL_stateOf 15 = .ok (.iconst 0, 1) := by decide +kernel
theorem dL_stateOf_16 : decode cL_stateOf 16 = .ok (.ireturn, 1) := by decide +kernel
theorem dL_pointsOf_0 : decode cL_pointsOf 0 = .ok (.aload_n 2, 1) := by decide +kernel
theorem dL_pointsOf_1 : decode cL_pointsOf 1 = .ok (.iconst 0, 1) := by decide +kernel
theorem dL_pointsOf_2 : decode cL_pointsOf 2 = .ok (.aload_n 0, 1) := by decide +kernel
theorem dL_pointsOf_3 : decode cL_pointsOf 3 = .ok (.iload_n 1, 1) := by decide +kernel
theorem dL_pointsOf_4 : decode cL_pointsOf 4 = .ok (.invokevirtual 94, 3) := by decide +kernel
theorem dL_pointsOf_7 : decode cL_pointsOf 7 = .ok (.i2l, 1) := by decide +kernel
theorem dL_pointsOf_8 : decode cL_pointsOf 8 = .ok (.lastore, 1) := by decide +kernel
theorem dL_pointsOf_9 : decode cL_pointsOf 9 = .ok (.goto 6, 3) := by decide +kernel
theorem dL_pointsOf_12 : decode cL_pointsOf 12 = .ok (.astore_n 3, 1) := by decide +kernel
theorem dL_pointsOf_13 : decode cL_pointsOf 13 = .ok (.iconst 1, 1) := by decide +kernel
theorem dL_pointsOf_14 : decode cL_pointsOf 14 = .ok (.ireturn, 1) := by decide +kernel
theorem dL_pointsOf_15 : decode cL_pointsOf 15 = .ok (.iconst 0, 1) := by decide +kernel
theorem dL_pointsOf_16 : decode cL_pointsOf 16 = .ok (.ireturn, 1) := by decide +kernel
theorem dL_priorityOf_0 : decode cL_priorityOf 0 = .ok (.aload_n 2, 1) := by decide +kernel
theorem dL_priorityOf_1 : decode cL_priorityOf 1 = .ok (.iconst 0, 1) := by decide +kernel
theorem dL_priorityOf_2 : decode cL_priorityOf 2 = .ok (.aload_n 0, 1) := by decide +kernel
theorem dL_priorityOf_3 : decode cL_priorityOf 3 = .ok (.iload_n 1, 1) := by decide +kernel
theorem dL_priorityOf_4 : decode cL_priorityOf 4 = .ok (.invokevirtual 97, 3) := by decide +kernel
theorem dL_priorityOf_7 : decode cL_priorityOf 7 = .ok (.i2l, 1) := by decide +kernel
theorem dL_priorityOf_8 : decode cL_priorityOf 8 = .ok (.lastore, 1) := by decide +kernel
theorem dL_priorityOf_9 : decode cL_priorityOf 9 = .ok (.goto 6, 3) := by decide +kernel
theorem dL_priorityOf_12 : decode cL_priorityOf 12 = .ok (.astore_n 3, 1) := by decide +kernel
theorem dL_priorityOf_13 : decode cL_priorityOf 13 = .ok (.iconst 1, 1) := by decide +kernel
theorem dL_priorityOf_14 : decode cL_priorityOf 14 = .ok (.ireturn, 1) := by decide +kernel
theorem dL_priorityOf_15 : decode cL_priorityOf 15 = .ok (.iconst 0, 1) := by decide +kernel
theorem dL_priorityOf_16 : decode cL_priorityOf 16 = .ok (.ireturn, 1) := by decide +kernel
theorem dL_hasOwner_0 : decode cL_hasOwner 0 = .ok (.aload_n 2, 1) := by decide +kernel
theorem dL_hasOwner_1 : decode cL_hasOwner 1 = .ok (.iconst 0, 1) := by decide +kernel
theorem dL_hasOwner_2 : decode cL_hasOwner 2 = .ok (.aload_n 0, 1) := by decide +kernel
theorem dL_hasOwner_3 : decode cL_hasOwner 3 = .ok (.iload_n 1, 1) := by decide +kernel
theorem dL_hasOwner_4 : decode cL_hasOwner 4 = .ok (.invokevirtual 100, 3) := by decide +kernel
theorem dL_hasOwner_7 : decode cL_hasOwner 7 = .ok (.ifCond .eq 7, 3) := by decide +kernel
theorem dL_hasOwner_10 : decode cL_hasOwner 10 = .ok (.lconst 1, 1) := by decide +kernel
theorem dL_hasOwner_11 : decode cL_hasOwner 11 = .ok (.goto 4, 3) := by decide +kernel
theorem dL_hasOwner_14 : decode cL_hasOwner 14 = .ok (.lconst 0, 1) := by decide +kernel
theorem dL_hasOwner_15 : decode cL_hasOwner 15 = .ok (.lastore, 1) := by decide +kernel
theorem dL_hasOwner_16 : decode cL_hasOwner 16 = .ok (.goto 6, 3) := by decide +kernel
theorem dL_hasOwner_19 : decode cL_hasOwner 19 = .ok (.astore_n 3, 1) := by decide +kernel
theorem dL_hasOwner_20 : decode cL_hasOwner 20 = .ok (.iconst 1, 1) := by decide +kernel
theorem dL_hasOwner_21 : decode cL_hasOwner 21 = .ok (.ireturn, 1) := by decide +kernel
theorem dL_hasOwner_22 : decode cL_hasOwner 22 = .ok (.iconst 0, 1) := by decide +kernel
theorem dL_hasOwner_23 : decode cL_hasOwner 23 = .ok (.ireturn, 1) := by decide +kernel
theorem dL_ownerOf_0 : decode cL_ownerOf 0 = .ok (.aload_n 2, 1) := by decide +kernel
theorem dL_ownerOf_1 : decode cL_ownerOf 1 = .ok (.iconst 0, 1) := by decide +kernel
theorem dL_ownerOf_2 : decode cL_ownerOf 2 = .ok (.aload_n 0, 1) := by decide +kernel
theorem dL_ownerOf_3 : decode cL_ownerOf 3 = .ok (.iload_n 1, 1) := by decide +kernel
theorem dL_ownerOf_4 : decode cL_ownerOf 4 = .ok (.invokevirtual 104, 3) := by decide +kernel
theorem dL_ownerOf_7 : decode cL_ownerOf 7 = .ok (.i2l, 1) := by decide +kernel
theorem dL_ownerOf_8 : decode cL_ownerOf 8 = .ok (.lastore, 1) := by decide +kernel
theorem dL_ownerOf_9 : decode cL_ownerOf 9 = .ok (.goto 9, 3) := by decide +kernel
theorem dL_ownerOf_12 : decode cL_ownerOf 12 = .ok (.astore_n 3, 1) := by decide +kernel
theorem dL_ownerOf_13 : decode cL_ownerOf 13 = .ok (.iconst 1, 1) := by decide +kernel
theorem dL_ownerOf_14 : decode cL_ownerOf 14 = .ok (.ireturn, 1) := by decide +kernel
theorem dL_ownerOf_15 : decode cL_ownerOf 15 = .ok (.astore_n 3, 1) := by decide +kernel
theorem dL_ownerOf_16 : decode cL_ownerOf 16 = .ok (.iconst 2, 1) := by decide +kernel
theorem dL_ownerOf_17 : decode cL_ownerOf 17 = .ok (.ireturn, 1) := by decide +kernel
theorem dL_ownerOf_18 : decode cL_ownerOf 18 = .ok (.iconst 0, 1) := by decide +kernel
theorem dL_ownerOf_19 : decode cL_ownerOf 19 = .ok (.ireturn, 1) := by decide +kernel
theorem dL_isPlanned_0 : decode cL_isPlanned 0 = .ok (.aload_n 2, 1) := by decide +kernel
theorem dL_isPlanned_1 : decode cL_isPlanned 1 = .ok (.iconst 0, 1) := by decide +kernel
theorem dL_isPlanned_2 : decode cL_isPlanned 2 = .ok (.aload_n 0, 1) := by decide +kernel
theorem dL_isPlanned_3 : decode cL_isPlanned 3 = .ok (.iload_n 1, 1) := by decide +kernel
theorem dL_isPlanned_4 : decode cL_isPlanned 4 = .ok (.invokevirtual 107, 3) := by decide +kernel
theorem dL_isPlanned_7 : decode cL_isPlanned 7 = .ok (.ifCond .eq 7, 3) := by decide +kernel
theorem dL_isPlanned_10 : decode cL_isPlanned 10 = .ok (.lconst 1, 1) := by decide +kernel
theorem dL_isPlanned_11 : decode cL_isPlanned 11 = .ok (.goto 4, 3) := by decide +kernel
theorem dL_isPlanned_14 : decode cL_isPlanned 14 = .ok (.lconst 0, 1) := by decide +kernel
theorem dL_isPlanned_15 : decode cL_isPlanned 15 = .ok (.lastore, 1) := by decide +kernel
theorem dL_isPlanned_16 : decode cL_isPlanned 16 = .ok (.goto 6, 3) := by decide +kernel
theorem dL_isPlanned_19 : decode cL_isPlanned 19 = .ok (.astore_n 3, 1) := by decide +kernel
theorem dL_isPlanned_20 : decode cL_isPlanned 20 = .ok (.iconst 1, 1) := by decide +kernel
theorem dL_isPlanned_21 : decode cL_isPlanned 21 = .ok (.ireturn, 1) := by decide +kernel
theorem dL_isPlanned_22 : decode cL_isPlanned 22 = .ok (.iconst 0, 1) := by decide +kernel
theorem dL_isPlanned_23 : decode cL_isPlanned 23 = .ok (.ireturn, 1) := by decide +kernel
theorem dL_milestoneOf_0 : decode cL_milestoneOf 0 = .ok (.aload_n 2, 1) := by decide +kernel
theorem dL_milestoneOf_1 : decode cL_milestoneOf 1 = .ok (.iconst 0, 1) := by decide +kernel
theorem dL_milestoneOf_2 : decode cL_milestoneOf 2 = .ok (.aload_n 0, 1) := by decide +kernel
theorem dL_milestoneOf_3 : decode cL_milestoneOf 3 = .ok (.iload_n 1, 1) := by decide +kernel
theorem dL_milestoneOf_4 : decode cL_milestoneOf 4 = .ok (.invokevirtual 110, 3) := by decide +kernel
theorem dL_milestoneOf_7 : decode cL_milestoneOf 7 = .ok (.i2l, 1) := by decide +kernel
theorem dL_milestoneOf_8 : decode cL_milestoneOf 8 = .ok (.lastore, 1) := by decide +kernel
theorem dL_milestoneOf_9 : decode cL_milestoneOf 9 = .ok (.goto 9, 3) := by decide +kernel
theorem dL_milestoneOf_12 : decode cL_milestoneOf 12 = .ok (.astore_n 3, 1) := by decide +kernel
theorem dL_milestoneOf_13 : decode cL_milestoneOf 13 = .ok (.iconst 1, 1) := by decide +kernel
theorem dL_milestoneOf_14 : decode cL_milestoneOf 14 = .ok (.ireturn, 1) := by decide +kernel
theorem dL_milestoneOf_15 : decode cL_milestoneOf 15 = .ok (.astore_n 3, 1) := by decide +kernel
theorem dL_milestoneOf_16 : decode cL_milestoneOf 16 = .ok (.iconst 2, 1) := by decide +kernel
theorem dL_milestoneOf_17 : decode cL_milestoneOf 17 = .ok (.ireturn, 1) := by decide +kernel
theorem dL_milestoneOf_18 : decode cL_milestoneOf 18 = .ok (.iconst 0, 1) := by decide +kernel
theorem dL_milestoneOf_19 : decode cL_milestoneOf 19 = .ok (.ireturn, 1) := by decide +kernel
theorem dL_openedOn_0 : decode cL_openedOn 0 = .ok (.aload_n 2, 1) := by decide +kernel
theorem dL_openedOn_1 : decode cL_openedOn 1 = .ok (.iconst 0, 1) := by decide +kernel
theorem dL_openedOn_2 : decode cL_openedOn 2 = .ok (.aload_n 0, 1) := by decide +kernel
theorem dL_openedOn_3 : decode cL_openedOn 3 = .ok (.iload_n 1, 1) := by decide +kernel
theorem dL_openedOn_4 : decode cL_openedOn 4 = .ok (.invokevirtual 113, 3) := by decide +kernel
theorem dL_openedOn_7 : decode cL_openedOn 7 = .ok (.i2l, 1) := by decide +kernel
theorem dL_openedOn_8 : decode cL_openedOn 8 = .ok (.lastore, 1) := by decide +kernel
theorem dL_openedOn_9 : decode cL_openedOn 9 = .ok (.goto 6, 3) := by decide +kernel
theorem dL_openedOn_12 : decode cL_openedOn 12 = .ok (.astore_n 3, 1) := by decide +kernel
theorem dL_openedOn_13 : decode cL_openedOn 13 = .ok (.iconst 1, 1) := by decide +kernel
theorem dL_openedOn_14 : decode cL_openedOn 14 = .ok (.ireturn, 1) := by decide +kernel
theorem dL_openedOn_15 : decode cL_openedOn 15 = .ok (.iconst 0, 1) := by decide +kernel
theorem dL_openedOn_16 : decode cL_openedOn 16 = .ok (.ireturn, 1) := by decide +kernel
theorem dL_closedOn_0 : decode cL_closedOn 0 = .ok (.aload_n 2, 1) := by decide +kernel
theorem dL_closedOn_1 : decode cL_closedOn 1 = .ok (.iconst 0, 1) := by decide +kernel
theorem dL_closedOn_2 : decode cL_closedOn 2 = .ok (.aload_n 0, 1) := by decide +kernel
theorem dL_closedOn_3 : decode cL_closedOn 3 = .ok (.iload_n 1, 1) := by decide +kernel
theorem dL_closedOn_4 : decode cL_closedOn 4 = .ok (.invokevirtual 116, 3) := by decide +kernel
theorem dL_closedOn_7 : decode cL_closedOn 7 = .ok (.i2l, 1) := by decide +kernel
theorem dL_closedOn_8 : decode cL_closedOn 8 = .ok (.lastore, 1) := by decide +kernel
theorem dL_closedOn_9 : decode cL_closedOn 9 = .ok (.goto 9, 3) := by decide +kernel
theorem dL_closedOn_12 : decode cL_closedOn 12 = .ok (.astore_n 3, 1) := by decide +kernel
theorem dL_closedOn_13 : decode cL_closedOn 13 = .ok (.iconst 1, 1) := by decide +kernel
theorem dL_closedOn_14 : decode cL_closedOn 14 = .ok (.ireturn, 1) := by decide +kernel
theorem dL_closedOn_15 : decode cL_closedOn 15 = .ok (.astore_n 3, 1) := by decide +kernel
theorem dL_closedOn_16 : decode cL_closedOn 16 = .ok (.iconst 2, 1) := by decide +kernel
theorem dL_closedOn_17 : decode cL_closedOn 17 = .ok (.ireturn, 1) := by decide +kernel
theorem dL_closedOn_18 : decode cL_closedOn 18 = .ok (.iconst 0, 1) := by decide +kernel
theorem dL_closedOn_19 : decode cL_closedOn 19 = .ok (.ireturn, 1) := by decide +kernel
theorem dL_daysInProgress_0 : decode cL_daysInProgress 0 = .ok (.aload_n 2, 1) := by decide +kernel
theorem dL_daysInProgress_1 : decode cL_daysInProgress 1 = .ok (.iconst 0, 1) := by decide +kernel
theorem dL_daysInProgress_2 : decode cL_daysInProgress 2 = .ok (.aload_n 0, 1) := by decide +kernel
theorem dL_daysInProgress_3 : decode cL_daysInProgress 3 = .ok (.iload_n 1, 1) := by decide +kernel
theorem dL_daysInProgress_4 : decode cL_daysInProgress 4 = .ok (.invokevirtual 119, 3) := by decide +kernel
theorem dL_daysInProgress_7 : decode cL_daysInProgress 7 = .ok (.i2l, 1) := by decide +kernel
theorem dL_daysInProgress_8 : decode cL_daysInProgress 8 = .ok (.lastore, 1) := by decide +kernel
theorem dL_daysInProgress_9 : decode cL_daysInProgress 9 = .ok (.goto 6, 3) := by decide +kernel
theorem dL_daysInProgress_12 : decode cL_daysInProgress 12 = .ok (.astore_n 3, 1) := by decide +kernel
theorem dL_daysInProgress_13 : decode cL_daysInProgress 13 = .ok (.iconst 1, 1) := by decide +kernel
theorem dL_daysInProgress_14 : decode cL_daysInProgress 14 = .ok (.ireturn, 1) := by decide +kernel
theorem dL_daysInProgress_15 : decode cL_daysInProgress 15 = .ok (.iconst 0, 1) := by decide +kernel
theorem dL_daysInProgress_16 : decode cL_daysInProgress 16 = .ok (.ireturn, 1) := by decide +kernel
theorem dL_timesSentBack_0 : decode cL_timesSentBack 0 = .ok (.aload_n 2, 1) := by decide +kernel
theorem dL_timesSentBack_1 : decode cL_timesSentBack 1 = .ok (.iconst 0, 1) := by decide +kernel
theorem dL_timesSentBack_2 : decode cL_timesSentBack 2 = .ok (.aload_n 0, 1) := by decide +kernel
theorem dL_timesSentBack_3 : decode cL_timesSentBack 3 = .ok (.iload_n 1, 1) := by decide +kernel
theorem dL_timesSentBack_4 : decode cL_timesSentBack 4 = .ok (.invokevirtual 122, 3) := by decide +kernel
theorem dL_timesSentBack_7 : decode cL_timesSentBack 7 = .ok (.i2l, 1) := by decide +kernel
theorem dL_timesSentBack_8 : decode cL_timesSentBack 8 = .ok (.lastore, 1) := by decide +kernel
theorem dL_timesSentBack_9 : decode cL_timesSentBack 9 = .ok (.goto 6, 3) := by decide +kernel
theorem dL_timesSentBack_12 : decode cL_timesSentBack 12 = .ok (.astore_n 3, 1) := by decide +kernel
theorem dL_timesSentBack_13 : decode cL_timesSentBack 13 = .ok (.iconst 1, 1) := by decide +kernel
theorem dL_timesSentBack_14 : decode cL_timesSentBack 14 = .ok (.ireturn, 1) := by decide +kernel
theorem dL_timesSentBack_15 : decode cL_timesSentBack 15 = .ok (.iconst 0, 1) := by decide +kernel
theorem dL_timesSentBack_16 : decode cL_timesSentBack 16 = .ok (.ireturn, 1) := by decide +kernel
theorem dL_needs_0 : decode cL_needs 0 = .ok (.aload_n 3, 1) := by decide +kernel
theorem dL_needs_1 : decode cL_needs 1 = .ok (.iconst 0, 1) := by decide +kernel
theorem dL_needs_2 : decode cL_needs 2 = .ok (.aload_n 0, 1) := by decide +kernel
theorem dL_needs_3 : decode cL_needs 3 = .ok (.iload_n 1, 1) := by decide +kernel
theorem dL_needs_4 : decode cL_needs 4 = .ok (.iload_n 2, 1) := by decide +kernel
theorem dL_needs_5 : decode cL_needs 5 = .ok (.invokevirtual 125, 3) := by decide +kernel
theorem dL_needs_8 : decode cL_needs 8 = .ok (.ifCond .eq 7, 3) := by decide +kernel
theorem dL_needs_11 : decode cL_needs 11 = .ok (.lconst 1, 1) := by decide +kernel
theorem dL_needs_12 : decode cL_needs 12 = .ok (.goto 4, 3) := by decide +kernel
theorem dL_needs_15 : decode cL_needs 15 = .ok (.lconst 0, 1) := by decide +kernel
theorem dL_needs_16 : decode cL_needs 16 = .ok (.lastore, 1) := by decide +kernel
theorem dL_needs_17 : decode cL_needs 17 = .ok (.goto 7, 3) := by decide +kernel
theorem dL_needs_20 : decode cL_needs 20 = .ok (.astore 4, 2) := by decide +kernel
theorem dL_needs_22 : decode cL_needs 22 = .ok (.iconst 1, 1) := by decide +kernel
theorem dL_needs_23 : decode cL_needs 23 = .ok (.ireturn, 1) := by decide +kernel
theorem dL_needs_24 : decode cL_needs 24 = .ok (.iconst 0, 1) := by decide +kernel
theorem dL_needs_25 : decode cL_needs 25 = .ok (.ireturn, 1) := by decide +kernel
theorem dL_needsOf_0 : decode cL_needsOf 0 = .ok (.aload_n 2, 1) := by decide +kernel
theorem dL_needsOf_1 : decode cL_needsOf 1 = .ok (.iconst 0, 1) := by decide +kernel
theorem dL_needsOf_2 : decode cL_needsOf 2 = .ok (.aload_n 0, 1) := by decide +kernel
theorem dL_needsOf_3 : decode cL_needsOf 3 = .ok (.iload_n 1, 1) := by decide +kernel
theorem dL_needsOf_4 : decode cL_needsOf 4 = .ok (.invokevirtual 129, 3) := by decide +kernel
theorem dL_needsOf_7 : decode cL_needsOf 7 = .ok (.i2l, 1) := by decide +kernel
theorem dL_needsOf_8 : decode cL_needsOf 8 = .ok (.lastore, 1) := by decide +kernel
theorem dL_needsOf_9 : decode cL_needsOf 9 = .ok (.goto 6, 3) := by decide +kernel
theorem dL_needsOf_12 : decode cL_needsOf 12 = .ok (.astore_n 3, 1) := by decide +kernel
theorem dL_needsOf_13 : decode cL_needsOf 13 = .ok (.iconst 1, 1) := by decide +kernel
theorem dL_needsOf_14 : decode cL_needsOf 14 = .ok (.ireturn, 1) := by decide +kernel
theorem dL_needsOf_15 : decode cL_needsOf 15 = .ok (.iconst 0, 1) := by decide +kernel
theorem dL_needsOf_16 : decode cL_needsOf 16 = .ok (.ireturn, 1) := by decide +kernel
theorem dL_neededBy_0 : decode cL_neededBy 0 = .ok (.aload_n 2, 1) := by decide +kernel
theorem dL_neededBy_1 : decode cL_neededBy 1 = .ok (.iconst 0, 1) := by decide +kernel
theorem dL_neededBy_2 : decode cL_neededBy 2 = .ok (.aload_n 0, 1) := by decide +kernel
theorem dL_neededBy_3 : decode cL_neededBy 3 = .ok (.iload_n 1, 1) := by decide +kernel
theorem dL_neededBy_4 : decode cL_neededBy 4 = .ok (.invokevirtual 132, 3) := by decide +kernel
theorem dL_neededBy_7 : decode cL_neededBy 7 = .ok (.i2l, 1) := by decide +kernel
theorem dL_neededBy_8 : decode cL_neededBy 8 = .ok (.lastore, 1) := by decide +kernel
theorem dL_neededBy_9 : decode cL_neededBy 9 = .ok (.goto 6, 3) := by decide +kernel
theorem dL_neededBy_12 : decode cL_neededBy 12 = .ok (.astore_n 3, 1) := by decide +kernel
theorem dL_neededBy_13 : decode cL_neededBy 13 = .ok (.iconst 1, 1) := by decide +kernel
theorem dL_neededBy_14 : decode cL_neededBy 14 = .ok (.ireturn, 1) := by decide +kernel
theorem dL_neededBy_15 : decode cL_neededBy 15 = .ok (.iconst 0, 1) := by decide +kernel
theorem dL_neededBy_16 : decode cL_neededBy 16 = .ok (.ireturn, 1) := by decide +kernel
theorem dL_isBlocked_0 : decode cL_isBlocked 0 = .ok (.aload_n 2, 1) := by decide +kernel
theorem dL_isBlocked_1 : decode cL_isBlocked 1 = .ok (.iconst 0, 1) := by decide +kernel
theorem dL_isBlocked_2 : decode cL_isBlocked 2 = .ok (.aload_n 0, 1) := by decide +kernel
theorem dL_isBlocked_3 : decode cL_isBlocked 3 = .ok (.iload_n 1, 1) := by decide +kernel
theorem dL_isBlocked_4 : decode cL_isBlocked 4 = .ok (.invokevirtual 135, 3) := by decide +kernel
theorem dL_isBlocked_7 : decode cL_isBlocked 7 = .ok (.ifCond .eq 7, 3) := by decide +kernel
theorem dL_isBlocked_10 : decode cL_isBlocked 10 = .ok (.lconst 1, 1) := by decide +kernel
theorem dL_isBlocked_11 : decode cL_isBlocked 11 = .ok (.goto 4, 3) := by decide +kernel
theorem dL_isBlocked_14 : decode cL_isBlocked 14 = .ok (.lconst 0, 1) := by decide +kernel
theorem dL_isBlocked_15 : decode cL_isBlocked 15 = .ok (.lastore, 1) := by decide +kernel
theorem dL_isBlocked_16 : decode cL_isBlocked 16 = .ok (.goto 6, 3) := by decide +kernel
theorem dL_isBlocked_19 : decode cL_isBlocked 19 = .ok (.astore_n 3, 1) := by decide +kernel
theorem dL_isBlocked_20 : decode cL_isBlocked 20 = .ok (.iconst 1, 1) := by decide +kernel
theorem dL_isBlocked_21 : decode cL_isBlocked 21 = .ok (.ireturn, 1) := by decide +kernel
theorem dL_isBlocked_22 : decode cL_isBlocked 22 = .ok (.iconst 0, 1) := by decide +kernel
theorem dL_isBlocked_23 : decode cL_isBlocked 23 = .ok (.ireturn, 1) := by decide +kernel
theorem dL_blockersOf_0 : decode cL_blockersOf 0 = .ok (.aload_n 2, 1) := by decide +kernel
theorem dL_blockersOf_1 : decode cL_blockersOf 1 = .ok (.iconst 0, 1) := by decide +kernel
theorem dL_blockersOf_2 : decode cL_blockersOf 2 = .ok (.aload_n 0, 1) := by decide +kernel
theorem dL_blockersOf_3 : decode cL_blockersOf 3 = .ok (.iload_n 1, 1) := by decide +kernel
theorem dL_blockersOf_4 : decode cL_blockersOf 4 = .ok (.invokevirtual 138, 3) := by decide +kernel
theorem dL_blockersOf_7 : decode cL_blockersOf 7 = .ok (.i2l, 1) := by decide +kernel
theorem dL_blockersOf_8 : decode cL_blockersOf 8 = .ok (.lastore, 1) := by decide +kernel
theorem dL_blockersOf_9 : decode cL_blockersOf 9 = .ok (.goto 6, 3) := by decide +kernel
theorem dL_blockersOf_12 : decode cL_blockersOf 12 = .ok (.astore_n 3, 1) := by decide +kernel
theorem dL_blockersOf_13 : decode cL_blockersOf 13 = .ok (.iconst 1, 1) := by decide +kernel
theorem dL_blockersOf_14 : decode cL_blockersOf 14 = .ok (.ireturn, 1) := by decide +kernel
theorem dL_blockersOf_15 : decode cL_blockersOf 15 = .ok (.iconst 0, 1) := by decide +kernel
theorem dL_blockersOf_16 : decode cL_blockersOf 16 = .ok (.ireturn, 1) := by decide +kernel
theorem dL_allNeedsByGoing_0 : decode cL_allNeedsByGoing 0 = .ok (.aload_n 2, 1) := by decide +kernel
theorem dL_allNeedsByGoing_1 : decode cL_allNeedsByGoing 1 = .ok (.iconst 0, 1) := by decide +kernel
theorem dL_allNeedsByGoing_2 : decode cL_allNeedsByGoing 2 = .ok (.aload_n 0, 1) := by decide +kernel
theorem dL_allNeedsByGoing_3 : decode cL_allNeedsByGoing 3 = .ok (.iload_n 1, 1) := by decide +kernel
theorem dL_allNeedsByGoing_4 : decode cL_allNeedsByGoing 4 = .ok (.invokevirtual 141, 3) := by decide +kernel
theorem dL_allNeedsByGoing_7 : decode cL_allNeedsByGoing 7 = .ok (.i2l, 1) := by decide +kernel
theorem dL_allNeedsByGoing_8 : decode cL_allNeedsByGoing 8 = .ok (.lastore, 1) := by decide +kernel
theorem dL_allNeedsByGoing_9 : decode cL_allNeedsByGoing 9 = .ok (.goto 6, 3) := by decide +kernel
theorem dL_allNeedsByGoing_12 : decode cL_allNeedsByGoing 12 = .ok (.astore_n 3, 1) := by decide +kernel
theorem dL_allNeedsByGoing_13 : decode cL_allNeedsByGoing 13 = .ok (.iconst 1, 1) := by decide +kernel
theorem dL_allNeedsByGoing_14 : decode cL_allNeedsByGoing 14 = .ok (.ireturn, 1) := by decide +kernel
theorem dL_allNeedsByGoing_15 : decode cL_allNeedsByGoing 15 = .ok (.iconst 0, 1) := by decide +kernel
theorem dL_allNeedsByGoing_16 : decode cL_allNeedsByGoing 16 = .ok (.ireturn, 1) := by decide +kernel
theorem dL_allNeedsByTable_0 : decode cL_allNeedsByTable 0 = .ok (.aload_n 2, 1) := by decide +kernel
theorem dL_allNeedsByTable_1 : decode cL_allNeedsByTable 1 = .ok (.iconst 0, 1) := by decide +kernel
theorem dL_allNeedsByTable_2 : decode cL_allNeedsByTable 2 = .ok (.aload_n 0, 1) := by decide +kernel
theorem dL_allNeedsByTable_3 : decode cL_allNeedsByTable 3 = .ok (.iload_n 1, 1) := by decide +kernel
theorem dL_allNeedsByTable_4 : decode cL_allNeedsByTable 4 = .ok (.invokevirtual 144, 3) := by decide +kernel
theorem dL_allNeedsByTable_7 : decode cL_allNeedsByTable 7 = .ok (.i2l, 1) := by decide +kernel
theorem dL_allNeedsByTable_8 : decode cL_allNeedsByTable 8 = .ok (.lastore, 1) := by decide +kernel
theorem dL_allNeedsByTable_9 : decode cL_allNeedsByTable 9 = .ok (.goto 6, 3) := by decide +kernel
theorem dL_allNeedsByTable_12 : decode cL_allNeedsByTable 12 = .ok (.astore_n 3, 1) := by decide +kernel
theorem dL_allNeedsByTable_13 : decode cL_allNeedsByTable 13 = .ok (.iconst 1, 1) := by decide +kernel
theorem dL_allNeedsByTable_14 : decode cL_allNeedsByTable 14 = .ok (.ireturn, 1) := by decide +kernel
theorem dL_allNeedsByTable_15 : decode cL_allNeedsByTable 15 = .ok (.iconst 0, 1) := by decide +kernel
theorem dL_allNeedsByTable_16 : decode cL_allNeedsByTable 16 = .ok (.ireturn, 1) := by decide +kernel
theorem dL_chainOf_0 : decode cL_chainOf 0 = .ok (.aload_n 2, 1) := by decide +kernel
theorem dL_chainOf_1 : decode cL_chainOf 1 = .ok (.iconst 0, 1) := by decide +kernel
theorem dL_chainOf_2 : decode cL_chainOf 2 = .ok (.aload_n 0, 1) := by decide +kernel
theorem dL_chainOf_3 : decode cL_chainOf 3 = .ok (.iload_n 1, 1) := by decide +kernel
theorem dL_chainOf_4 : decode cL_chainOf 4 = .ok (.invokevirtual 147, 3) := by decide +kernel
theorem dL_chainOf_7 : decode cL_chainOf 7 = .ok (.i2l, 1) := by decide +kernel
theorem dL_chainOf_8 : decode cL_chainOf 8 = .ok (.lastore, 1) := by decide +kernel
theorem dL_chainOf_9 : decode cL_chainOf 9 = .ok (.goto 6, 3) := by decide +kernel
theorem dL_chainOf_12 : decode cL_chainOf 12 = .ok (.astore_n 3, 1) := by decide +kernel
theorem dL_chainOf_13 : decode cL_chainOf 13 = .ok (.iconst 1, 1) := by decide +kernel
theorem dL_chainOf_14 : decode cL_chainOf 14 = .ok (.ireturn, 1) := by decide +kernel
theorem dL_chainOf_15 : decode cL_chainOf 15 = .ok (.iconst 0, 1) := by decide +kernel
theorem dL_chainOf_16 : decode cL_chainOf 16 = .ok (.ireturn, 1) := by decide +kernel
theorem dL_capacityOf_0 : decode cL_capacityOf 0 = .ok (.aload_n 2, 1) := by decide +kernel
theorem dL_capacityOf_1 : decode cL_capacityOf 1 = .ok (.iconst 0, 1) := by decide +kernel
theorem dL_capacityOf_2 : decode cL_capacityOf 2 = .ok (.aload_n 0, 1) := by decide +kernel
theorem dL_capacityOf_3 : decode cL_capacityOf 3 = .ok (.iload_n 1, 1) := by decide +kernel
theorem dL_capacityOf_4 : decode cL_capacityOf 4 = .ok (.invokevirtual 150, 3) := by decide +kernel
theorem dL_capacityOf_7 : decode cL_capacityOf 7 = .ok (.i2l, 1) := by decide +kernel
theorem dL_capacityOf_8 : decode cL_capacityOf 8 = .ok (.lastore, 1) := by decide +kernel
theorem dL_capacityOf_9 : decode cL_capacityOf 9 = .ok (.goto 6, 3) := by decide +kernel
theorem dL_capacityOf_12 : decode cL_capacityOf 12 = .ok (.astore_n 3, 1) := by decide +kernel
theorem dL_capacityOf_13 : decode cL_capacityOf 13 = .ok (.iconst 1, 1) := by decide +kernel
theorem dL_capacityOf_14 : decode cL_capacityOf 14 = .ok (.ireturn, 1) := by decide +kernel
theorem dL_capacityOf_15 : decode cL_capacityOf 15 = .ok (.iconst 0, 1) := by decide +kernel
theorem dL_capacityOf_16 : decode cL_capacityOf 16 = .ok (.ireturn, 1) := by decide +kernel
theorem dL_loadByTickets_0 : decode cL_loadByTickets 0 = .ok (.aload_n 2, 1) := by decide +kernel
theorem dL_loadByTickets_1 : decode cL_loadByTickets 1 = .ok (.iconst 0, 1) := by decide +kernel
theorem dL_loadByTickets_2 : decode cL_loadByTickets 2 = .ok (.aload_n 0, 1) := by decide +kernel
theorem dL_loadByTickets_3 : decode cL_loadByTickets 3 = .ok (.iload_n 1, 1) := by decide +kernel
theorem dL_loadByTickets_4 : decode cL_loadByTickets 4 = .ok (.invokevirtual 153, 3) := by decide +kernel
theorem dL_loadByTickets_7 : decode cL_loadByTickets 7 = .ok (.i2l, 1) := by decide +kernel
theorem dL_loadByTickets_8 : decode cL_loadByTickets 8 = .ok (.lastore, 1) := by decide +kernel
theorem dL_loadByTickets_9 : decode cL_loadByTickets 9 = .ok (.goto 6, 3) := by decide +kernel
theorem dL_loadByTickets_12 : decode cL_loadByTickets 12 = .ok (.astore_n 3, 1) := by decide +kernel
theorem dL_loadByTickets_13 : decode cL_loadByTickets 13 = .ok (.iconst 1, 1) := by decide +kernel
theorem dL_loadByTickets_14 : decode cL_loadByTickets 14 = .ok (.ireturn, 1) := by decide +kernel
theorem dL_loadByTickets_15 : decode cL_loadByTickets 15 = .ok (.iconst 0, 1) := by decide +kernel
theorem dL_loadByTickets_16 : decode cL_loadByTickets 16 = .ok (.ireturn, 1) := by decide +kernel
theorem dL_loadByAccount_0 : decode cL_loadByAccount 0 = .ok (.aload_n 2, 1) := by decide +kernel
theorem dL_loadByAccount_1 : decode cL_loadByAccount 1 = .ok (.iconst 0, 1) := by decide +kernel
theorem dL_loadByAccount_2 : decode cL_loadByAccount 2 = .ok (.aload_n 0, 1) := by decide +kernel
theorem dL_loadByAccount_3 : decode cL_loadByAccount 3 = .ok (.iload_n 1, 1) := by decide +kernel
theorem dL_loadByAccount_4 : decode cL_loadByAccount 4 = .ok (.invokevirtual 156, 3) := by decide +kernel
theorem dL_loadByAccount_7 : decode cL_loadByAccount 7 = .ok (.i2l, 1) := by decide +kernel
theorem dL_loadByAccount_8 : decode cL_loadByAccount 8 = .ok (.lastore, 1) := by decide +kernel
theorem dL_loadByAccount_9 : decode cL_loadByAccount 9 = .ok (.goto 6, 3) := by decide +kernel
theorem dL_loadByAccount_12 : decode cL_loadByAccount 12 = .ok (.astore_n 3, 1) := by decide +kernel
theorem dL_loadByAccount_13 : decode cL_loadByAccount 13 = .ok (.iconst 1, 1) := by decide +kernel
theorem dL_loadByAccount_14 : decode cL_loadByAccount 14 = .ok (.ireturn, 1) := by decide +kernel
theorem dL_loadByAccount_15 : decode cL_loadByAccount 15 = .ok (.iconst 0, 1) := by decide +kernel
theorem dL_loadByAccount_16 : decode cL_loadByAccount 16 = .ok (.ireturn, 1) := by decide +kernel
theorem dL_inProgressOf_0 : decode cL_inProgressOf 0 = .ok (.aload_n 2, 1) := by decide +kernel
theorem dL_inProgressOf_1 : decode cL_inProgressOf 1 = .ok (.iconst 0, 1) := by decide +kernel
theorem dL_inProgressOf_2 : decode cL_inProgressOf 2 = .ok (.aload_n 0, 1) := by decide +kernel
theorem dL_inProgressOf_3 : decode cL_inProgressOf 3 = .ok (.iload_n 1, 1) := by decide +kernel
theorem dL_inProgressOf_4 : decode cL_inProgressOf 4 = .ok (.invokevirtual 159, 3) := by decide +kernel
theorem dL_inProgressOf_7 : decode cL_inProgressOf 7 = .ok (.i2l, 1) := by decide +kernel
theorem dL_inProgressOf_8 : decode cL_inProgressOf 8 = .ok (.lastore, 1) := by decide +kernel
theorem dL_inProgressOf_9 : decode cL_inProgressOf 9 = .ok (.goto 6, 3) := by decide +kernel
theorem dL_inProgressOf_12 : decode cL_inProgressOf 12 = .ok (.astore_n 3, 1) := by decide +kernel
theorem dL_inProgressOf_13 : decode cL_inProgressOf 13 = .ok (.iconst 1, 1) := by decide +kernel
theorem dL_inProgressOf_14 : decode cL_inProgressOf 14 = .ok (.ireturn, 1) := by decide +kernel
theorem dL_inProgressOf_15 : decode cL_inProgressOf 15 = .ok (.iconst 0, 1) := by decide +kernel
theorem dL_inProgressOf_16 : decode cL_inProgressOf 16 = .ok (.ireturn, 1) := by decide +kernel
theorem dL_donePointsOf_0 : decode cL_donePointsOf 0 = .ok (.aload_n 2, 1) := by decide +kernel
theorem dL_donePointsOf_1 : decode cL_donePointsOf 1 = .ok (.iconst 0, 1) := by decide +kernel
theorem dL_donePointsOf_2 : decode cL_donePointsOf 2 = .ok (.aload_n 0, 1) := by decide +kernel
theorem dL_donePointsOf_3 : decode cL_donePointsOf 3 = .ok (.iload_n 1, 1) := by decide +kernel
theorem dL_donePointsOf_4 : decode cL_donePointsOf 4 = .ok (.invokevirtual 162, 3) := by decide +kernel
theorem dL_donePointsOf_7 : decode cL_donePointsOf 7 = .ok (.i2l, 1) := by decide +kernel
theorem dL_donePointsOf_8 : decode cL_donePointsOf 8 = .ok (.lastore, 1) := by decide +kernel
theorem dL_donePointsOf_9 : decode cL_donePointsOf 9 = .ok (.goto 6, 3) := by decide +kernel
theorem dL_donePointsOf_12 : decode cL_donePointsOf 12 = .ok (.astore_n 3, 1) := by decide +kernel
theorem dL_donePointsOf_13 : decode cL_donePointsOf 13 = .ok (.iconst 1, 1) := by decide +kernel
theorem dL_donePointsOf_14 : decode cL_donePointsOf 14 = .ok (.ireturn, 1) := by decide +kernel
theorem dL_donePointsOf_15 : decode cL_donePointsOf 15 = .ok (.iconst 0, 1) := by decide +kernel
theorem dL_donePointsOf_16 : decode cL_donePointsOf 16 = .ok (.ireturn, 1) := by decide +kernel
theorem dL_dateOf_0 : decode cL_dateOf 0 = .ok (.aload_n 2, 1) := by decide +kernel
theorem dL_dateOf_1 : decode cL_dateOf 1 = .ok (.iconst 0, 1) := by decide +kernel
theorem dL_dateOf_2 : decode cL_dateOf 2 = .ok (.aload_n 0, 1) := by decide +kernel
theorem dL_dateOf_3 : decode cL_dateOf 3 = .ok (.iload_n 1, 1) := by decide +kernel
theorem dL_dateOf_4 : decode cL_dateOf 4 = .ok (.invokevirtual 165, 3) := by decide +kernel
theorem dL_dateOf_7 : decode cL_dateOf 7 = .ok (.i2l, 1) := by decide +kernel
theorem dL_dateOf_8 : decode cL_dateOf 8 = .ok (.lastore, 1) := by decide +kernel
theorem dL_dateOf_9 : decode cL_dateOf 9 = .ok (.goto 6, 3) := by decide +kernel
theorem dL_dateOf_12 : decode cL_dateOf 12 = .ok (.astore_n 3, 1) := by decide +kernel
theorem dL_dateOf_13 : decode cL_dateOf 13 = .ok (.iconst 1, 1) := by decide +kernel
theorem dL_dateOf_14 : decode cL_dateOf 14 = .ok (.ireturn, 1) := by decide +kernel
theorem dL_dateOf_15 : decode cL_dateOf 15 = .ok (.iconst 0, 1) := by decide +kernel
theorem dL_dateOf_16 : decode cL_dateOf 16 = .ok (.ireturn, 1) := by decide +kernel
theorem dL_pointsLeft_0 : decode cL_pointsLeft 0 = .ok (.aload_n 2, 1) := by decide +kernel
theorem dL_pointsLeft_1 : decode cL_pointsLeft 1 = .ok (.iconst 0, 1) := by decide +kernel
theorem dL_pointsLeft_2 : decode cL_pointsLeft 2 = .ok (.aload_n 0, 1) := by decide +kernel
theorem dL_pointsLeft_3 : decode cL_pointsLeft 3 = .ok (.iload_n 1, 1) := by decide +kernel
theorem dL_pointsLeft_4 : decode cL_pointsLeft 4 = .ok (.invokevirtual 168, 3) := by decide +kernel
theorem dL_pointsLeft_7 : decode cL_pointsLeft 7 = .ok (.i2l, 1) := by decide +kernel
theorem dL_pointsLeft_8 : decode cL_pointsLeft 8 = .ok (.lastore, 1) := by decide +kernel
theorem dL_pointsLeft_9 : decode cL_pointsLeft 9 = .ok (.goto 6, 3) := by decide +kernel
theorem dL_pointsLeft_12 : decode cL_pointsLeft 12 = .ok (.astore_n 3, 1) := by decide +kernel
theorem dL_pointsLeft_13 : decode cL_pointsLeft 13 = .ok (.iconst 1, 1) := by decide +kernel
theorem dL_pointsLeft_14 : decode cL_pointsLeft 14 = .ok (.ireturn, 1) := by decide +kernel
theorem dL_pointsLeft_15 : decode cL_pointsLeft 15 = .ok (.iconst 0, 1) := by decide +kernel
theorem dL_pointsLeft_16 : decode cL_pointsLeft 16 = .ok (.ireturn, 1) := by decide +kernel
theorem dL_pointsDone_0 : decode cL_pointsDone 0 = .ok (.aload_n 2, 1) := by decide +kernel
theorem dL_pointsDone_1 : decode cL_pointsDone 1 = .ok (.iconst 0, 1) := by decide +kernel
theorem dL_pointsDone_2 : decode cL_pointsDone 2 = .ok (.aload_n 0, 1) := by decide +kernel
theorem dL_pointsDone_3 : decode cL_pointsDone 3 = .ok (.iload_n 1, 1) := by decide +kernel
theorem dL_pointsDone_4 : decode cL_pointsDone 4 = .ok (.invokevirtual 171, 3) := by decide +kernel
theorem dL_pointsDone_7 : decode cL_pointsDone 7 = .ok (.i2l, 1) := by decide +kernel
theorem dL_pointsDone_8 : decode cL_pointsDone 8 = .ok (.lastore, 1) := by decide +kernel
theorem dL_pointsDone_9 : decode cL_pointsDone 9 = .ok (.goto 6, 3) := by decide +kernel
theorem dL_pointsDone_12 : decode cL_pointsDone 12 = .ok (.astore_n 3, 1) := by decide +kernel
theorem dL_pointsDone_13 : decode cL_pointsDone 13 = .ok (.iconst 1, 1) := by decide +kernel
theorem dL_pointsDone_14 : decode cL_pointsDone 14 = .ok (.ireturn, 1) := by decide +kernel
theorem dL_pointsDone_15 : decode cL_pointsDone 15 = .ok (.iconst 0, 1) := by decide +kernel
theorem dL_pointsDone_16 : decode cL_pointsDone 16 = .ok (.ireturn, 1) := by decide +kernel
theorem dL_hundredthsDone_0 : decode cL_hundredthsDone 0 = .ok (.aload_n 2, 1) := by decide +kernel
theorem dL_hundredthsDone_1 : decode cL_hundredthsDone 1 = .ok (.iconst 0, 1) := by decide +kernel
theorem dL_hundredthsDone_2 : decode cL_hundredthsDone 2 = .ok (.aload_n 0, 1) := by decide +kernel
theorem dL_hundredthsDone_3 : decode cL_hundredthsDone 3 = .ok (.iload_n 1, 1) := by decide +kernel
theorem dL_hundredthsDone_4 : decode cL_hundredthsDone 4 = .ok (.invokevirtual 174, 3) := by decide +kernel
theorem dL_hundredthsDone_7 : decode cL_hundredthsDone 7 = .ok (.i2l, 1) := by decide +kernel
theorem dL_hundredthsDone_8 : decode cL_hundredthsDone 8 = .ok (.lastore, 1) := by decide +kernel
theorem dL_hundredthsDone_9 : decode cL_hundredthsDone 9 = .ok (.goto 6, 3) := by decide +kernel
theorem dL_hundredthsDone_12 : decode cL_hundredthsDone 12 = .ok (.astore_n 3, 1) := by decide +kernel
theorem dL_hundredthsDone_13 : decode cL_hundredthsDone 13 = .ok (.iconst 1, 1) := by decide +kernel
theorem dL_hundredthsDone_14 : decode cL_hundredthsDone 14 = .ok (.ireturn, 1) := by decide +kernel
theorem dL_hundredthsDone_15 : decode cL_hundredthsDone 15 = .ok (.iconst 0, 1) := by decide +kernel
theorem dL_hundredthsDone_16 : decode cL_hundredthsDone 16 = .ok (.ireturn, 1) := by decide +kernel
theorem dL_isLate_0 : decode cL_isLate 0 = .ok (.aload_n 2, 1) := by decide +kernel
theorem dL_isLate_1 : decode cL_isLate 1 = .ok (.iconst 0, 1) := by decide +kernel
theorem dL_isLate_2 : decode cL_isLate 2 = .ok (.aload_n 0, 1) := by decide +kernel
theorem dL_isLate_3 : decode cL_isLate 3 = .ok (.iload_n 1, 1) := by decide +kernel
theorem dL_isLate_4 : decode cL_isLate 4 = .ok (.invokevirtual 177, 3) := by decide +kernel
theorem dL_isLate_7 : decode cL_isLate 7 = .ok (.ifCond .eq 7, 3) := by decide +kernel
theorem dL_isLate_10 : decode cL_isLate 10 = .ok (.lconst 1, 1) := by decide +kernel
theorem dL_isLate_11 : decode cL_isLate 11 = .ok (.goto 4, 3) := by decide +kernel
theorem dL_isLate_14 : decode cL_isLate 14 = .ok (.lconst 0, 1) := by decide +kernel
theorem dL_isLate_15 : decode cL_isLate 15 = .ok (.lastore, 1) := by decide +kernel
theorem dL_isLate_16 : decode cL_isLate 16 = .ok (.goto 6, 3) := by decide +kernel
theorem dL_isLate_19 : decode cL_isLate 19 = .ok (.astore_n 3, 1) := by decide +kernel
theorem dL_isLate_20 : decode cL_isLate 20 = .ok (.iconst 1, 1) := by decide +kernel
theorem dL_isLate_21 : decode cL_isLate 21 = .ok (.ireturn, 1) := by decide +kernel
theorem dL_isLate_22 : decode cL_isLate 22 = .ok (.iconst 0, 1) := by decide +kernel
theorem dL_isLate_23 : decode cL_isLate 23 = .ok (.ireturn, 1) := by decide +kernel
theorem dL_misplanned_0 : decode cL_misplanned 0 = .ok (.aload_n 2, 1) := by decide +kernel
theorem dL_misplanned_1 : decode cL_misplanned 1 = .ok (.iconst 0, 1) := by decide +kernel
theorem dL_misplanned_2 : decode cL_misplanned 2 = .ok (.aload_n 0, 1) := by decide +kernel
theorem dL_misplanned_3 : decode cL_misplanned 3 = .ok (.iload_n 1, 1) := by decide +kernel
theorem dL_misplanned_4 : decode cL_misplanned 4 = .ok (.invokevirtual 180, 3) := by decide +kernel
theorem dL_misplanned_7 : decode cL_misplanned 7 = .ok (.i2l, 1) := by decide +kernel
theorem dL_misplanned_8 : decode cL_misplanned 8 = .ok (.lastore, 1) := by decide +kernel
theorem dL_misplanned_9 : decode cL_misplanned 9 = .ok (.goto 6, 3) := by decide +kernel
theorem dL_misplanned_12 : decode cL_misplanned 12 = .ok (.astore_n 3, 1) := by decide +kernel
theorem dL_misplanned_13 : decode cL_misplanned 13 = .ok (.iconst 1, 1) := by decide +kernel
theorem dL_misplanned_14 : decode cL_misplanned 14 = .ok (.ireturn, 1) := by decide +kernel
theorem dL_misplanned_15 : decode cL_misplanned 15 = .ok (.iconst 0, 1) := by decide +kernel
theorem dL_misplanned_16 : decode cL_misplanned 16 = .ok (.ireturn, 1) := by decide +kernel
theorem dL_nextToDo_0 : decode cL_nextToDo 0 = .ok (.aload_n 1, 1) := by decide +kernel
theorem dL_nextToDo_1 : decode cL_nextToDo 1 = .ok (.iconst 0, 1) := by decide +kernel
theorem dL_nextToDo_2 : decode cL_nextToDo 2 = .ok (.aload_n 0, 1) := by decide +kernel
theorem dL_nextToDo_3 : decode cL_nextToDo 3 = .ok (.invokevirtual 183, 3) := by decide +kernel
theorem dL_nextToDo_6 : decode cL_nextToDo 6 = .ok (.i2l, 1) := by decide +kernel
theorem dL_nextToDo_7 : decode cL_nextToDo 7 = .ok (.lastore, 1) := by decide +kernel
theorem dL_nextToDo_8 : decode cL_nextToDo 8 = .ok (.goto 6, 3) := by decide +kernel
theorem dL_nextToDo_11 : decode cL_nextToDo 11 = .ok (.astore_n 2, 1) := by decide +kernel
theorem dL_nextToDo_12 : decode cL_nextToDo 12 = .ok (.iconst 1, 1) := by decide +kernel
theorem dL_nextToDo_13 : decode cL_nextToDo 13 = .ok (.ireturn, 1) := by decide +kernel
theorem dL_nextToDo_14 : decode cL_nextToDo 14 = .ok (.iconst 0, 1) := by decide +kernel
theorem dL_nextToDo_15 : decode cL_nextToDo 15 = .ok (.ireturn, 1) := by decide +kernel
theorem dL_closedAt_0 : decode cL_closedAt 0 = .ok (.aload_n 2, 1) := by decide +kernel
theorem dL_closedAt_1 : decode cL_closedAt 1 = .ok (.iconst 0, 1) := by decide +kernel
theorem dL_closedAt_2 : decode cL_closedAt 2 = .ok (.aload_n 0, 1) := by decide +kernel
theorem dL_closedAt_3 : decode cL_closedAt 3 = .ok (.iload_n 1, 1) := by decide +kernel
theorem dL_closedAt_4 : decode cL_closedAt 4 = .ok (.invokevirtual 186, 3) := by decide +kernel
theorem dL_closedAt_7 : decode cL_closedAt 7 = .ok (.i2l, 1) := by decide +kernel
theorem dL_closedAt_8 : decode cL_closedAt 8 = .ok (.lastore, 1) := by decide +kernel
theorem dL_closedAt_9 : decode cL_closedAt 9 = .ok (.goto 6, 3) := by decide +kernel
theorem dL_closedAt_12 : decode cL_closedAt 12 = .ok (.astore_n 3, 1) := by decide +kernel
theorem dL_closedAt_13 : decode cL_closedAt 13 = .ok (.iconst 1, 1) := by decide +kernel
theorem dL_closedAt_14 : decode cL_closedAt 14 = .ok (.ireturn, 1) := by decide +kernel
theorem dL_closedAt_15 : decode cL_closedAt 15 = .ok (.iconst 0, 1) := by decide +kernel
theorem dL_closedAt_16 : decode cL_closedAt 16 = .ok (.ireturn, 1) := by decide +kernel
theorem dL_withState_0 : decode cL_withState 0 = .ok (.aload_n 2, 1) := by decide +kernel
theorem dL_withState_1 : decode cL_withState 1 = .ok (.iconst 0, 1) := by decide +kernel
theorem dL_withState_2 : decode cL_withState 2 = .ok (.aload_n 0, 1) := by decide +kernel
theorem dL_withState_3 : decode cL_withState 3 = .ok (.iload_n 1, 1) := by decide +kernel
theorem dL_withState_4 : decode cL_withState 4 = .ok (.invokevirtual 189, 3) := by decide +kernel
theorem dL_withState_7 : decode cL_withState 7 = .ok (.i2l, 1) := by decide +kernel
theorem dL_withState_8 : decode cL_withState 8 = .ok (.lastore, 1) := by decide +kernel
theorem dL_withState_9 : decode cL_withState 9 = .ok (.goto 6, 3) := by decide +kernel
theorem dL_withState_12 : decode cL_withState 12 = .ok (.astore_n 3, 1) := by decide +kernel
theorem dL_withState_13 : decode cL_withState 13 = .ok (.iconst 1, 1) := by decide +kernel
theorem dL_withState_14 : decode cL_withState 14 = .ok (.ireturn, 1) := by decide +kernel
theorem dL_withState_15 : decode cL_withState 15 = .ok (.iconst 0, 1) := by decide +kernel
theorem dL_withState_16 : decode cL_withState 16 = .ok (.ireturn, 1) := by decide +kernel
theorem dL_pointsWith_0 : decode cL_pointsWith 0 = .ok (.aload_n 2, 1) := by decide +kernel
theorem dL_pointsWith_1 : decode cL_pointsWith 1 = .ok (.iconst 0, 1) := by decide +kernel
theorem dL_pointsWith_2 : decode cL_pointsWith 2 = .ok (.aload_n 0, 1) := by decide +kernel
theorem dL_pointsWith_3 : decode cL_pointsWith 3 = .ok (.iload_n 1, 1) := by decide +kernel
theorem dL_pointsWith_4 : decode cL_pointsWith 4 = .ok (.invokevirtual 192, 3) := by decide +kernel
theorem dL_pointsWith_7 : decode cL_pointsWith 7 = .ok (.i2l, 1) := by decide +kernel
theorem dL_pointsWith_8 : decode cL_pointsWith 8 = .ok (.lastore, 1) := by decide +kernel
theorem dL_pointsWith_9 : decode cL_pointsWith 9 = .ok (.goto 6, 3) := by decide +kernel
theorem dL_pointsWith_12 : decode cL_pointsWith 12 = .ok (.astore_n 3, 1) := by decide +kernel
theorem dL_pointsWith_13 : decode cL_pointsWith 13 = .ok (.iconst 1, 1) := by decide +kernel
theorem dL_pointsWith_14 : decode cL_pointsWith 14 = .ok (.ireturn, 1) := by decide +kernel
theorem dL_pointsWith_15 : decode cL_pointsWith 15 = .ok (.iconst 0, 1) := by decide +kernel
theorem dL_pointsWith_16 : decode cL_pointsWith 16 = .ok (.ireturn, 1) := by decide +kernel
