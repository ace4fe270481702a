theorem dX7_init_0 : decode cX7_init 0 = .ok (.aload_n 0, 1) := by decide +kernel
theorem dX7_init_1 : decode cX7_init 1 = .ok (.invokespecial 1, 3) := by decide +kernel
theorem dX7_init_4 : decode cX7_init 4 = .ok (.aload_n 0, 1) := by decide +kernel
theorem dX7_init_5 : decode cX7_init 5 = .ok (.sipush 213, 3) := by decide +kernel
theorem dX7_init_8 : decode cX7_init 8 = .ok (.newarray .int, 2) := by decide +kernel
theorem dX7_init_10 : decode cX7_init 10 = .ok (.putfield 7, 3) := by decide +kernel
theorem dX7_init_13 : decode cX7_init 13 = .ok (.aload_n 0, 1) := by decide +kernel
theorem dX7_init_14 : decode cX7_init 14 = .ok (.sipush 213, 3) := by decide +kernel
theorem dX7_init_17 : decode cX7_init 17 = .ok (.newarray .int, 2) := by decide +kernel
theorem dX7_init_19 : decode cX7_init 19 = .ok (.putfield 13, 3) := by decide +kernel
theorem dX7_init_22 : decode cX7_init 22 = .ok (.aload_n 0, 1) := by decide +kernel
theorem dX7_init_23 : decode cX7_init 23 = .ok (.sipush 1278, 3) := by decide +kernel
theorem dX7_init_26 : decode cX7_init 26 = .ok (.newarray .int, 2) := by decide +kernel
theorem dX7_init_28 : decode cX7_init 28 = .ok (.putfield 16, 3) := by decide +kernel
theorem dX7_init_31 : decode cX7_init 31 = .ok (.aload_n 0, 1) := by decide +kernel
theorem dX7_init_32 : decode cX7_init 32 = .ok (.sipush 426, 3) := by decide +kernel
theorem dX7_init_35 : decode cX7_init 35 = .ok (.newarray .int, 2) := by decide +kernel
theorem dX7_init_37 : decode cX7_init 37 = .ok (.putfield 19, 3) := by decide +kernel
theorem dX7_init_40 : decode cX7_init 40 = .ok (.aload_n 0, 1) := by decide +kernel
theorem dX7_init_41 : decode cX7_init 41 = .ok (.iconst 2, 1) := by decide +kernel
theorem dX7_init_42 : decode cX7_init 42 = .ok (.newarray .boolean, 2) := by decide +kernel
theorem dX7_init_44 : decode cX7_init 44 = .ok (.putfield 22, 3) := by decide +kernel
theorem dX7_init_47 : decode cX7_init 47 = .ok (.aload_n 0, 1) := by decide +kernel
theorem dX7_init_48 : decode cX7_init 48 = .ok (.bipush 60, 2) := by decide +kernel
theorem dX7_init_50 : decode cX7_init 50 = .ok (.newarray .int, 2) := by decide +kernel
theorem dX7_init_52 : decode cX7_init 52 = .ok (.putfield 26, 3) := by decide +kernel
theorem dX7_init_55 : decode cX7_init 55 = .ok (.aload_n 0, 1) := by decide +kernel
theorem dX7_init_56 : decode cX7_init 56 = .ok (.bipush 96, 2) := by decide +kernel
theorem dX7_init_58 : decode cX7_init 58 = .ok (.newarray .int, 2) := by decide +kernel
theorem dX7_init_60 : decode cX7_init 60 = .ok (.putfield 29, 3) := by decide +kernel
theorem dX7_init_63 : decode cX7_init 63 = .ok (.aload_n 0, 1) := by decide +kernel
theorem dX7_init_64 : decode cX7_init 64 = .ok (.bipush 20, 2) := by decide +kernel
theorem dX7_init_66 : decode cX7_init 66 = .ok (.newarray .int, 2) := by decide +kernel
theorem dX7_init_68 : decode cX7_init 68 = .ok (.putfield 32, 3) := by decide +kernel
theorem dX7_init_71 : decode cX7_init 71 = .ok (.aload_n 0, 1) := by decide +kernel
theorem dX7_init_72 : decode cX7_init 72 = .ok (.bipush 20, 2) := by decide +kernel
theorem dX7_init_74 : decode cX7_init 74 = .ok (.newarray .int, 2) := by decide +kernel
theorem dX7_init_76 : decode cX7_init 76 = .ok (.putfield 35, 3) := by decide +kernel
theorem dX7_init_79 : decode cX7_init 79 = .ok (.aload_n 0, 1) := by decide +kernel
theorem dX7_init_80 : decode cX7_init 80 = .ok (.iconst 0, 1) := by decide +kernel
theorem dX7_init_81 : decode cX7_init 81 = .ok (.putfield 38, 3) := by decide +kernel
theorem dX7_init_84 : decode cX7_init 84 = .ok (.iconst 0, 1) := by decide +kernel
theorem dX7_init_85 : decode cX7_init 85 = .ok (.istore_n 1, 1) := by decide +kernel
theorem dX7_init_86 : decode cX7_init 86 = .ok (.iload_n 1, 1) := by decide +kernel
theorem dX7_init_87 : decode cX7_init 87 = .ok (.iconst 5, 1) := by decide +kernel
theorem dX7_init_88 : decode cX7_init 88 = .ok (.if_icmp .ge 19, 3) := by decide +kernel
theorem dX7_init_91 : decode cX7_init 91 = .ok (.aload_n 0, 1) := by decide +kernel
theorem dX7_init_92 : decode cX7_init 92 = .ok (.getfield 7, 3) := by decide +kernel
theorem dX7_init_95 : decode cX7_init 95 = .ok (.iconst 4, 1) := by decide +kernel
theorem dX7_init_96 : decode cX7_init 96 = .ok (.iload_n 1, 1) := by decide +kernel
theorem dX7_init_97 : decode cX7_init 97 = .ok (.iadd, 1) := by decide +kernel
theorem dX7_init_98 : decode cX7_init 98 = .ok (.bipush 20, 2) := by decide +kernel
theorem dX7_init_100 : decode cX7_init 100 = .ok (.iastore, 1) := by decide +kernel
theorem dX7_init_101 : decode cX7_init 101 = .ok (.iinc 1 1, 3) := by decide +kernel
theorem dX7_init_104 : decode cX7_init 104 = .ok (.goto (-18), 3) := by decide +kernel
theorem dX7_init_107 : decode cX7_init 107 = .ok (.iconst 0, 1) := by decide +kernel
theorem dX7_init_108 : decode cX7_init 108 = .ok (.istore_n 1, 1) := by decide +kernel
theorem dX7_init_109 : decode cX7_init 109 = .ok (.iload_n 1, 1) := by decide +kernel
theorem dX7_init_110 : decode cX7_init 110 = .ok (.iconst 4, 1) := by decide +kernel
theorem dX7_init_111 : decode cX7_init 111 = .ok (.if_icmp .ge 24, 3) := by decide +kernel
theorem dX7_init_114 : decode cX7_init 114 = .ok (.aload_n 0, 1) := by decide +kernel
theorem dX7_init_115 : decode cX7_init 115 = .ok (.getfield 7, 3) := by decide +kernel
theorem dX7_init_118 : decode cX7_init 118 = .ok (.bipush 9, 2) := by decide +kernel
theorem dX7_init_120 : decode cX7_init 120 = .ok (.iload_n 1, 1) := by decide +kernel
theorem dX7_init_121 : decode cX7_init 121 = .ok (.iadd, 1) := by decide +kernel
theorem dX7_init_122 : decode cX7_init 122 = .ok (.bipush 10, 2) := by decide +kernel
theorem dX7_init_124 : decode cX7_init 124 = .ok (.iload_n 1, 1) := by decide +kernel
theorem dX7_init_125 : decode cX7_init 125 = .ok (.iconst 1, 1) := by decide +kernel
theorem dX7_init_126 : decode cX7_init 126 = .ok (.iadd, 1) := by decide +kernel
theorem dX7_init_127 : decode cX7_init 127 = .ok (.imul, 1) := by decide +kernel
theorem dX7_init_128 : decode cX7_init 128 = .ok (.iastore, 1) := by decide +kernel
theorem dX7_init_129 : decode cX7_init 129 = .ok (.iinc 1 1, 3) := by decide +kernel
theorem dX7_init_132 : decode cX7_init 132 = .ok (.goto (-23), 3) := by decide +kernel
theorem dX7_init_135 : decode cX7_init 135 = .ok (.return_, 1) := by decide +kernel
theorem dX7_thrown_0 : decode cX7_thrown 0 = .ok (.aload_n 0, 1) := by decide +kernel
theorem dX7_thrown_1 : decode cX7_thrown 1 = .ok (.getfield 38, 3) := by decide +kernel
theorem dX7_thrown_4 : decode cX7_thrown 4 = .ok (.ireturn, 1) := by decide +kernel
theorem dX7_fails_0 : decode cX7_fails 0 = .ok (.aload_n 0, 1) := by decide +kernel
theorem dX7_fails_1 : decode cX7_fails 1 = .ok (.iload_n 1, 1) := by decide +kernel
theorem dX7_fails_2 : decode cX7_fails 2 = .ok (.putfield 38, 3) := by decide +kernel
theorem dX7_fails_5 : decode cX7_fails 5 = .ok (.iconst 0, 1) := by decide +kernel
theorem dX7_fails_6 : decode cX7_fails 6 = .ok (.ireturn, 1) := by decide +kernel
theorem dX7_in_0 : decode cX7_in 0 = .ok (.iload_n 0, 1) := by decide +kernel
theorem dX7_in_1 : decode cX7_in 1 = .ok (.iload_n 1, 1) := by decide +kernel
theorem dX7_in_2 : decode cX7_in 2 = .ok (.if_icmp .lt 12, 3) := by decide +kernel
theorem dX7_in_5 : decode cX7_in 5 = .ok (.iload_n 0, 1) := by decide +kernel
theorem dX7_in_6 : decode cX7_in 6 = .ok (.iload_n 2, 1) := by decide +kernel
theorem dX7_in_7 : decode cX7_in 7 = .ok (.if_icmp .gt 7, 3) := by decide +kernel
theorem dX7_in_10 : decode cX7_in 10 = .ok (.iconst 1, 1) := by decide +kernel
theorem dX7_in_11 : decode cX7_in 11 = .ok (.goto 4, 3) := by decide +kernel
theorem dX7_in_14 : decode cX7_in 14 = .ok (.iconst 0, 1) := by decide +kernel
theorem dX7_in_15 : decode cX7_in 15 = .ok (.ireturn, 1) := by decide +kernel
theorem dX7_isTicket_0 : decode cX7_isTicket 0 = .ok (.iload_n 1, 1) := by decide +kernel
theorem dX7_isTicket_1 : decode cX7_isTicket 1 = .ok (.iconst 0, 1) := by decide +kernel
theorem dX7_isTicket_2 : decode cX7_isTicket 2 = .ok (.aload_n 0, 1) := by decide +kernel
theorem dX7_isTicket_3 : decode cX7_isTicket 3 = .ok (.getfield 7, 3) := by decide +kernel
theorem dX7_isTicket_6 : decode cX7_isTicket 6 = .ok (.iconst 0, 1) := by decide +kernel
theorem dX7_isTicket_7 : decode cX7_isTicket 7 = .ok (.iaload, 1) := by decide +kernel
theorem dX7_isTicket_8 : decode cX7_isTicket 8 = .ok (.iconst 1, 1) := by decide +kernel
theorem dX7_isTicket_9 : decode cX7_isTicket 9 = .ok (.isub, 1) := by decide +kernel
theorem dX7_isTicket_10 : decode cX7_isTicket 10 = .ok (.invokestatic 42, 3) := by decide +kernel
theorem dX7_isTicket_13 : decode cX7_isTicket 13 = .ok (.ireturn, 1) := by decide +kernel
theorem dX7_isOwner_0 : decode cX7_isOwner 0 = .ok (.iload_n 0, 1) := by decide +kernel
theorem dX7_isOwner_1 : decode cX7_isOwner 1 = .ok (.iconst 0, 1) := by decide +kernel
theorem dX7_isOwner_2 : decode cX7_isOwner 2 = .ok (.iconst 4, 1) := by decide +kernel
theorem dX7_isOwner_3 : decode cX7_isOwner 3 = .ok (.invokestatic 42, 3) := by decide +kernel
theorem dX7_isOwner_6 : decode cX7_isOwner 6 = .ok (.ireturn, 1) := by decide +kernel
theorem dX7_isMilestone_0 : decode cX7_isMilestone 0 = .ok (.iload_n 0, 1) := by decide +kernel
theorem dX7_isMilestone_1 : decode cX7_isMilestone 1 = .ok (.iconst 0, 1) := by decide +kernel
theorem dX7_isMilestone_2 : decode cX7_isMilestone 2 = .ok (.iconst 3, 1) := by decide +kernel
theorem dX7_isMilestone_3 : decode cX7_isMilestone 3 = .ok (.invokestatic 42, 3) := by decide +kernel
theorem dX7_isMilestone_6 : decode cX7_isMilestone 6 = .ok (.ireturn, 1) := by decide +kernel
theorem dX7_of_0 : decode cX7_of 0 = .ok (.aload_n 0, 1) := by decide +kernel
theorem dX7_of_1 : decode cX7_of 1 = .ok (.getfield 7, 3) := by decide +kernel
theorem dX7_of_4 : decode cX7_of 4 = .ok (.bipush 13, 2) := by decide +kernel
theorem dX7_of_6 : decode cX7_of 6 = .ok (.bipush 10, 2) := by decide +kernel
theorem dX7_of_8 : decode cX7_of 8 = .ok (.iload_n 1, 1) := by decide +kernel
theorem dX7_of_9 : decode cX7_of 9 = .ok (.imul, 1) := by decide +kernel
theorem dX7_of_10 : decode cX7_of 10 = .ok (.iadd, 1) := by decide +kernel
theorem dX7_of_11 : decode cX7_of 11 = .ok (.iload_n 2, 1) := by decide +kernel
theorem dX7_of_12 : decode cX7_of 12 = .ok (.iadd, 1) := by decide +kernel
theorem dX7_of_13 : decode cX7_of 13 = .ok (.iaload, 1) := by decide +kernel
theorem dX7_of_14 : decode cX7_of 14 = .ok (.ireturn, 1) := by decide +kernel
theorem dX7_lay_0 : decode cX7_lay 0 = .ok (.aload_n 0, 1) := by decide +kernel
theorem dX7_lay_1 : decode cX7_lay 1 = .ok (.getfield 7, 3) := by decide +kernel
theorem dX7_lay_4 : decode cX7_lay 4 = .ok (.bipush 13, 2) := by decide +kernel
theorem dX7_lay_6 : decode cX7_lay 6 = .ok (.bipush 10, 2) := by decide +kernel
theorem dX7_lay_8 : decode cX7_lay 8 = .ok (.iload_n 1, 1) := by decide +kernel
theorem dX7_lay_9 : decode cX7_lay 9 = .ok (.imul, 1) := by decide +kernel
theorem dX7_lay_10 : decode cX7_lay 10 = .ok (.iadd, 1) := by decide +kernel
theorem dX7_lay_11 : decode cX7_lay 11 = .ok (.iload_n 2, 1) := by decide +kernel
theorem dX7_lay_12 : decode cX7_lay 12 = .ok (.iadd, 1) := by decide +kernel
theorem dX7_lay_13 : decode cX7_lay 13 = .ok (.iload_n 3, 1) := by decide +kernel
theorem dX7_lay_14 : decode cX7_lay 14 = .ok (.iastore, 1) := by decide +kernel
theorem dX7_lay_15 : decode cX7_lay 15 = .ok (.return_, 1) := by decide +kernel
theorem dX7_records_0 : decode cX7_records 0 = .ok (.aload_n 0, 1) := by decide +kernel
theorem dX7_records_1 : decode cX7_records 1 = .ok (.getfield 46, 3) := by decide +kernel
theorem dX7_records_4 : decode cX7_records 4 = .ok (.bipush 6, 2) := by decide +kernel
theorem dX7_records_6 : decode cX7_records 6 = .ok (.if_icmp .ne 44, 3) := by decide +kernel
theorem dX7_records_9 : decode cX7_records 9 = .ok (.iconst 0, 1) := by decide +kernel
theorem dX7_records_10 : decode cX7_records 10 = .ok (.istore_n 1, 1) := by decide +kernel
theorem dX7_records_11 : decode cX7_records 11 = .ok (.iload_n 1, 1) := by decide +kernel
theorem dX7_records_12 : decode cX7_records 12 = .ok (.sipush 1065, 3) := by decide +kernel
theorem dX7_records_15 : decode cX7_records 15 = .ok (.if_icmp .ge 25, 3) := by decide +kernel
theorem dX7_records_18 : decode cX7_records 18 = .ok (.aload_n 0, 1) := by decide +kernel
theorem dX7_records_19 : decode cX7_records 19 = .ok (.getfield 16, 3) := by decide +kernel
theorem dX7_records_22 : decode cX7_records 22 = .ok (.iload_n 1, 1) := by decide +kernel
theorem dX7_records_23 : decode cX7_records 23 = .ok (.aload_n 0, 1) := by decide +kernel
theorem dX7_records_24 : decode cX7_records 24 = .ok (.getfield 16, 3) := by decide +kernel
theorem dX7_records_27 : decode cX7_records 27 = .ok (.iload_n 1, 1) := by decide +kernel
theorem dX7_records_28 : decode cX7_records 28 = .ok (.sipush 213, 3) := by decide +kernel
theorem dX7_records_31 : decode cX7_records 31 = .ok (.iadd, 1) := by decide +kernel
theorem dX7_records_32 : decode cX7_records 32 = .ok (.iaload, 1) := by decide +kernel
theorem dX7_records_33 : decode cX7_records 33 = .ok (.iastore, 1) := by decide +kernel
theorem dX7_records_34 : decode cX7_records 34 = .ok (.iinc 1 1, 3) := by decide +kernel
theorem dX7_records_37 : decode cX7_records 37 = .ok (.goto (-26), 3) := by decide +kernel
theorem dX7_records_40 : decode cX7_records 40 = .ok (.aload_n 0, 1) := by decide +kernel
theorem dX7_records_41 : decode cX7_records 41 = .ok (.dup, 1) := by decide +kernel
theorem dX7_records_42 : decode cX7_records 42 = .ok (.getfield 46, 3) := by decide +kernel
theorem dX7_records_45 : decode cX7_records 45 = .ok (.iconst 1, 1) := by decide +kernel
theorem dX7_records_46 : decode cX7_records 46 = .ok (.isub, 1) := by decide +kernel
theorem dX7_records_47 : decode cX7_records 47 = .ok (.putfield 46, 3) := by decide +kernel
theorem dX7_records_50 : decode cX7_records 50 = .ok (.iconst 0, 1) := by decide +kernel
theorem dX7_records_51 : decode cX7_records 51 = .ok (.istore_n 1, 1) := by decide +kernel
theorem dX7_records_52 : decode cX7_records 52 = .ok (.iload_n 1, 1) := by decide +kernel
theorem dX7_records_53 : decode cX7_records 53 = .ok (.sipush 213, 3) := by decide +kernel
theorem dX7_records_56 : decode cX7_records 56 = .ok (.if_icmp .ge 30, 3) := by decide +kernel
theorem dX7_records_59 : decode cX7_records 59 = .ok (.aload_n 0, 1) := by decide +kernel
theorem dX7_records_60 : decode cX7_records 60 = .ok (.getfield 16, 3) := by decide +kernel
theorem dX7_records_63 : decode cX7_records 63 = .ok (.sipush 213, 3) := by decide +kernel
theorem dX7_records_66 : decode cX7_records 66 = .ok (.aload_n 0, 1) := by decide +kernel
theorem dX7_records_67 : decode cX7_records 67 = .ok (.getfield 46, 3) := by decide +kernel
theorem dX7_records_70 : decode cX7_records 70 = .ok (.imul, 1) := by decide +kernel
theorem dX7_records_71 : decode cX7_records 71 = .ok (.iload_n 1, 1) := by decide +kernel
theorem dX7_records_72 : decode cX7_records 72 = .ok (.iadd, 1) := by decide +kernel
theorem dX7_records_73 : decode cX7_records 73 = .ok (.aload_n 0, 1) := by decide +kernel
theorem dX7_records_74 : decode cX7_records 74 = .ok (.getfield 7, 3) := by decide +kernel
theorem dX7_records_77 : decode cX7_records 77 = .ok (.iload_n 1, 1) := by decide +kernel
theorem dX7_records_78 : decode cX7_records 78 = .ok (.iaload, 1) := by decide +kernel
theorem dX7_records_79 : decode cX7_records 79 = .ok (.iastore, 1) := by decide +kernel
theorem dX7_records_80 : decode cX7_records 80 = .ok (.iinc 1 1, 3) := by decide +kernel
theorem dX7_records_83 : decode cX7_records 83 = .ok (.goto (-31), 3) := by decide +kernel
theorem dX7_records_86 : decode cX7_records 86 = .ok (.aload_n 0, 1) := by decide +kernel
theorem dX7_records_87 : decode cX7_records 87 = .ok (.dup, 1) := by decide +kernel
theorem dX7_records_88 : decode cX7_records 88 = .ok (.getfield 46, 3) := by decide +kernel
theorem dX7_records_91 : decode cX7_records 91 = .ok (.iconst 1, 1) := by decide +kernel
theorem dX7_records_92 : decode cX7_records 92 = .ok (.iadd, 1) := by decide +kernel
theorem dX7_records_93 : decode cX7_records 93 = .ok (.putfield 46, 3) := by decide +kernel
theorem dX7_records_96 : decode cX7_records 96 = .ok (.return_, 1) := by decide +kernel
theorem dX7_putAside_0 : decode cX7_putAside 0 = .ok (.iconst 0, 1) := by decide +kernel
theorem dX7_putAside_1 : decode cX7_putAside 1 = .ok (.istore_n 1, 1) := by decide +kernel
theorem dX7_putAside_2 : decode cX7_putAside 2 = .ok (.iload_n 1, 1) := by decide +kernel
theorem dX7_putAside_3 : decode cX7_putAside 3 = .ok (.sipush 213, 3) := by decide +kernel
theorem dX7_putAside_6 : decode cX7_putAside 6 = .ok (.if_icmp .ge 21, 3) := by decide +kernel
theorem dX7_putAside_9 : decode cX7_putAside 9 = .ok (.aload_n 0, 1) := by decide +kernel
theorem dX7_putAside_10 : decode cX7_putAside 10 = .ok (.getfield 13, 3) := by decide +kernel
theorem dX7_putAside_13 : decode cX7_putAside 13 = .ok (.iload_n 1, 1) := by decide +kernel
theorem dX7_putAside_14 : decode cX7_putAside 14 = .ok (.aload_n 0, 1) := by decide +kernel
theorem dX7_putAside_15 : decode cX7_putAside 15 = .ok (.getfield 7, 3) := by decide +kernel
theorem dX7_putAside_18 : decode cX7_putAside 18 = .ok (.iload_n 1, 1) := by decide +kernel
theorem dX7_putAside_19 : decode cX7_putAside 19 = .ok (.iaload, 1) := by decide +kernel
theorem dX7_putAside_20 : decode cX7_putAside 20 = .ok (.iastore, 1) := by decide +kernel
theorem dX7_putAside_21 : decode cX7_putAside 21 = .ok (.iinc 1 1, 3) := by decide +kernel
theorem dX7_putAside_24 : decode cX7_putAside 24 = .ok (.goto (-22), 3) := by decide +kernel
theorem dX7_putAside_27 : decode cX7_putAside 27 = .ok (.return_, 1) := by decide +kernel
theorem dX7_takeBack_0 : decode cX7_takeBack 0 = .ok (.iconst 0, 1) := by decide +kernel
theorem dX7_takeBack_1 : decode cX7_takeBack 1 = .ok (.istore_n 1, 1) := by decide +kernel
theorem dX7_takeBack_2 : decode cX7_takeBack 2 = .ok (.iload_n 1, 1) := by decide +kernel
theorem dX7_takeBack_3 : decode cX7_takeBack 3 = .ok (.sipush 213, 3) := by decide +kernel
theorem dX7_takeBack_6 : decode cX7_takeBack 6 = .ok (.if_icmp .ge 21, 3) := by decide +kernel
theorem dX7_takeBack_9 : decode cX7_takeBack 9 = .ok (.aload_n 0, 1) := by decide +kernel
theorem dX7_takeBack_10 : decode cX7_takeBack 10 = .ok (.getfield 7, 3) := by decide +kernel
theorem dX7_takeBack_13 : decode cX7_takeBack 13 = .ok (.iload_n 1, 1) := by decide +kernel
theorem dX7_takeBack_14 : decode cX7_takeBack 14 = .ok (.aload_n 0, 1) := by decide +kernel
theorem dX7_takeBack_15 : decode cX7_takeBack 15 = .ok (.getfield 13, 3) := by decide +kernel
theorem dX7_takeBack_18 : decode cX7_takeBack 18 = .ok (.iload_n 1, 1) := by decide +kernel
theorem dX7_takeBack_19 : decode cX7_takeBack 19 = .ok (.iaload, 1) := by decide +kernel
theorem dX7_takeBack_20 : decode cX7_takeBack 20 = .ok (.iastore, 1) := by decide +kernel
theorem dX7_takeBack_21 : decode cX7_takeBack 21 = .ok (.iinc 1 1, 3) := by decide +kernel
theorem dX7_takeBack_24 : decode cX7_takeBack 24 = .ok (.goto (-22), 3) := by decide +kernel
theorem dX7_takeBack_27 : decode cX7_takeBack 27 = .ok (.return_, 1) := by decide +kernel
theorem dX7_bits_0 : decode cX7_bits 0 = .ok (.iconst 0, 1) := by decide +kernel
theorem dX7_bits_1 : decode cX7_bits 1 = .ok (.istore_n 1, 1) := by decide +kernel
theorem dX7_bits_2 : decode cX7_bits 2 = .ok (.iconst 0, 1) := by decide +kernel
theorem dX7_bits_3 : decode cX7_bits 3 = .ok (.istore_n 2, 1) := by decide +kernel
theorem dX7_bits_4 : decode cX7_bits 4 = .ok (.iload_n 2, 1) := by decide +kernel
theorem dX7_bits_5 : decode cX7_bits 5 = .ok (.bipush 20, 2) := by decide +kernel
theorem dX7_bits_7 : decode cX7_bits 7 = .ok (.if_icmp .ge 17, 3) := by decide +kernel
theorem dX7_bits_10 : decode cX7_bits 10 = .ok (.iload_n 1, 1) := by decide +kernel
theorem dX7_bits_11 : decode cX7_bits 11 = .ok (.iload_n 0, 1) := by decide +kernel
theorem dX7_bits_12 : decode cX7_bits 12 = .ok (.iload_n 2, 1) := by decide +kernel
theorem dX7_bits_13 : decode cX7_bits 13 = .ok (.ishr, 1) := by decide +kernel
theorem dX7_bits_14 : decode cX7_bits 14 = .ok (.iconst 1, 1) := by decide +kernel
theorem dX7_bits_15 : decode cX7_bits 15 = .ok (.iand, 1) := by decide +kernel
theorem dX7_bits_16 : decode cX7_bits 16 = .ok (.iadd, 1) := by decide +kernel
theorem dX7_bits_17 : decode cX7_bits 17 = .ok (.istore_n 1, 1) := by decide +kernel
theorem dX7_bits_18 : decode cX7_bits 18 = .ok (.iinc 2 1, 3) := by decide +kernel
theorem dX7_bits_21 : decode cX7_bits 21 = .ok (.goto (-17), 3) := by decide +kernel
theorem dX7_bits_24 : decode cX7_bits 24 = .ok (.iload_n 1, 1) := by decide +kernel
theorem dX7_bits_25 : decode cX7_bits 25 = .ok (.ireturn, 1) := by decide +kernel
theorem dX7_isLeft_0 : decode cX7_isLeft 0 = .ok (.aload_n 0, 1) := by decide +kernel
theorem dX7_isLeft_1 : decode cX7_isLeft 1 = .ok (.iload_n 1, 1) := by decide +kernel
theorem dX7_isLeft_2 : decode cX7_isLeft 2 = .ok (.iconst 2, 1) := by decide +kernel
theorem dX7_isLeft_3 : decode cX7_isLeft 3 = .ok (.invokevirtual 49, 3) := by decide +kernel
theorem dX7_isLeft_6 : decode cX7_isLeft 6 = .ok (.iconst 3, 1) := by decide +kernel
theorem dX7_isLeft_7 : decode cX7_isLeft 7 = .ok (.if_icmp .ge 7, 3) := by decide +kernel
theorem dX7_isLeft_10 : decode cX7_isLeft 10 = .ok (.iconst 1, 1) := by decide +kernel
theorem dX7_isLeft_11 : decode cX7_isLeft 11 = .ok (.goto 4, 3) := by decide +kernel
theorem dX7_isLeft_14 : decode cX7_isLeft 14 = .ok (.iconst 0, 1) := by decide +kernel
theorem dX7_isLeft_15 : decode cX7_isLeft 15 = .ok (.ireturn, 1) := by decide +kernel
theorem dX7_left_0 : decode cX7_left 0 = .ok (.iconst 0, 1) := by decide +kernel
theorem dX7_left_1 : decode cX7_left 1 = .ok (.istore_n 1, 1) := by decide +kernel
theorem dX7_left_2 : decode cX7_left 2 = .ok (.iconst 0, 1) := by decide +kernel
theorem dX7_left_3 : decode cX7_left 3 = .ok (.istore_n 2, 1) := by decide +kernel
theorem dX7_left_4 : decode cX7_left 4 = .ok (.iload_n 2, 1) := by decide +kernel
theorem dX7_left_5 : decode cX7_left 5 = .ok (.aload_n 0, 1) := by decide +kernel
theorem dX7_left_6 : decode cX7_left 6 = .ok (.getfield 7, 3) := by decide +kernel
theorem dX7_left_9 : decode cX7_left 9 = .ok (.iconst 0, 1) := by decide +kernel
theorem dX7_left_10 : decode cX7_left 10 = .ok (.iaload, 1) := by decide +kernel
theorem dX7_left_11 : decode cX7_left 11 = .ok (.if_icmp .ge 27, 3) := by decide +kernel
theorem dX7_left_14 : decode cX7_left 14 = .ok (.iload_n 1, 1) := by decide +kernel
theorem dX7_left_15 : decode cX7_left 15 = .ok (.aload_n 0, 1) := by decide +kernel
theorem dX7_left_16 : decode cX7_left 16 = .ok (.iload_n 2, 1) := by decide +kernel
theorem dX7_left_17 : decode cX7_left 17 = .ok (.invokevirtual 53, 3) := by decide +kernel
theorem dX7_left_20 : decode cX7_left 20 = .ok (.ifCond .eq 9, 3) := by decide +kernel
theorem dX7_left_23 : decode cX7_left 23 = .ok (.iconst 1, 1) := by decide +kernel
theorem dX7_left_24 : decode cX7_left 24 = .ok (.iload_n 2, 1) := by decide +kernel
theorem dX7_left_25 : decode cX7_left 25 = .ok (.ishl, 1) := by decide +kernel
theorem dX7_left_26 : decode cX7_left 26 = .ok (.goto 4, 3) := by decide +kernel
theorem dX7_left_29 : decode cX7_left 29 = .ok (.iconst 0, 1) := by decide +kernel
theorem dX7_left_30 : decode cX7_left 30 = .ok (.ior, 1) := by decide +kernel
theorem dX7_left_31 : decode cX7_left 31 = .ok (.istore_n 1, 1) := by decide +kernel
theorem dX7_left_32 : decode cX7_left 32 = .ok (.iinc 2 1, 3) := by decide +kernel
theorem dX7_left_35 : decode cX7_left 35 = .ok (.goto (-31), 3) := by decide +kernel
theorem dX7_left_38 : decode cX7_left 38 = .ok (.iload_n 1, 1) := by decide +kernel
theorem dX7_left_39 : decode cX7_left 39 = .ok (.ireturn, 1) := by decide +kernel
theorem dX7_blockers_0 : decode cX7_blockers 0 = .ok (.aload_n 0, 1) := by decide +kernel
theorem dX7_blockers_1 : decode cX7_blockers 1 = .ok (.iload_n 1, 1) := by decide +kernel
theorem dX7_blockers_2 : decode cX7_blockers 2 = .ok (.bipush 9, 2) := by decide +kernel
theorem dX7_blockers_4 : decode cX7_blockers 4 = .ok (.invokevirtual 49, 3) := by decide +kernel
theorem dX7_blockers_7 : decode cX7_blockers 7 = .ok (.aload_n 0, 1) := by decide +kernel
theorem dX7_blockers_8 : decode cX7_blockers 8 = .ok (.invokevirtual 57, 3) := by decide +kernel
theorem dX7_blockers_11 : decode cX7_blockers 11 = .ok (.iand, 1) := by decide +kernel
theorem dX7_blockers_12 : decode cX7_blockers 12 = .ok (.ireturn, 1) := by decide +kernel
theorem dX7_blocked_0 : decode cX7_blocked 0 = .ok (.iconst 0, 1) := by decide +kernel
theorem dX7_blocked_1 : decode cX7_blocked 1 = .ok (.istore_n 1, 1) := by decide +kernel
theorem dX7_blocked_2 : decode cX7_blocked 2 = .ok (.iconst 0, 1) := by decide +kernel
theorem dX7_blocked_3 : decode cX7_blocked 3 = .ok (.istore_n 2, 1) := by decide +kernel
theorem dX7_blocked_4 : decode cX7_blocked 4 = .ok (.iload_n 2, 1) := by decide +kernel
theorem dX7_blocked_5 : decode cX7_blocked 5 = .ok (.aload_n 0, 1) := by decide +kernel
theorem dX7_blocked_6 : decode cX7_blocked 6 = .ok (.getfield 7, 3) := by decide +kernel
theorem dX7_blocked_9 : decode cX7_blocked 9 = .ok (.iconst 0, 1) := by decide +kernel
theorem dX7_blocked_10 : decode cX7_blocked 10 = .ok (.iaload, 1) := by decide +kernel
theorem dX7_blocked_11 : decode cX7_blocked 11 = .ok (.if_icmp .ge 27, 3) := by decide +kernel
theorem dX7_blocked_14 : decode cX7_blocked 14 = .ok (.iload_n 1, 1) := by decide +kernel
theorem dX7_blocked_15 : decode cX7_blocked 15 = .ok (.aload_n 0, 1) := by decide +kernel
theorem dX7_blocked_16 : decode cX7_blocked 16 = .ok (.iload_n 2, 1) := by decide +kernel
theorem dX7_blocked_17 : decode cX7_blocked 17 = .ok (.invokevirtual 61, 3) := by decide +kernel
theorem dX7_blocked_20 : decode cX7_blocked 20 = .ok (.ifCond .eq 9, 3) := by decide +kernel
theorem dX7_blocked_23 : decode cX7_blocked 23 = .ok (.iconst 1, 1) := by decide +kernel
theorem dX7_blocked_24 : decode cX7_blocked 24 = .ok (.iload_n 2, 1) := by decide +kernel
theorem dX7_blocked_25 : decode cX7_blocked 25 = .ok (.ishl, 1) := by decide +kernel
theorem dX7_blocked_26 : decode cX7_blocked 26 = .ok (.goto 4, 3) := by decide +kernel
theorem dX7_blocked_29 : decode cX7_blocked 29 = .ok (.iconst 0, 1) := by decide +kernel
theorem dX7_blocked_30 : decode cX7_blocked 30 = .ok (.ior, 1) := by decide +kernel
theorem dX7_blocked_31 : decode cX7_blocked 31 = .ok (.istore_n 1, 1) := by decide +kernel
theorem dX7_blocked_32 : decode cX7_blocked 32 = .ok (.iinc 2 1, 3) := by decide +kernel
theorem dX7_blocked_35 : decode cX7_blocked 35 = .ok (.goto (-31), 3) := by decide +kernel
theorem dX7_blocked_38 : decode cX7_blocked 38 = .ok (.iload_n 1, 1) := by decide +kernel
theorem dX7_blocked_39 : decode cX7_blocked 39 = .ok (.ireturn, 1) := by decide +kernel
theorem dX7_allNeeds_0 : decode cX7_allNeeds 0 = .ok (.aload_n 0, 1) := by decide +kernel
theorem dX7_allNeeds_1 : decode cX7_allNeeds 1 = .ok (.iload_n 1, 1) := by decide +kernel
theorem dX7_allNeeds_2 : decode cX7_allNeeds 2 = .ok (.bipush 9, 2) := by decide +kernel
theorem dX7_allNeeds_4 : decode cX7_allNeeds 4 = .ok (.invokevirtual 49, 3) := by decide +kernel
theorem dX7_allNeeds_7 : decode cX7_allNeeds 7 = .ok (.istore_n 2, 1) := by decide +kernel
theorem dX7_allNeeds_8 : decode cX7_allNeeds 8 = .ok (.iconst (-1), 1) := by decide +kernel
theorem dX7_allNeeds_9 : decode cX7_allNeeds 9 = .ok (.istore_n 3, 1) := by decide +kernel
theorem dX7_allNeeds_10 : decode cX7_allNeeds 10 = .ok (.iload_n 2, 1) := by decide +kernel
theorem dX7_allNeeds_11 : decode cX7_allNeeds 11 = .ok (.iload_n 3, 1) := by decide +kernel
theorem dX7_allNeeds_12 : decode cX7_allNeeds 12 = .ok (.if_icmp .eq 53, 3) := by decide +kernel
theorem dX7_allNeeds_15 : decode cX7_allNeeds 15 = .ok (.iload_n 2, 1) := by decide +kernel
theorem dX7_allNeeds_16 : decode cX7_allNeeds 16 = .ok (.istore_n 3, 1) := by decide +kernel
theorem dX7_allNeeds_17 : decode cX7_allNeeds 17 = .ok (.iconst 0, 1) := by decide +kernel
theorem dX7_allNeeds_18 : decode cX7_allNeeds 18 = .ok (.istore 4, 2) := by decide +kernel
theorem dX7_allNeeds_20 : decode cX7_allNeeds 20 = .ok (.iload 4, 2) := by decide +kernel
theorem dX7_allNeeds_22 : decode cX7_allNeeds 22 = .ok (.aload_n 0, 1) := by decide +kernel
theorem dX7_allNeeds_23 : decode cX7_allNeeds 23 = .ok (.getfield 7, 3) := by decide +kernel
theorem dX7_allNeeds_26 : decode cX7_allNeeds 26 = .ok (.iconst 0, 1) := by decide +kernel
theorem dX7_allNeeds_27 : decode cX7_allNeeds 27 = .ok (.iaload, 1) := by decide +kernel
theorem dX7_allNeeds_28 : decode cX7_allNeeds 28 = .ok (.if_icmp .ge 34, 3) := by decide +kernel
theorem dX7_allNeeds_31 : decode cX7_allNeeds 31 = .ok (.iload_n 2, 1) := by decide +kernel
theorem dX7_allNeeds_32 : decode cX7_allNeeds 32 = .ok (.iload_n 2, 1) := by decide +kernel
theorem dX7_allNeeds_33 : decode cX7_allNeeds 33 = .ok (.iload 4, 2) := by decide +kernel
theorem dX7_allNeeds_35 : decode cX7_allNeeds 35 = .ok (.ishr, 1) := by decide +kernel
theorem dX7_allNeeds_36 : decode cX7_allNeeds 36 = .ok (.iconst 1, 1) := by decide +kernel
theorem dX7_allNeeds_37 : decode cX7_allNeeds 37 = .ok (.iand, 1) := by decide +kernel
theorem dX7_allNeeds_38 : decode cX7_allNeeds 38 = .ok (.iconst 1, 1) := by decide +kernel
theorem dX7_allNeeds_39 : decode cX7_allNeeds 39 = .ok (.if_icmp .ne 14, 3) := by decide +kernel
theorem dX7_allNeeds_42 : decode cX7_allNeeds 42 = .ok (.aload_n 0, 1) := by decide +kernel
theorem dX7_allNeeds_43 : decode cX7_allNeeds 43 = .ok (.iload 4, 2) := by decide +kernel
theorem dX7_allNeeds_45 : decode cX7_allNeeds 45 = .ok (.bipush 9, 2) := by decide +kernel
theorem dX7_allNeeds_47 : decode cX7_allNeeds 47 = .ok (.invokevirtual 49, 3) := by decide +kernel
theorem dX7_allNeeds_50 : decode cX7_allNeeds 50 = .ok (.goto 4, 3) := by decide +kernel
theorem dX7_allNeeds_53 : decode cX7_allNeeds 53 = .ok (.iconst 0, 1) := by decide +kernel
theorem dX7_allNeeds_54 : decode cX7_allNeeds 54 = .ok (.ior, 1) := by decide +kernel
theorem dX7_allNeeds_55 : decode cX7_allNeeds 55 = .ok (.istore_n 2, 1) := by decide +kernel
theorem dX7_allNeeds_56 : decode cX7_allNeeds 56 = .ok (.iinc 4 1, 3) := by decide +kernel
theorem dX7_allNeeds_59 : decode cX7_allNeeds 59 = .ok (.goto (-39), 3) := by decide +kernel
theorem dX7_allNeeds_62 : decode cX7_allNeeds 62 = .ok (.goto (-52), 3) := by decide +kernel
theorem dX7_allNeeds_65 : decode cX7_allNeeds 65 = .ok (.iload_n 2, 1) := by decide +kernel
theorem dX7_allNeeds_66 : decode cX7_allNeeds 66 = .ok (.ireturn, 1) := by decide +kernel
theorem dX7_tellsChains_0 : decode cX7_tellsChains 0 = .ok (.iconst 0, 1) := by decide +kernel
theorem dX7_tellsChains_1 : decode cX7_tellsChains 1 = .ok (.istore_n 2, 1) := by decide +kernel
theorem dX7_tellsChains_2 : decode cX7_tellsChains 2 = .ok (.iconst 1, 1) := by decide +kernel
theorem dX7_tellsChains_3 : decode cX7_tellsChains 3 = .ok (.aload_n 0, 1) := by decide +kernel
theorem dX7_tellsChains_4 : decode cX7_tellsChains 4 = .ok (.getfield 7, 3) := by decide +kernel
theorem dX7_tellsChains_7 : decode cX7_tellsChains 7 = .ok (.iconst 0, 1) := by decide +kernel
theorem dX7_tellsChains_8 : decode cX7_tellsChains 8 = .ok (.iaload, 1) := by decide +kernel
theorem dX7_tellsChains_9 : decode cX7_tellsChains 9 = .ok (.ishl, 1) := by decide +kernel
theorem dX7_tellsChains_10 : decode cX7_tellsChains 10 = .ok (.iconst 1, 1) := by decide +kernel
theorem dX7_tellsChains_11 : decode cX7_tellsChains 11 = .ok (.isub, 1) := by decide +kernel
theorem dX7_tellsChains_12 : decode cX7_tellsChains 12 = .ok (.istore_n 3, 1) := by decide +kernel
theorem dX7_tellsChains_13 : decode cX7_tellsChains 13 = .ok (.iload_n 2, 1) := by decide +kernel
theorem dX7_tellsChains_14 : decode cX7_tellsChains 14 = .ok (.iload_n 3, 1) := by decide +kernel
theorem dX7_tellsChains_15 : decode cX7_tellsChains 15 = .ok (.if_icmp .eq 165, 3) := by decide +kernel
theorem dX7_tellsChains_18 : decode cX7_tellsChains 18 = .ok (.iconst 0, 1) := by decide +kernel
theorem dX7_tellsChains_19 : decode cX7_tellsChains 19 = .ok (.istore 4, 2) := by decide +kernel
theorem dX7_tellsChains_21 : decode cX7_tellsChains 21 = .ok (.iload 4, 2) := by decide +kernel
theorem dX7_tellsChains_23 : decode cX7_tellsChains 23 = .ok (.aload_n 0, 1) := by decide +kernel
theorem dX7_tellsChains_24 : decode cX7_tellsChains 24 = .ok (.getfield 7, 3) := by decide +kernel
theorem dX7_tellsChains_27 : decode cX7_tellsChains 27 = .ok (.iconst 0, 1) := by decide +kernel
theorem dX7_tellsChains_28 : decode cX7_tellsChains 28 = .ok (.iaload, 1) := by decide +kernel
theorem dX7_tellsChains_29 : decode cX7_tellsChains 29 = .ok (.if_icmp .ge 148, 3) := by decide +kernel
theorem dX7_tellsChains_32 : decode cX7_tellsChains 32 = .ok (.iload_n 2, 1) := by decide +kernel
theorem dX7_tellsChains_33 : decode cX7_tellsChains 33 = .ok (.iload 4, 2) := by decide +kernel
theorem dX7_tellsChains_35 : decode cX7_tellsChains 35 = .ok (.ishr, 1) := by decide +kernel
theorem dX7_tellsChains_36 : decode cX7_tellsChains 36 = .ok (.iconst 1, 1) := by decide +kernel
theorem dX7_tellsChains_37 : decode cX7_tellsChains 37 = .ok (.iand, 1) := by decide +kernel
theorem dX7_tellsChains_38 : decode cX7_tellsChains 38 = .ok (.ifCond .ne 133, 3) := by decide +kernel
theorem dX7_tellsChains_41 : decode cX7_tellsChains 41 = .ok (.aload_n 0, 1) := by decide +kernel
theorem dX7_tellsChains_42 : decode cX7_tellsChains 42 = .ok (.iload 4, 2) := by decide +kernel
theorem dX7_tellsChains_44 : decode cX7_tellsChains 44 = .ok (.bipush 9, 2) := by decide +kernel
theorem dX7_tellsChains_46 : decode cX7_tellsChains 46 = .ok (.invokevirtual 49, 3) := by decide +kernel
theorem dX7_tellsChains_49 : decode cX7_tellsChains 49 = .ok (.iload_n 2, 1) := by decide +kernel
theorem dX7_tellsChains_50 : decode cX7_tellsChains 50 = .ok (.iconst (-1), 1) := by decide +kernel
theorem dX7_tellsChains_51 : decode cX7_tellsChains 51 = .ok (.ixor, 1) := by decide +kernel
theorem dX7_tellsChains_52 : decode cX7_tellsChains 52 = .ok (.iand, 1) := by decide +kernel
theorem dX7_tellsChains_53 : decode cX7_tellsChains 53 = .ok (.ifCond .ne 118, 3) := by decide +kernel
theorem dX7_tellsChains_56 : decode cX7_tellsChains 56 = .ok (.iconst 0, 1) := by decide +kernel
theorem dX7_tellsChains_57 : decode cX7_tellsChains 57 = .ok (.istore 5, 2) := by decide +kernel
theorem dX7_tellsChains_59 : decode cX7_tellsChains 59 = .ok (.iconst 0, 1) := by decide +kernel
theorem dX7_tellsChains_60 : decode cX7_tellsChains 60 = .ok (.istore 6, 2) := by decide +kernel
theorem dX7_tellsChains_62 : decode cX7_tellsChains 62 = .ok (.iload 6, 2) := by decide +kernel
theorem dX7_tellsChains_64 : decode cX7_tellsChains 64 = .ok (.aload_n 0, 1) := by decide +kernel
theorem dX7_tellsChains_65 : decode cX7_tellsChains 65 = .ok (.getfield 7, 3) := by decide +kernel
theorem dX7_tellsChains_68 : decode cX7_tellsChains 68 = .ok (.iconst 0, 1) := by decide +kernel
theorem dX7_tellsChains_69 : decode cX7_tellsChains 69 = .ok (.iaload, 1) := by decide +kernel
theorem dX7_tellsChains_70 : decode cX7_tellsChains 70 = .ok (.if_icmp .ge 52, 3) := by decide +kernel
theorem dX7_tellsChains_73 : decode cX7_tellsChains 73 = .ok (.aload_n 0, 1) := by decide +kernel
theorem dX7_tellsChains_74 : decode cX7_tellsChains 74 = .ok (.iload 4, 2) := by decide +kernel
theorem dX7_tellsChains_76 : decode cX7_tellsChains 76 = .ok (.bipush 9, 2) := by decide +kernel
theorem dX7_tellsChains_78 : decode cX7_tellsChains 78 = .ok (.invokevirtual 49, 3) := by decide +kernel
theorem dX7_tellsChains_81 : decode cX7_tellsChains 81 = .ok (.iload 6, 2) := by decide +kernel
theorem dX7_tellsChains_83 : decode cX7_tellsChains 83 = .ok (.ishr, 1) := by decide +kernel
theorem dX7_tellsChains_84 : decode cX7_tellsChains 84 = .ok (.iconst 1, 1) := by decide +kernel
theorem dX7_tellsChains_85 : decode cX7_tellsChains 85 = .ok (.iand, 1) := by decide +kernel
theorem dX7_tellsChains_86 : decode cX7_tellsChains 86 = .ok (.iconst 1, 1) := by decide +kernel
theorem dX7_tellsChains_87 : decode cX7_tellsChains 87 = .ok (.if_icmp .ne 25, 3) := by decide +kernel
theorem dX7_tellsChains_90 : decode cX7_tellsChains 90 = .ok (.aload_n 0, 1) := by decide +kernel
theorem dX7_tellsChains_91 : decode cX7_tellsChains 91 = .ok (.getfield 35, 3) := by decide +kernel
theorem dX7_tellsChains_94 : decode cX7_tellsChains 94 = .ok (.iload 6, 2) := by decide +kernel
theorem dX7_tellsChains_96 : decode cX7_tellsChains 96 = .ok (.iaload, 1) := by decide +kernel
theorem dX7_tellsChains_97 : decode cX7_tellsChains 97 = .ok (.iload 5, 2) := by decide +kernel
theorem dX7_tellsChains_99 : decode cX7_tellsChains 99 = .ok (.if_icmp .le 13, 3) := by decide +kernel
theorem dX7_tellsChains_102 : decode cX7_tellsChains 102 = .ok (.aload_n 0, 1) := by decide +kernel
theorem dX7_tellsChains_103 : decode cX7_tellsChains 103 = .ok (.getfield 35, 3) := by decide +kernel
theorem dX7_tellsChains_106 : decode cX7_tellsChains 106 = .ok (.iload 6, 2) := by decide +kernel
theorem dX7_tellsChains_108 : decode cX7_tellsChains 108 = .ok (.iaload, 1) := by decide +kernel
theorem dX7_tellsChains_109 : decode cX7_tellsChains 109 = .ok (.goto 5, 3) := by decide +kernel
theorem dX7_tellsChains_112 : decode cX7_tellsChains 112 = .ok (.iload 5, 2) := by decide +kernel
theorem dX7_tellsChains_114 : decode cX7_tellsChains 114 = .ok (.istore 5, 2) := by decide +kernel
theorem dX7_tellsChains_116 : decode cX7_tellsChains 116 = .ok (.iinc 6 1, 3) := by decide +kernel
theorem dX7_tellsChains_119 : decode cX7_tellsChains 119 = .ok (.goto (-57), 3) := by decide +kernel
theorem dX7_tellsChains_122 : decode cX7_tellsChains 122 = .ok (.iload_n 1, 1) := by decide +kernel
theorem dX7_tellsChains_123 : decode cX7_tellsChains 123 = .ok (.ifCond .eq 26, 3) := by decide +kernel
theorem dX7_tellsChains_126 : decode cX7_tellsChains 126 = .ok (.aload_n 0, 1) := by decide +kernel
theorem dX7_tellsChains_127 : decode cX7_tellsChains 127 = .ok (.iload 4, 2) := by decide +kernel
theorem dX7_tellsChains_129 : decode cX7_tellsChains 129 = .ok (.invokevirtual 53, 3) := by decide +kernel
theorem dX7_tellsChains_132 : decode cX7_tellsChains 132 = .ok (.ifCond .eq 13, 3) := by decide +kernel
theorem dX7_tellsChains_135 : decode cX7_tellsChains 135 = .ok (.aload_n 0, 1) := by decide +kernel
theorem dX7_tellsChains_136 : decode cX7_tellsChains 136 = .ok (.iload 4, 2) := by decide +kernel
theorem dX7_tellsChains_138 : decode cX7_tellsChains 138 = .ok (.iconst 0, 1) := by decide +kernel
theorem dX7_tellsChains_139 : decode cX7_tellsChains 139 = .ok (.invokevirtual 49, 3) := by decide +kernel
theorem dX7_tellsChains_142 : decode cX7_tellsChains 142 = .ok (.goto 8, 3) := by decide +kernel
theorem dX7_tellsChains_145 : decode cX7_tellsChains 145 = .ok (.iconst 0, 1) := by decide +kernel
theorem dX7_tellsChains_146 : decode cX7_tellsChains 146 = .ok (.goto 4, 3) := by decide +kernel
theorem dX7_tellsChains_149 : decode cX7_tellsChains 149 = .ok (.iconst 1, 1) := by decide +kernel
theorem dX7_tellsChains_150 : decode cX7_tellsChains 150 = .ok (.istore 6, 2) := by decide +kernel
theorem dX7_tellsChains_152 : decode cX7_tellsChains 152 = .ok (.aload_n 0, 1) := by decide +kernel
theorem dX7_tellsChains_153 : decode cX7_tellsChains 153 = .ok (.getfield 35, 3) := by decide +kernel
theorem dX7_tellsChains_156 : decode cX7_tellsChains 156 = .ok (.iload 4, 2) := by decide +kernel
theorem dX7_tellsChains_158 : decode cX7_tellsChains 158 = .ok (.iload 6, 2) := by decide +kernel
theorem dX7_tellsChains_160 : decode cX7_tellsChains 160 = .ok (.iload 5, 2) := by decide +kernel
theorem dX7_tellsChains_162 : decode cX7_tellsChains 162 = .ok (.iadd, 1) := by decide +kernel
theorem dX7_tellsChains_163 : decode cX7_tellsChains 163 = .ok (.iastore, 1) := by decide +kernel
theorem dX7_tellsChains_164 : decode cX7_tellsChains 164 = .ok (.iload_n 2, 1) := by decide +kernel
theorem dX7_tellsChains_165 : decode cX7_tellsChains 165 = .ok (.iconst 1, 1) := by decide +kernel
theorem dX7_tellsChains_166 : decode cX7_tellsChains 166 = .ok (.iload 4, 2) := by decide +kernel
theorem dX7_tellsChains_168 : decode cX7_tellsChains 168 = .ok (.ishl, 1) := by decide +kernel
theorem dX7_tellsChains_169 : decode cX7_tellsChains 169 = .ok (.ior, 1) := by decide +kernel
theorem dX7_tellsChains_170 : decode cX7_tellsChains 170 = .ok (.istore_n 2, 1) := by decide +kernel
theorem dX7_tellsChains_171 : decode cX7_tellsChains 171 = .ok (.iinc 4 1, 3) := by decide +kernel
theorem dX7_tellsChains_174 : decode cX7_tellsChains 174 = .ok (.goto (-153), 3) := by decide +kernel
theorem dX7_tellsChains_177 : decode cX7_tellsChains 177 = .ok (.goto (-164), 3) := by decide +kernel
theorem dX7_tellsChains_180 : decode cX7_tellsChains 180 = .ok (.return_, 1) := by decide +kernel
theorem dX7_chainFrom_0 : decode cX7_chainFrom 0 = .ok (.aload_n 0, 1) := by decide +kernel
theorem dX7_chainFrom_1 : decode cX7_chainFrom 1 = .ok (.iconst 0, 1) := by decide +kernel
theorem dX7_chainFrom_2 : decode cX7_chainFrom 2 = .ok (.invokevirtual 65, 3) := by decide +kernel
theorem dX7_chainFrom_5 : decode cX7_chainFrom 5 = .ok (.aload_n 0, 1) := by decide +kernel
theorem dX7_chainFrom_6 : decode cX7_chainFrom 6 = .ok (.getfield 35, 3) := by decide +kernel
theorem dX7_chainFrom_9 : decode cX7_chainFrom 9 = .ok (.iload_n 1, 1) := by decide +kernel
theorem dX7_chainFrom_10 : decode cX7_chainFrom 10 = .ok (.iaload, 1) := by decide +kernel
theorem dX7_chainFrom_11 : decode cX7_chainFrom 11 = .ok (.ireturn, 1) := by decide +kernel
theorem dX7_critical_0 : decode cX7_critical 0 = .ok (.aload_n 0, 1) := by decide +kernel
theorem dX7_critical_1 : decode cX7_critical 1 = .ok (.iconst 1, 1) := by decide +kernel
theorem dX7_critical_2 : decode cX7_critical 2 = .ok (.invokevirtual 65, 3) := by decide +kernel
theorem dX7_critical_5 : decode cX7_critical 5 = .ok (.iconst 0, 1) := by decide +kernel
theorem dX7_critical_6 : decode cX7_critical 6 = .ok (.istore_n 1, 1) := by decide +kernel
theorem dX7_critical_7 : decode cX7_critical 7 = .ok (.iconst 0, 1) := by decide +kernel
theorem dX7_critical_8 : decode cX7_critical 8 = .ok (.istore_n 2, 1) := by decide +kernel
theorem dX7_critical_9 : decode cX7_critical 9 = .ok (.iload_n 2, 1) := by decide +kernel
theorem dX7_critical_10 : decode cX7_critical 10 = .ok (.aload_n 0, 1) := by decide +kernel
theorem dX7_critical_11 : decode cX7_critical 11 = .ok (.getfield 7, 3) := by decide +kernel
theorem dX7_critical_14 : decode cX7_critical 14 = .ok (.iconst 0, 1) := by decide +kernel
theorem dX7_critical_15 : decode cX7_critical 15 = .ok (.iaload, 1) := by decide +kernel
theorem dX7_critical_16 : decode cX7_critical 16 = .ok (.if_icmp .ge 30, 3) := by decide +kernel
theorem dX7_critical_19 : decode cX7_critical 19 = .ok (.aload_n 0, 1) := by decide +kernel
theorem dX7_critical_20 : decode cX7_critical 20 = .ok (.getfield 35, 3) := by decide +kernel
theorem dX7_critical_23 : decode cX7_critical 23 = .ok (.iload_n 2, 1) := by decide +kernel
theorem dX7_critical_24 : decode cX7_critical 24 = .ok (.iaload, 1) := by decide +kernel
theorem dX7_critical_25 : decode cX7_critical 25 = .ok (.iload_n 1, 1) := by decide +kernel
theorem dX7_critical_26 : decode cX7_critical 26 = .ok (.if_icmp .le 12, 3) := by decide +kernel
theorem dX7_critical_29 : decode cX7_critical 29 = .ok (.aload_n 0, 1) := by decide +kernel
theorem dX7_critical_30 : decode cX7_critical 30 = .ok (.getfield 35, 3) := by decide +kernel
theorem dX7_critical_33 : decode cX7_critical 33 = .ok (.iload_n 2, 1) := by decide +kernel
theorem dX7_critical_34 : decode cX7_critical 34 = .ok (.iaload, 1) := by decide +kernel
theorem dX7_critical_35 : decode cX7_critical 35 = .ok (.goto 4, 3) := by decide +kernel
theorem dX7_critical_38 : decode cX7_critical 38 = .ok (.iload_n 1, 1) := by decide +kernel
theorem dX7_critical_39 : decode cX7_critical 39 = .ok (.istore_n 1, 1) := by decide +kernel
theorem dX7_critical_40 : decode cX7_critical 40 = .ok (.iinc 2 1, 3) := by decide +kernel
theorem dX7_critical_43 : decode cX7_critical 43 = .ok (.goto (-34), 3) := by decide +kernel
theorem dX7_critical_46 : decode cX7_critical 46 = .ok (.iload_n 1, 1) := by decide +kernel
theorem dX7_critical_47 : decode cX7_critical 47 = .ok (.ireturn, 1) := by decide +kernel
theorem dX7_load_0 : decode cX7_load 0 = .ok (.iconst 0, 1) := by decide +kernel
theorem dX7_load_1 : decode cX7_load 1 = .ok (.istore_n 2, 1) := by decide +kernel
theorem dX7_load_2 : decode cX7_load 2 = .ok (.iconst 0, 1) := by decide +kernel
theorem dX7_load_3 : decode cX7_load 3 = .ok (.istore_n 3, 1) := by decide +kernel
theorem dX7_load_4 : decode cX7_load 4 = .ok (.iload_n 3, 1) := by decide +kernel
theorem dX7_load_5 : decode cX7_load 5 = .ok (.aload_n 0, 1) := by decide +kernel
theorem dX7_load_6 : decode cX7_load 6 = .ok (.getfield 7, 3) := by decide +kernel
theorem dX7_load_9 : decode cX7_load 9 = .ok (.iconst 0, 1) := by decide +kernel
theorem dX7_load_10 : decode cX7_load 10 = .ok (.iaload, 1) := by decide +kernel
theorem dX7_load_11 : decode cX7_load 11 = .ok (.if_icmp .ge 42, 3) := by decide +kernel
theorem dX7_load_14 : decode cX7_load 14 = .ok (.iload_n 2, 1) := by decide +kernel
theorem dX7_load_15 : decode cX7_load 15 = .ok (.aload_n 0, 1) := by decide +kernel
theorem dX7_load_16 : decode cX7_load 16 = .ok (.iload_n 3, 1) := by decide +kernel
theorem dX7_load_17 : decode cX7_load 17 = .ok (.iconst 3, 1) := by decide +kernel
theorem dX7_load_18 : decode cX7_load 18 = .ok (.invokevirtual 49, 3) := by decide +kernel
theorem dX7_load_21 : decode cX7_load 21 = .ok (.iload_n 1, 1) := by decide +kernel
theorem dX7_load_22 : decode cX7_load 22 = .ok (.iconst 1, 1) := by decide +kernel
theorem dX7_load_23 : decode cX7_load 23 = .ok (.iadd, 1) := by decide +kernel
theorem dX7_load_24 : decode cX7_load 24 = .ok (.if_icmp .ne 20, 3) := by decide +kernel
theorem dX7_load_27 : decode cX7_load 27 = .ok (.aload_n 0, 1) := by decide +kernel
theorem dX7_load_28 : decode cX7_load 28 = .ok (.iload_n 3, 1) := by decide +kernel
theorem dX7_load_29 : decode cX7_load 29 = .ok (.invokevirtual 53, 3) := by decide +kernel
theorem dX7_load_32 : decode cX7_load 32 = .ok (.ifCond .eq 12, 3) := by decide +kernel
theorem dX7_load_35 : decode cX7_load 35 = .ok (.aload_n 0, 1) := by decide +kernel
theorem dX7_load_36 : decode cX7_load 36 = .ok (.iload_n 3, 1) := by decide +kernel
theorem dX7_load_37 : decode cX7_load 37 = .ok (.iconst 0, 1) := by decide +kernel
theorem dX7_load_38 : decode cX7_load 38 = .ok (.invokevirtual 49, 3) := by decide +kernel
theorem dX7_load_41 : decode cX7_load 41 = .ok (.goto 4, 3) := by decide +kernel
theorem dX7_load_44 : decode cX7_load 44 = .ok (.iconst 0, 1) := by decide +kernel
theorem dX7_load_45 : decode cX7_load 45 = .ok (.iadd, 1) := by decide +kernel
theorem dX7_load_46 : decode cX7_load 46 = .ok (.istore_n 2, 1) := by decide +kernel
theorem dX7_load_47 : decode cX7_load 47 = .ok (.iinc 3 1, 3) := by decide +kernel
theorem dX7_load_50 : decode cX7_load 50 = .ok (.goto (-46), 3) := by decide +kernel
theorem dX7_load_53 : decode cX7_load 53 = .ok (.iload_n 2, 1) := by decide +kernel
theorem dX7_load_54 : decode cX7_load 54 = .ok (.ireturn, 1) := by decide +kernel
theorem dX7_canTake_0 : decode cX7_canTake 0 = .ok (.iload_n 1, 1) := by decide +kernel
theorem dX7_canTake_1 : decode cX7_canTake 1 = .ok (.ifCond .eq 25, 3) := by decide +kernel
theorem dX7_canTake_4 : decode cX7_canTake 4 = .ok (.aload_n 0, 1) := by decide +kernel
theorem dX7_canTake_5 : decode cX7_canTake 5 = .ok (.iload_n 1, 1) := by decide +kernel
theorem dX7_canTake_6 : decode cX7_canTake 6 = .ok (.iconst 1, 1) := by decide +kernel
theorem dX7_canTake_7 : decode cX7_canTake 7 = .ok (.isub, 1) := by decide +kernel
theorem dX7_canTake_8 : decode cX7_canTake 8 = .ok (.invokevirtual 69, 3) := by decide +kernel
theorem dX7_canTake_11 : decode cX7_canTake 11 = .ok (.iload_n 2, 1) := by decide +kernel
theorem dX7_canTake_12 : decode cX7_canTake 12 = .ok (.iadd, 1) := by decide +kernel
theorem dX7_canTake_13 : decode cX7_canTake 13 = .ok (.aload_n 0, 1) := by decide +kernel
theorem dX7_canTake_14 : decode cX7_canTake 14 = .ok (.getfield 7, 3) := by decide +kernel
theorem dX7_canTake_17 : decode cX7_canTake 17 = .ok (.iconst 4, 1) := by decide +kernel
theorem dX7_canTake_18 : decode cX7_canTake 18 = .ok (.iload_n 1, 1) := by decide +kernel
theorem dX7_canTake_19 : decode cX7_canTake 19 = .ok (.iadd, 1) := by decide +kernel
theorem dX7_canTake_20 : decode cX7_canTake 20 = .ok (.iconst 1, 1) := by decide +kernel
theorem dX7_canTake_21 : decode cX7_canTake 21 = .ok (.isub, 1) := by decide +kernel
theorem dX7_canTake_22 : decode cX7_canTake 22 = .ok (.iaload, 1) := by decide +kernel
theorem dX7_canTake_23 : decode cX7_canTake 23 = .ok (.if_icmp .gt 7, 3) := by decide +kernel
theorem dX7_canTake_26 : decode cX7_canTake 26 = .ok (.iconst 1, 1) := by decide +kernel
theorem dX7_canTake_27 : decode cX7_canTake 27 = .ok (.goto 4, 3) := by decide +kernel
theorem dX7_canTake_30 : decode cX7_canTake 30 = .ok (.iconst 0, 1) := by decide +kernel
theorem dX7_canTake_31 : decode cX7_canTake 31 = .ok (.ireturn, 1) := by decide +kernel
theorem dX7_leftFor_0 : decode cX7_leftFor 0 = .ok (.iconst 0, 1) := by decide +kernel
theorem dX7_leftFor_1 : decode cX7_leftFor 1 = .ok (.istore_n 2, 1) := by decide +kernel
theorem dX7_leftFor_2 : decode cX7_leftFor 2 = .ok (.iconst 0, 1) := by decide +kernel
theorem dX7_leftFor_3 : decode cX7_leftFor 3 = .ok (.istore_n 3, 1) := by decide +kernel
theorem dX7_leftFor_4 : decode cX7_leftFor 4 = .ok (.iload_n 3, 1) := by decide +kernel
theorem dX7_leftFor_5 : decode cX7_leftFor 5 = .ok (.aload_n 0, 1) := by decide +kernel
theorem dX7_leftFor_6 : decode cX7_leftFor 6 = .ok (.getfield 7, 3) := by decide +kernel
theorem dX7_leftFor_9 : decode cX7_leftFor 9 = .ok (.iconst 0, 1) := by decide +kernel
theorem dX7_leftFor_10 : decode cX7_leftFor 10 = .ok (.iaload, 1) := by decide +kernel
theorem dX7_leftFor_11 : decode cX7_leftFor 11 = .ok (.if_icmp .ge 42, 3) := by decide +kernel
theorem dX7_leftFor_14 : decode cX7_leftFor 14 = .ok (.iload_n 2, 1) := by decide +kernel
theorem dX7_leftFor_15 : decode cX7_leftFor 15 = .ok (.aload_n 0, 1) := by decide +kernel
theorem dX7_leftFor_16 : decode cX7_leftFor 16 = .ok (.iload_n 3, 1) := by decide +kernel
theorem dX7_leftFor_17 : decode cX7_leftFor 17 = .ok (.iconst 4, 1) := by decide +kernel
theorem dX7_leftFor_18 : decode cX7_leftFor 18 = .ok (.invokevirtual 49, 3) := by decide +kernel
theorem dX7_leftFor_21 : decode cX7_leftFor 21 = .ok (.iload_n 1, 1) := by decide +kernel
theorem dX7_leftFor_22 : decode cX7_leftFor 22 = .ok (.iconst 1, 1) := by decide +kernel
theorem dX7_leftFor_23 : decode cX7_leftFor 23 = .ok (.iadd, 1) := by decide +kernel
theorem dX7_leftFor_24 : decode cX7_leftFor 24 = .ok (.if_icmp .ne 20, 3) := by decide +kernel
theorem dX7_leftFor_27 : decode cX7_leftFor 27 = .ok (.aload_n 0, 1) := by decide +kernel
theorem dX7_leftFor_28 : decode cX7_leftFor 28 = .ok (.iload_n 3, 1) := by decide +kernel
theorem dX7_leftFor_29 : decode cX7_leftFor 29 = .ok (.invokevirtual 53, 3) := by decide +kernel
theorem dX7_leftFor_32 : decode cX7_leftFor 32 = .ok (.ifCond .eq 12, 3) := by decide +kernel
theorem dX7_leftFor_35 : decode cX7_leftFor 35 = .ok (.aload_n 0, 1) := by decide +kernel
theorem dX7_leftFor_36 : decode cX7_leftFor 36 = .ok (.iload_n 3, 1) := by decide +kernel
theorem dX7_leftFor_37 : decode cX7_leftFor 37 = .ok (.iconst 0, 1) := by decide +kernel
theorem dX7_leftFor_38 : decode cX7_leftFor 38 = .ok (.invokevirtual 49, 3) := by decide +kernel
theorem dX7_leftFor_41 : decode cX7_leftFor 41 = .ok (.goto 4, 3) := by decide +kernel
theorem dX7_leftFor_44 : decode cX7_leftFor 44 = .ok (.iconst 0, 1) := by decide +kernel
theorem dX7_leftFor_45 : decode cX7_leftFor 45 = .ok (.iadd, 1) := by decide +kernel
theorem dX7_leftFor_46 : decode cX7_leftFor 46 = .ok (.istore_n 2, 1) := by decide +kernel
theorem dX7_leftFor_47 : decode cX7_leftFor 47 = .ok (.iinc 3 1, 3) := by decide +kernel
theorem dX7_leftFor_50 : decode cX7_leftFor 50 = .ok (.goto (-46), 3) := by decide +kernel
theorem dX7_leftFor_53 : decode cX7_leftFor 53 = .ok (.iload_n 2, 1) := by decide +kernel
theorem dX7_leftFor_54 : decode cX7_leftFor 54 = .ok (.ireturn, 1) := by decide +kernel
theorem dX7_doneFor_0 : decode cX7_doneFor 0 = .ok (.iconst 0, 1) := by decide +kernel
theorem dX7_doneFor_1 : decode cX7_doneFor 1 = .ok (.istore_n 2, 1) := by decide +kernel
theorem dX7_doneFor_2 : decode cX7_doneFor 2 = .ok (.iconst 0, 1) := by decide +kernel
theorem dX7_doneFor_3 : decode cX7_doneFor 3 = .ok (.istore_n 3, 1) := by decide +kernel
theorem dX7_doneFor_4 : decode cX7_doneFor 4 = .ok (.iload_n 3, 1) := by decide +kernel
theorem dX7_doneFor_5 : decode cX7_doneFor 5 = .ok (.aload_n 0, 1) := by decide +kernel
theorem dX7_doneFor_6 : decode cX7_doneFor 6 = .ok (.getfield 7, 3) := by decide +kernel
theorem dX7_doneFor_9 : decode cX7_doneFor 9 = .ok (.iconst 0, 1) := by decide +kernel
theorem dX7_doneFor_10 : decode cX7_doneFor 10 = .ok (.iaload, 1) := by decide +kernel
theorem dX7_doneFor_11 : decode cX7_doneFor 11 = .ok (.if_icmp .ge 44, 3) := by decide +kernel
theorem dX7_doneFor_14 : decode cX7_doneFor 14 = .ok (.iload_n 2, 1) := by decide +kernel
theorem dX7_doneFor_15 : decode cX7_doneFor 15 = .ok (.aload_n 0, 1) := by decide +kernel
theorem dX7_doneFor_16 : decode cX7_doneFor 16 = .ok (.iload_n 3, 1) := by decide +kernel
theorem dX7_doneFor_17 : decode cX7_doneFor 17 = .ok (.iconst 4, 1) := by decide +kernel
theorem dX7_doneFor_18 : decode cX7_doneFor 18 = .ok (.invokevirtual 49, 3) := by decide +kernel
theorem dX7_doneFor_21 : decode cX7_doneFor 21 = .ok (.iload_n 1, 1) := by decide +kernel
theorem dX7_doneFor_22 : decode cX7_doneFor 22 = .ok (.iconst 1, 1) := by decide +kernel
theorem dX7_doneFor_23 : decode cX7_doneFor 23 = .ok (.iadd, 1) := by decide +kernel
theorem dX7_doneFor_24 : decode cX7_doneFor 24 = .ok (.if_icmp .ne 22, 3) := by decide +kernel
theorem dX7_doneFor_27 : decode cX7_doneFor 27 = .ok (.aload_n 0, 1) := by decide +kernel
theorem dX7_doneFor_28 : decode cX7_doneFor 28 = .ok (.iload_n 3, 1) := by decide +kernel
theorem dX7_doneFor_29 : decode cX7_doneFor 29 = .ok (.iconst 2, 1) := by decide +kernel
theorem dX7_doneFor_30 : decode cX7_doneFor 30 = .ok (.invokevirtual 49, 3) := by decide +kernel
theorem dX7_doneFor_33 : decode cX7_doneFor 33 = .ok (.iconst 3, 1) := by decide +kernel
theorem dX7_doneFor_34 : decode cX7_doneFor 34 = .ok (.if_icmp .ne 12, 3) := by decide +kernel
theorem dX7_doneFor_37 : decode cX7_doneFor 37 = .ok (.aload_n 0, 1) := by decide +kernel
theorem dX7_doneFor_38 : decode cX7_doneFor 38 = .ok (.iload_n 3, 1) := by decide +kernel
theorem dX7_doneFor_39 : decode cX7_doneFor 39 = .ok (.iconst 0, 1) := by decide +kernel
theorem dX7_doneFor_40 : decode cX7_doneFor 40 = .ok (.invokevirtual 49, 3) := by decide +kernel
theorem dX7_doneFor_43 : decode cX7_doneFor 43 = .ok (.goto 4, 3) := by decide +kernel
theorem dX7_doneFor_46 : decode cX7_doneFor 46 = .ok (.iconst 0, 1) := by decide +kernel
theorem dX7_doneFor_47 : decode cX7_doneFor 47 = .ok (.iadd, 1) := by decide +kernel
theorem dX7_doneFor_48 : decode cX7_doneFor 48 = .ok (.istore_n 2, 1) := by decide +kernel
theorem dX7_doneFor_49 : decode cX7_doneFor 49 = .ok (.iinc 3 1, 3) := by decide +kernel
theorem dX7_doneFor_52 : decode cX7_doneFor 52 = .ok (.goto (-48), 3) := by decide +kernel
theorem dX7_doneFor_55 : decode cX7_doneFor 55 = .ok (.iload_n 2, 1) := by decide +kernel
theorem dX7_doneFor_56 : decode cX7_doneFor 56 = .ok (.ireturn, 1) := by decide +kernel
theorem dX7_opens_0 : decode cX7_opens 0 = .ok (.aload_n 0, 1) := by decide +kernel
theorem dX7_opens_1 : decode cX7_opens 1 = .ok (.getfield 7, 3) := by decide +kernel
theorem dX7_opens_4 : decode cX7_opens 4 = .ok (.iconst 0, 1) := by decide +kernel
theorem dX7_opens_5 : decode cX7_opens 5 = .ok (.iaload, 1) := by decide +kernel
theorem dX7_opens_6 : decode cX7_opens 6 = .ok (.istore_n 3, 1) := by decide +kernel
theorem dX7_opens_7 : decode cX7_opens 7 = .ok (.aload_n 0, 1) := by decide +kernel
theorem dX7_opens_8 : decode cX7_opens 8 = .ok (.getfield 7, 3) := by decide +kernel
theorem dX7_opens_11 : decode cX7_opens 11 = .ok (.iconst 0, 1) := by decide +kernel
theorem dX7_opens_12 : decode cX7_opens 12 = .ok (.dup2, 1) := by decide +kernel
theorem dX7_opens_13 : decode cX7_opens 13 = .ok (.iaload, 1) := by decide +kernel
theorem dX7_opens_14 : decode cX7_opens 14 = .ok (.iconst 1, 1) := by decide +kernel
theorem dX7_opens_15 : decode cX7_opens 15 = .ok (.iadd, 1) := by decide +kernel
theorem dX7_opens_16 : decode cX7_opens 16 = .ok (.iastore, 1) := by decide +kernel
theorem dX7_opens_17 : decode cX7_opens 17 = .ok (.aload_n 0, 1) := by decide +kernel
theorem dX7_opens_18 : decode cX7_opens 18 = .ok (.iload_n 3, 1) := by decide +kernel
theorem dX7_opens_19 : decode cX7_opens 19 = .ok (.iconst 0, 1) := by decide +kernel
theorem dX7_opens_20 : decode cX7_opens 20 = .ok (.iload_n 1, 1) := by decide +kernel
theorem dX7_opens_21 : decode cX7_opens 21 = .ok (.invokevirtual 72, 3) := by decide +kernel
theorem dX7_opens_24 : decode cX7_opens 24 = .ok (.aload_n 0, 1) := by decide +kernel
theorem dX7_opens_25 : decode cX7_opens 25 = .ok (.iload_n 3, 1) := by decide +kernel
theorem dX7_opens_26 : decode cX7_opens 26 = .ok (.iconst 1, 1) := by decide +kernel
theorem dX7_opens_27 : decode cX7_opens 27 = .ok (.iload_n 2, 1) := by decide +kernel
theorem dX7_opens_28 : decode cX7_opens 28 = .ok (.invokevirtual 72, 3) := by decide +kernel
theorem dX7_opens_31 : decode cX7_opens 31 = .ok (.aload_n 0, 1) := by decide +kernel
theorem dX7_opens_32 : decode cX7_opens 32 = .ok (.iload_n 3, 1) := by decide +kernel
theorem dX7_opens_33 : decode cX7_opens 33 = .ok (.iconst 5, 1) := by decide +kernel
theorem dX7_opens_34 : decode cX7_opens 34 = .ok (.aload_n 0, 1) := by decide +kernel
theorem dX7_opens_35 : decode cX7_opens 35 = .ok (.getfield 7, 3) := by decide +kernel
theorem dX7_opens_38 : decode cX7_opens 38 = .ok (.iconst 1, 1) := by decide +kernel
theorem dX7_opens_39 : decode cX7_opens 39 = .ok (.iaload, 1) := by decide +kernel
theorem dX7_opens_40 : decode cX7_opens 40 = .ok (.invokevirtual 72, 3) := by decide +kernel
theorem dX7_opens_43 : decode cX7_opens 43 = .ok (.iload_n 3, 1) := by decide +kernel
theorem dX7_opens_44 : decode cX7_opens 44 = .ok (.ireturn, 1) := by decide +kernel
theorem dX7_openTicket_0 : decode cX7_openTicket 0 = .ok (.aload_n 0, 1) := by decide +kernel
theorem dX7_openTicket_1 : decode cX7_openTicket 1 = .ok (.iconst 0, 1) := by decide +kernel
theorem dX7_openTicket_2 : decode cX7_openTicket 2 = .ok (.putfield 38, 3) := by decide +kernel
theorem dX7_openTicket_5 : decode cX7_openTicket 5 = .ok (.iload_n 1, 1) := by decide +kernel
theorem dX7_openTicket_6 : decode cX7_openTicket 6 = .ok (.iconst 1, 1) := by decide +kernel
theorem dX7_openTicket_7 : decode cX7_openTicket 7 = .ok (.bipush 13, 2) := by decide +kernel
theorem dX7_openTicket_9 : decode cX7_openTicket 9 = .ok (.invokestatic 42, 3) := by decide +kernel
theorem dX7_openTicket_12 : decode cX7_openTicket 12 = .ok (.ifCond .eq 12, 3) := by decide +kernel
theorem dX7_openTicket_15 : decode cX7_openTicket 15 = .ok (.iload_n 2, 1) := by decide +kernel
theorem dX7_openTicket_16 : decode cX7_openTicket 16 = .ok (.iconst 0, 1) := by decide +kernel
theorem dX7_openTicket_17 : decode cX7_openTicket 17 = .ok (.iconst 3, 1) := by decide +kernel
theorem dX7_openTicket_18 : decode cX7_openTicket 18 = .ok (.invokestatic 42, 3) := by decide +kernel
theorem dX7_openTicket_21 : decode cX7_openTicket 21 = .ok (.ifCond .ne 9, 3) := by decide +kernel
theorem dX7_openTicket_24 : decode cX7_openTicket 24 = .ok (.aload_n 0, 1) := by decide +kernel
theorem dX7_openTicket_25 : decode cX7_openTicket 25 = .ok (.iconst 1, 1) := by decide +kernel
theorem dX7_openTicket_26 : decode cX7_openTicket 26 = .ok (.invokevirtual 76, 3) := by decide +kernel
theorem dX7_openTicket_29 : decode cX7_openTicket 29 = .ok (.ireturn, 1) := by decide +kernel
theorem dX7_openTicket_30 : decode cX7_openTicket 30 = .ok (.aload_n 0, 1) := by decide +kernel
theorem dX7_openTicket_31 : decode cX7_openTicket 31 = .ok (.getfield 7, 3) := by decide +kernel
theorem dX7_openTicket_34 : decode cX7_openTicket 34 = .ok (.iconst 0, 1) := by decide +kernel
theorem dX7_openTicket_35 : decode cX7_openTicket 35 = .ok (.iaload, 1) := by decide +kernel
theorem dX7_openTicket_36 : decode cX7_openTicket 36 = .ok (.bipush 20, 2) := by decide +kernel
theorem dX7_openTicket_38 : decode cX7_openTicket 38 = .ok (.if_icmp .ne 9, 3) := by decide +kernel
theorem dX7_openTicket_41 : decode cX7_openTicket 41 = .ok (.aload_n 0, 1) := by decide +kernel
theorem dX7_openTicket_42 : decode cX7_openTicket 42 = .ok (.iconst 2, 1) := by decide +kernel
theorem dX7_openTicket_43 : decode cX7_openTicket 43 = .ok (.invokevirtual 76, 3) := by decide +kernel
theorem dX7_openTicket_46 : decode cX7_openTicket 46 = .ok (.ireturn, 1) := by decide +kernel
theorem dX7_openTicket_47 : decode cX7_openTicket 47 = .ok (.aload_n 0, 1) := by decide +kernel
theorem dX7_openTicket_48 : decode cX7_openTicket 48 = .ok (.invokevirtual 79, 3) := by decide +kernel
theorem dX7_openTicket_51 : decode cX7_openTicket 51 = .ok (.aload_n 0, 1) := by decide +kernel
theorem dX7_openTicket_52 : decode cX7_openTicket 52 = .ok (.iload_n 1, 1) := by decide +kernel
theorem dX7_openTicket_53 : decode cX7_openTicket 53 = .ok (.iload_n 2, 1) := by decide +kernel
theorem dX7_openTicket_54 : decode cX7_openTicket 54 = .ok (.invokevirtual 82, 3) := by decide +kernel
theorem dX7_openTicket_57 : decode cX7_openTicket 57 = .ok (.ireturn, 1) := by decide +kernel
theorem dX7_reestimate_0 : decode cX7_reestimate 0 = .ok (.aload_n 0, 1) := by decide +kernel
theorem dX7_reestimate_1 : decode cX7_reestimate 1 = .ok (.iconst 0, 1) := by decide +kernel
theorem dX7_reestimate_2 : decode cX7_reestimate 2 = .ok (.putfield 38, 3) := by decide +kernel
theorem dX7_reestimate_5 : decode cX7_reestimate 5 = .ok (.aload_n 0, 1) := by decide +kernel
theorem dX7_reestimate_6 : decode cX7_reestimate 6 = .ok (.iload_n 1, 1) := by decide +kernel
theorem dX7_reestimate_7 : decode cX7_reestimate 7 = .ok (.invokevirtual 85, 3) := by decide +kernel
theorem dX7_reestimate_10 : decode cX7_reestimate 10 = .ok (.ifCond .ne 9, 3) := by decide +kernel
theorem dX7_reestimate_13 : decode cX7_reestimate 13 = .ok (.aload_n 0, 1) := by decide +kernel
theorem dX7_reestimate_14 : decode cX7_reestimate 14 = .ok (.iconst 1, 1) := by decide +kernel
theorem dX7_reestimate_15 : decode cX7_reestimate 15 = .ok (.invokevirtual 76, 3) := by decide +kernel
theorem dX7_reestimate_18 : decode cX7_reestimate 18 = .ok (.ireturn, 1) := by decide +kernel
theorem dX7_reestimate_19 : decode cX7_reestimate 19 = .ok (.iload_n 2, 1) := by decide +kernel
theorem dX7_reestimate_20 : decode cX7_reestimate 20 = .ok (.iconst 1, 1) := by decide +kernel
theorem dX7_reestimate_21 : decode cX7_reestimate 21 = .ok (.bipush 13, 2) := by decide +kernel
theorem dX7_reestimate_23 : decode cX7_reestimate 23 = .ok (.invokestatic 42, 3) := by decide +kernel
theorem dX7_reestimate_26 : decode cX7_reestimate 26 = .ok (.ifCond .ne 9, 3) := by decide +kernel
theorem dX7_reestimate_29 : decode cX7_reestimate 29 = .ok (.aload_n 0, 1) := by decide +kernel
theorem dX7_reestimate_30 : decode cX7_reestimate 30 = .ok (.iconst 2, 1) := by decide +kernel
theorem dX7_reestimate_31 : decode cX7_reestimate 31 = .ok (.invokevirtual 76, 3) := by decide +kernel
theorem dX7_reestimate_34 : decode cX7_reestimate 34 = .ok (.ireturn, 1) := by decide +kernel
theorem dX7_reestimate_35 : decode cX7_reestimate 35 = .ok (.aload_n 0, 1) := by decide +kernel
theorem dX7_reestimate_36 : decode cX7_reestimate 36 = .ok (.iload_n 1, 1) := by decide +kernel
theorem dX7_reestimate_37 : decode cX7_reestimate 37 = .ok (.iconst 0, 1) := by decide +kernel
theorem dX7_reestimate_38 : decode cX7_reestimate 38 = .ok (.invokevirtual 49, 3) := by decide +kernel
theorem dX7_reestimate_41 : decode cX7_reestimate 41 = .ok (.istore_n 3, 1) := by decide +kernel
theorem dX7_reestimate_42 : decode cX7_reestimate 42 = .ok (.aload_n 0, 1) := by decide +kernel
theorem dX7_reestimate_43 : decode cX7_reestimate 43 = .ok (.iload_n 1, 1) := by decide +kernel
theorem dX7_reestimate_44 : decode cX7_reestimate 44 = .ok (.invokevirtual 53, 3) := by decide +kernel
theorem dX7_reestimate_47 : decode cX7_reestimate 47 = .ok (.ifCond .eq 19, 3) := by decide +kernel
theorem dX7_reestimate_50 : decode cX7_reestimate 50 = .ok (.aload_n 0, 1) := by decide +kernel
theorem dX7_reestimate_51 : decode cX7_reestimate 51 = .ok (.aload_n 0, 1) := by decide +kernel
theorem dX7_reestimate_52 : decode cX7_reestimate 52 = .ok (.iload_n 1, 1) := by decide +kernel
theorem dX7_reestimate_53 : decode cX7_reestimate 53 = .ok (.iconst 3, 1) := by decide +kernel
theorem dX7_reestimate_54 : decode cX7_reestimate 54 = .ok (.invokevirtual 49, 3) := by decide +kernel
theorem dX7_reestimate_57 : decode cX7_reestimate 57 = .ok (.iload_n 2, 1) := by decide +kernel
theorem dX7_reestimate_58 : decode cX7_reestimate 58 = .ok (.iload_n 3, 1) := by decide +kernel
theorem dX7_reestimate_59 : decode cX7_reestimate 59 = .ok (.isub, 1) := by decide +kernel
theorem dX7_reestimate_60 : decode cX7_reestimate 60 = .ok (.invokevirtual 88, 3) := by decide +kernel
theorem dX7_reestimate_63 : decode cX7_reestimate 63 = .ok (.ifCond .ne 9, 3) := by decide +kernel
theorem dX7_reestimate_66 : decode cX7_reestimate 66 = .ok (.aload_n 0, 1) := by decide +kernel
theorem dX7_reestimate_67 : decode cX7_reestimate 67 = .ok (.iconst 3, 1) := by decide +kernel
theorem dX7_reestimate_68 : decode cX7_reestimate 68 = .ok (.invokevirtual 76, 3) := by decide +kernel
theorem dX7_reestimate_71 : decode cX7_reestimate 71 = .ok (.ireturn, 1) := by decide +kernel
theorem dX7_reestimate_72 : decode cX7_reestimate 72 = .ok (.aload_n 0, 1) := by decide +kernel
theorem dX7_reestimate_73 : decode cX7_reestimate 73 = .ok (.invokevirtual 79, 3) := by decide +kernel
theorem dX7_reestimate_76 : decode cX7_reestimate 76 = .ok (.aload_n 0, 1) := by decide +kernel
theorem dX7_reestimate_77 : decode cX7_reestimate 77 = .ok (.iload_n 1, 1) := by decide +kernel
theorem dX7_reestimate_78 : decode cX7_reestimate 78 = .ok (.iconst 0, 1) := by decide +kernel
theorem dX7_reestimate_79 : decode cX7_reestimate 79 = .ok (.iload_n 2, 1) := by decide +kernel
theorem dX7_reestimate_80 : decode cX7_reestimate 80 = .ok (.invokevirtual 72, 3) := by decide +kernel
theorem dX7_reestimate_83 : decode cX7_reestimate 83 = .ok (.iload_n 3, 1) := by decide +kernel
theorem dX7_reestimate_84 : decode cX7_reestimate 84 = .ok (.ireturn, 1) := by decide +kernel
theorem dX7_changePriority_0 : decode cX7_changePriority 0 = .ok (.aload_n 0, 1) := by decide +kernel
theorem dX7_changePriority_1 : decode cX7_changePriority 1 = .ok (.iconst 0, 1) := by decide +kernel
theorem dX7_changePriority_2 : decode cX7_changePriority 2 = .ok (.putfield 38, 3) := by decide +kernel
theorem dX7_changePriority_5 : decode cX7_changePriority 5 = .ok (.aload_n 0, 1) := by decide +kernel
theorem dX7_changePriority_6 : decode cX7_changePriority 6 = .ok (.iload_n 1, 1) := by decide +kernel
theorem dX7_changePriority_7 : decode cX7_changePriority 7 = .ok (.invokevirtual 85, 3) := by decide +kernel
theorem dX7_changePriority_10 : decode cX7_changePriority 10 = .ok (.ifCond .ne 9, 3) := by decide +kernel
theorem dX7_changePriority_13 : decode cX7_changePriority 13 = .ok (.aload_n 0, 1) := by decide +kernel
theorem dX7_changePriority_14 : decode cX7_changePriority 14 = .ok (.iconst 1, 1) := by decide +kernel
theorem dX7_changePriority_15 : decode cX7_changePriority 15 = .ok (.invokevirtual 76, 3) := by decide +kernel
theorem dX7_changePriority_18 : decode cX7_changePriority 18 = .ok (.ireturn, 1) := by decide +kernel
theorem dX7_changePriority_19 : decode cX7_changePriority 19 = .ok (.iload_n 2, 1) := by decide +kernel
theorem dX7_changePriority_20 : decode cX7_changePriority 20 = .ok (.iconst 0, 1) := by decide +kernel
theorem dX7_changePriority_21 : decode cX7_changePriority 21 = .ok (.iconst 3, 1) := by decide +kernel
theorem dX7_changePriority_22 : decode cX7_changePriority 22 = .ok (.invokestatic 42, 3) := by decide +kernel
theorem dX7_changePriority_25 : decode cX7_changePriority 25 = .ok (.ifCond .ne 9, 3) := by decide +kernel
theorem dX7_changePriority_28 : decode cX7_changePriority 28 = .ok (.aload_n 0, 1) := by decide +kernel
theorem dX7_changePriority_29 : decode cX7_changePriority 29 = .ok (.iconst 2, 1) := by decide +kernel
theorem dX7_changePriority_30 : decode cX7_changePriority 30 = .ok (.invokevirtual 76, 3) := by decide +kernel
theorem dX7_changePriority_33 : decode cX7_changePriority 33 = .ok (.ireturn, 1) := by decide +kernel
theorem dX7_changePriority_34 : decode cX7_changePriority 34 = .ok (.aload_n 0, 1) := by decide +kernel
theorem dX7_changePriority_35 : decode cX7_changePriority 35 = .ok (.invokevirtual 79, 3) := by decide +kernel
theorem dX7_changePriority_38 : decode cX7_changePriority 38 = .ok (.aload_n 0, 1) := by decide +kernel
theorem dX7_changePriority_39 : decode cX7_changePriority 39 = .ok (.iload_n 1, 1) := by decide +kernel
theorem dX7_changePriority_40 : decode cX7_changePriority 40 = .ok (.iconst 1, 1) := by decide +kernel
theorem dX7_changePriority_41 : decode cX7_changePriority 41 = .ok (.invokevirtual 49, 3) := by decide +kernel
theorem dX7_changePriority_44 : decode cX7_changePriority 44 = .ok (.istore_n 3, 1) := by decide +kernel
theorem dX7_changePriority_45 : decode cX7_changePriority 45 = .ok (.aload_n 0, 1) := by decide +kernel
theorem dX7_changePriority_46 : decode cX7_changePriority 46 = .ok (.iload_n 1, 1) := by decide +kernel
theorem dX7_changePriority_47 : decode cX7_changePriority 47 = .ok (.iconst 1, 1) := by decide +kernel
theorem dX7_changePriority_48 : decode cX7_changePriority 48 = .ok (.iload_n 2, 1) := by decide +kernel
theorem dX7_changePriority_49 : decode cX7_changePriority 49 = .ok (.invokevirtual 72, 3) := by decide +kernel
theorem dX7_changePriority_52 : decode cX7_changePriority 52 = .ok (.iload_n 3, 1) := by decide +kernel
theorem dX7_changePriority_53 : decode cX7_changePriority 53 = .ok (.ireturn, 1) := by decide +kernel
theorem dX7_needsIt_0 : decode cX7_needsIt 0 = .ok (.aload_n 0, 1) := by decide +kernel
theorem dX7_needsIt_1 : decode cX7_needsIt 1 = .ok (.iload_n 1, 1) := by decide +kernel
theorem dX7_needsIt_2 : decode cX7_needsIt 2 = .ok (.bipush 9, 2) := by decide +kernel
theorem dX7_needsIt_4 : decode cX7_needsIt 4 = .ok (.invokevirtual 49, 3) := by decide +kernel
theorem dX7_needsIt_7 : decode cX7_needsIt 7 = .ok (.iload_n 2, 1) := by decide +kernel
theorem dX7_needsIt_8 : decode cX7_needsIt 8 = .ok (.ishr, 1) := by decide +kernel
theorem dX7_needsIt_9 : decode cX7_needsIt 9 = .ok (.iconst 1, 1) := by decide +kernel
theorem dX7_needsIt_10 : decode cX7_needsIt 10 = .ok (.iand, 1) := by decide +kernel
theorem dX7_needsIt_11 : decode cX7_needsIt 11 = .ok (.iconst 1, 1) := by decide +kernel
theorem dX7_needsIt_12 : decode cX7_needsIt 12 = .ok (.if_icmp .ne 7, 3) := by decide +kernel
theorem dX7_needsIt_15 : decode cX7_needsIt 15 = .ok (.iconst 1, 1) := by decide +kernel
theorem dX7_needsIt_16 : decode cX7_needsIt 16 = .ok (.goto 4, 3) := by decide +kernel
theorem dX7_needsIt_19 : decode cX7_needsIt 19 = .ok (.iconst 0, 1) := by decide +kernel
theorem dX7_needsIt_20 : decode cX7_needsIt 20 = .ok (.ireturn, 1) := by decide +kernel
theorem dX7_canNeed_0 : decode cX7_canNeed 0 = .ok (.iload_n 1, 1) := by decide +kernel
theorem dX7_canNeed_1 : decode cX7_canNeed 1 = .ok (.iload_n 2, 1) := by decide +kernel
theorem dX7_canNeed_2 : decode cX7_canNeed 2 = .ok (.if_icmp .eq 36, 3) := by decide +kernel
theorem dX7_canNeed_5 : decode cX7_canNeed 5 = .ok (.aload_n 0, 1) := by decide +kernel
theorem dX7_canNeed_6 : decode cX7_canNeed 6 = .ok (.iload_n 1, 1) := by decide +kernel
theorem dX7_canNeed_7 : decode cX7_canNeed 7 = .ok (.iload_n 2, 1) := by decide +kernel
theorem dX7_canNeed_8 : decode cX7_canNeed 8 = .ok (.invokevirtual 92, 3) := by decide +kernel
theorem dX7_canNeed_11 : decode cX7_canNeed 11 = .ok (.ifCond .ne 27, 3) := by decide +kernel
theorem dX7_canNeed_14 : decode cX7_canNeed 14 = .ok (.aload_n 0, 1) := by decide +kernel
theorem dX7_canNeed_15 : decode cX7_canNeed 15 = .ok (.iload_n 1, 1) := by decide +kernel
theorem dX7_canNeed_16 : decode cX7_canNeed 16 = .ok (.invokevirtual 53, 3) := by decide +kernel
theorem dX7_canNeed_19 : decode cX7_canNeed 19 = .ok (.ifCond .eq 19, 3) := by decide +kernel
theorem dX7_canNeed_22 : decode cX7_canNeed 22 = .ok (.aload_n 0, 1) := by decide +kernel
theorem dX7_canNeed_23 : decode cX7_canNeed 23 = .ok (.iload_n 2, 1) := by decide +kernel
theorem dX7_canNeed_24 : decode cX7_canNeed 24 = .ok (.invokevirtual 95, 3) := by decide +kernel
theorem dX7_canNeed_27 : decode cX7_canNeed 27 = .ok (.iload_n 1, 1) := by decide +kernel
theorem dX7_canNeed_28 : decode cX7_canNeed 28 = .ok (.ishr, 1) := by decide +kernel
theorem dX7_canNeed_29 : decode cX7_canNeed 29 = .ok (.iconst 1, 1) := by decide +kernel
theorem dX7_canNeed_30 : decode cX7_canNeed 30 = .ok (.iand, 1) := by decide +kernel
theorem dX7_canNeed_31 : decode cX7_canNeed 31 = .ok (.ifCond .ne 7, 3) := by decide +kernel
theorem dX7_canNeed_34 : decode cX7_canNeed 34 = .ok (.iconst 1, 1) := by decide +kernel
theorem dX7_canNeed_35 : decode cX7_canNeed 35 = .ok (.goto 4, 3) := by decide +kernel
theorem dX7_canNeed_38 : decode cX7_canNeed 38 = .ok (.iconst 0, 1) := by decide +kernel
theorem dX7_canNeed_39 : decode cX7_canNeed 39 = .ok (.ireturn, 1) := by decide +kernel
theorem dX7_takesNeed_0 : decode cX7_takesNeed 0 = .ok (.aload_n 0, 1) := by decide +kernel
theorem dX7_takesNeed_1 : decode cX7_takesNeed 1 = .ok (.iload_n 1, 1) := by decide +kernel
theorem dX7_takesNeed_2 : decode cX7_takesNeed 2 = .ok (.bipush 9, 2) := by decide +kernel
theorem dX7_takesNeed_4 : decode cX7_takesNeed 4 = .ok (.aload_n 0, 1) := by decide +kernel
theorem dX7_takesNeed_5 : decode cX7_takesNeed 5 = .ok (.iload_n 1, 1) := by decide +kernel
theorem dX7_takesNeed_6 : decode cX7_takesNeed 6 = .ok (.bipush 9, 2) := by decide +kernel
theorem dX7_takesNeed_8 : decode cX7_takesNeed 8 = .ok (.invokevirtual 49, 3) := by decide +kernel
theorem dX7_takesNeed_11 : decode cX7_takesNeed 11 = .ok (.iconst 1, 1) := by decide +kernel
theorem dX7_takesNeed_12 : decode cX7_takesNeed 12 = .ok (.iload_n 2, 1) := by decide +kernel
theorem dX7_takesNeed_13 : decode cX7_takesNeed 13 = .ok (.ishl, 1) := by decide +kernel
theorem dX7_takesNeed_14 : decode cX7_takesNeed 14 = .ok (.ixor, 1) := by decide +kernel
theorem dX7_takesNeed_15 : decode cX7_takesNeed 15 = .ok (.invokevirtual 72, 3) := by decide +kernel
theorem dX7_takesNeed_18 : decode cX7_takesNeed 18 = .ok (.aload_n 0, 1) := by decide +kernel
theorem dX7_takesNeed_19 : decode cX7_takesNeed 19 = .ok (.iload_n 1, 1) := by decide +kernel
theorem dX7_takesNeed_20 : decode cX7_takesNeed 20 = .ok (.bipush 9, 2) := by decide +kernel
theorem dX7_takesNeed_22 : decode cX7_takesNeed 22 = .ok (.invokevirtual 49, 3) := by decide +kernel
theorem dX7_takesNeed_25 : decode cX7_takesNeed 25 = .ok (.invokestatic 98, 3) := by decide +kernel
theorem dX7_takesNeed_28 : decode cX7_takesNeed 28 = .ok (.ireturn, 1) := by decide +kernel
theorem dX7_need_0 : decode cX7_need 0 = .ok (.aload_n 0, 1) := by decide +kernel
theorem dX7_need_1 : decode cX7_need 1 = .ok (.iconst 0, 1) := by decide +kernel
theorem dX7_need_2 : decode cX7_need 2 = .ok (.putfield 38, 3) := by decide +kernel
theorem dX7_need_5 : decode cX7_need 5 = .ok (.aload_n 0, 1) := by decide +kernel
theorem dX7_need_6 : decode cX7_need 6 = .ok (.iload_n 1, 1) := by decide +kernel
theorem dX7_need_7 : decode cX7_need 7 = .ok (.invokevirtual 85, 3) := by decide +kernel
theorem dX7_need_10 : decode cX7_need 10 = .ok (.ifCond .eq 11, 3) := by decide +kernel
theorem dX7_need_13 : decode cX7_need 13 = .ok (.aload_n 0, 1) := by decide +kernel
theorem dX7_need_14 : decode cX7_need 14 = .ok (.iload_n 2, 1) := by decide +kernel
theorem dX7_need_15 : decode cX7_need 15 = .ok (.invokevirtual 85, 3) := by decide +kernel
theorem dX7_need_18 : decode cX7_need 18 = .ok (.ifCond .ne 9, 3) := by decide +kernel
theorem dX7_need_21 : decode cX7_need 21 = .ok (.aload_n 0, 1) := by decide +kernel
theorem dX7_need_22 : decode cX7_need 22 = .ok (.iconst 1, 1) := by decide +kernel
theorem dX7_need_23 : decode cX7_need 23 = .ok (.invokevirtual 76, 3) := by decide +kernel
theorem dX7_need_26 : decode cX7_need 26 = .ok (.ireturn, 1) := by decide +kernel
theorem dX7_need_27 : decode cX7_need 27 = .ok (.iload_n 1, 1) := by decide +kernel
theorem dX7_need_28 : decode cX7_need 28 = .ok (.iload_n 2, 1) := by decide +kernel
theorem dX7_need_29 : decode cX7_need 29 = .ok (.if_icmp .ne 9, 3) := by decide +kernel
theorem dX7_need_32 : decode cX7_need 32 = .ok (.aload_n 0, 1) := by decide +kernel
theorem dX7_need_33 : decode cX7_need 33 = .ok (.iconst 2, 1) := by decide +kernel
theorem dX7_need_34 : decode cX7_need 34 = .ok (.invokevirtual 76, 3) := by decide +kernel
theorem dX7_need_37 : decode cX7_need 37 = .ok (.ireturn, 1) := by decide +kernel
theorem dX7_need_38 : decode cX7_need 38 = .ok (.aload_n 0, 1) := by decide +kernel
theorem dX7_need_39 : decode cX7_need 39 = .ok (.iload_n 1, 1) := by decide +kernel
theorem dX7_need_40 : decode cX7_need 40 = .ok (.iload_n 2, 1) := by decide +kernel
theorem dX7_need_41 : decode cX7_need 41 = .ok (.invokevirtual 101, 3) := by decide +kernel
theorem dX7_need_44 : decode cX7_need 44 = .ok (.ifCond .ne 9, 3) := by decide +kernel
theorem dX7_need_47 : decode cX7_need 47 = .ok (.aload_n 0, 1) := by decide +kernel
theorem dX7_need_48 : decode cX7_need 48 = .ok (.iconst 3, 1) := by decide +kernel
theorem dX7_need_49 : decode cX7_need 49 = .ok (.invokevirtual 76, 3) := by decide +kernel
theorem dX7_need_52 : decode cX7_need 52 = .ok (.ireturn, 1) := by decide +kernel
theorem dX7_need_53 : decode cX7_need 53 = .ok (.aload_n 0, 1) := by decide +kernel
theorem dX7_need_54 : decode cX7_need 54 = .ok (.invokevirtual 79, 3) := by decide +kernel
theorem dX7_need_57 : decode cX7_need 57 = .ok (.aload_n 0, 1) := by decide +kernel
theorem dX7_need_58 : decode cX7_need 58 = .ok (.iload_n 1, 1) := by decide +kernel
theorem dX7_need_59 : decode cX7_need 59 = .ok (.iload_n 2, 1) := by decide +kernel
theorem dX7_need_60 : decode cX7_need 60 = .ok (.invokevirtual 104, 3) := by decide +kernel
theorem dX7_need_63 : decode cX7_need 63 = .ok (.ireturn, 1) := by decide +kernel
theorem dX7_release_0 : decode cX7_release 0 = .ok (.aload_n 0, 1) := by decide +kernel
theorem dX7_release_1 : decode cX7_release 1 = .ok (.iconst 0, 1) := by decide +kernel
theorem dX7_release_2 : decode cX7_release 2 = .ok (.putfield 38, 3) := by decide +kernel
theorem dX7_release_5 : decode cX7_release 5 = .ok (.aload_n 0, 1) := by decide +kernel
theorem dX7_release_6 : decode cX7_release 6 = .ok (.iload_n 1, 1) := by decide +kernel
theorem dX7_release_7 : decode cX7_release 7 = .ok (.invokevirtual 85, 3) := by decide +kernel
theorem dX7_release_10 : decode cX7_release 10 = .ok (.ifCond .eq 11, 3) := by decide +kernel
theorem dX7_release_13 : decode cX7_release 13 = .ok (.aload_n 0, 1) := by decide +kernel
theorem dX7_release_14 : decode cX7_release 14 = .ok (.iload_n 2, 1) := by decide +kernel
theorem dX7_release_15 : decode cX7_release 15 = .ok (.invokevirtual 85, 3) := by decide +kernel
theorem dX7_release_18 : decode cX7_release 18 = .ok (.ifCond .ne 9, 3) := by decide +kernel
theorem dX7_release_21 : decode cX7_release 21 = .ok (.aload_n 0, 1) := by decide +kernel
theorem dX7_release_22 : decode cX7_release 22 = .ok (.iconst 1, 1) := by decide +kernel
theorem dX7_release_23 : decode cX7_release 23 = .ok (.invokevirtual 76, 3) := by decide +kernel
theorem dX7_release_26 : decode cX7_release 26 = .ok (.ireturn, 1) := by decide +kernel
theorem dX7_release_27 : decode cX7_release 27 = .ok (.aload_n 0, 1) := by decide +kernel
theorem dX7_release_28 : decode cX7_release 28 = .ok (.iload_n 1, 1) := by decide +kernel
theorem dX7_release_29 : decode cX7_release 29 = .ok (.iload_n 2, 1) := by decide +kernel
theorem dX7_release_30 : decode cX7_release 30 = .ok (.invokevirtual 92, 3) := by decide +kernel
theorem dX7_release_33 : decode cX7_release 33 = .ok (.ifCond .ne 9, 3) := by decide +kernel
theorem dX7_release_36 : decode cX7_release 36 = .ok (.aload_n 0, 1) := by decide +kernel
theorem dX7_release_37 : decode cX7_release 37 = .ok (.iconst 2, 1) := by decide +kernel
theorem dX7_release_38 : decode cX7_release 38 = .ok (.invokevirtual 76, 3) := by decide +kernel
theorem dX7_release_41 : decode cX7_release 41 = .ok (.ireturn, 1) := by decide +kernel
theorem dX7_release_42 : decode cX7_release 42 = .ok (.aload_n 0, 1) := by decide +kernel
theorem dX7_release_43 : decode cX7_release 43 = .ok (.invokevirtual 79, 3) := by decide +kernel
theorem dX7_release_46 : decode cX7_release 46 = .ok (.aload_n 0, 1) := by decide +kernel
theorem dX7_release_47 : decode cX7_release 47 = .ok (.iload_n 1, 1) := by decide +kernel
theorem dX7_release_48 : decode cX7_release 48 = .ok (.iload_n 2, 1) := by decide +kernel
theorem dX7_release_49 : decode cX7_release 49 = .ok (.invokevirtual 104, 3) := by decide +kernel
theorem dX7_release_52 : decode cX7_release 52 = .ok (.ireturn, 1) := by decide +kernel
theorem dX7_canAssign_0 : decode cX7_canAssign 0 = .ok (.aload_n 0, 1) := by decide +kernel
theorem dX7_canAssign_1 : decode cX7_canAssign 1 = .ok (.iload_n 1, 1) := by decide +kernel
theorem dX7_canAssign_2 : decode cX7_canAssign 2 = .ok (.invokevirtual 53, 3) := by decide +kernel
theorem dX7_canAssign_5 : decode cX7_canAssign 5 = .ok (.ifCond .eq 35, 3) := by decide +kernel
theorem dX7_canAssign_8 : decode cX7_canAssign 8 = .ok (.aload_n 0, 1) := by decide +kernel
theorem dX7_canAssign_9 : decode cX7_canAssign 9 = .ok (.iload_n 1, 1) := by decide +kernel
theorem dX7_canAssign_10 : decode cX7_canAssign 10 = .ok (.iconst 3, 1) := by decide +kernel
theorem dX7_canAssign_11 : decode cX7_canAssign 11 = .ok (.invokevirtual 49, 3) := by decide +kernel
theorem dX7_canAssign_14 : decode cX7_canAssign 14 = .ok (.iload_n 2, 1) := by decide +kernel
theorem dX7_canAssign_15 : decode cX7_canAssign 15 = .ok (.iconst 1, 1) := by decide +kernel
theorem dX7_canAssign_16 : decode cX7_canAssign 16 = .ok (.iadd, 1) := by decide +kernel
theorem dX7_canAssign_17 : decode cX7_canAssign 17 = .ok (.if_icmp .eq 23, 3) := by decide +kernel
theorem dX7_canAssign_20 : decode cX7_canAssign 20 = .ok (.aload_n 0, 1) := by decide +kernel
theorem dX7_canAssign_21 : decode cX7_canAssign 21 = .ok (.iload_n 2, 1) := by decide +kernel
theorem dX7_canAssign_22 : decode cX7_canAssign 22 = .ok (.iconst 1, 1) := by decide +kernel
theorem dX7_canAssign_23 : decode cX7_canAssign 23 = .ok (.iadd, 1) := by decide +kernel
theorem dX7_canAssign_24 : decode cX7_canAssign 24 = .ok (.aload_n 0, 1) := by decide +kernel
theorem dX7_canAssign_25 : decode cX7_canAssign 25 = .ok (.iload_n 1, 1) := by decide +kernel
theorem dX7_canAssign_26 : decode cX7_canAssign 26 = .ok (.iconst 0, 1) := by decide +kernel
theorem dX7_canAssign_27 : decode cX7_canAssign 27 = .ok (.invokevirtual 49, 3) := by decide +kernel
theorem dX7_canAssign_30 : decode cX7_canAssign 30 = .ok (.invokevirtual 88, 3) := by decide +kernel
theorem dX7_canAssign_33 : decode cX7_canAssign 33 = .ok (.ifCond .eq 7, 3) := by decide +kernel
theorem dX7_canAssign_36 : decode cX7_canAssign 36 = .ok (.iconst 1, 1) := by decide +kernel
theorem dX7_canAssign_37 : decode cX7_canAssign 37 = .ok (.goto 4, 3) := by decide +kernel
theorem dX7_canAssign_40 : decode cX7_canAssign 40 = .ok (.iconst 0, 1) := by decide +kernel
theorem dX7_canAssign_41 : decode cX7_canAssign 41 = .ok (.ireturn, 1) := by decide +kernel
theorem dX7_assigns_0 : decode cX7_assigns 0 = .ok (.aload_n 0, 1) := by decide +kernel
theorem dX7_assigns_1 : decode cX7_assigns 1 = .ok (.iload_n 1, 1) := by decide +kernel
theorem dX7_assigns_2 : decode cX7_assigns 2 = .ok (.iconst 3, 1) := by decide +kernel
theorem dX7_assigns_3 : decode cX7_assigns 3 = .ok (.iload_n 2, 1) := by decide +kernel
theorem dX7_assigns_4 : decode cX7_assigns 4 = .ok (.iconst 1, 1) := by decide +kernel
theorem dX7_assigns_5 : decode cX7_assigns 5 = .ok (.iadd, 1) := by decide +kernel
theorem dX7_assigns_6 : decode cX7_assigns 6 = .ok (.invokevirtual 72, 3) := by decide +kernel
theorem dX7_assigns_9 : decode cX7_assigns 9 = .ok (.aload_n 0, 1) := by decide +kernel
theorem dX7_assigns_10 : decode cX7_assigns 10 = .ok (.iload_n 2, 1) := by decide +kernel
theorem dX7_assigns_11 : decode cX7_assigns 11 = .ok (.invokevirtual 69, 3) := by decide +kernel
theorem dX7_assigns_14 : decode cX7_assigns 14 = .ok (.ireturn, 1) := by decide +kernel
theorem dX7_assign_0 : decode cX7_assign 0 = .ok (.aload_n 0, 1) := by decide +kernel
theorem dX7_assign_1 : decode cX7_assign 1 = .ok (.iconst 0, 1) := by decide +kernel
theorem dX7_assign_2 : decode cX7_assign 2 = .ok (.putfield 38, 3) := by decide +kernel
theorem dX7_assign_5 : decode cX7_assign 5 = .ok (.aload_n 0, 1) := by decide +kernel
theorem dX7_assign_6 : decode cX7_assign 6 = .ok (.iload_n 1, 1) := by decide +kernel
theorem dX7_assign_7 : decode cX7_assign 7 = .ok (.invokevirtual 85, 3) := by decide +kernel
theorem dX7_assign_10 : decode cX7_assign 10 = .ok (.ifCond .eq 10, 3) := by decide +kernel
theorem dX7_assign_13 : decode cX7_assign 13 = .ok (.iload_n 2, 1) := by decide +kernel
theorem dX7_assign_14 : decode cX7_assign 14 = .ok (.invokestatic 107, 3) := by decide +kernel
theorem dX7_assign_17 : decode cX7_assign 17 = .ok (.ifCond .ne 9, 3) := by decide +kernel
theorem dX7_assign_20 : decode cX7_assign 20 = .ok (.aload_n 0, 1) := by decide +kernel
theorem dX7_assign_21 : decode cX7_assign 21 = .ok (.iconst 1, 1) := by decide +kernel
theorem dX7_assign_22 : decode cX7_assign 22 = .ok (.invokevirtual 76, 3) := by decide +kernel
theorem dX7_assign_25 : decode cX7_assign 25 = .ok (.ireturn, 1) := by decide +kernel
theorem dX7_assign_26 : decode cX7_assign 26 = .ok (.aload_n 0, 1) := by decide +kernel
theorem dX7_assign_27 : decode cX7_assign 27 = .ok (.iload_n 1, 1) := by decide +kernel
theorem dX7_assign_28 : decode cX7_assign 28 = .ok (.iload_n 2, 1) := by decide +kernel
theorem dX7_assign_29 : decode cX7_assign 29 = .ok (.invokevirtual 110, 3) := by decide +kernel
theorem dX7_assign_32 : decode cX7_assign 32 = .ok (.ifCond .ne 9, 3) := by decide +kernel
theorem dX7_assign_35 : decode cX7_assign 35 = .ok (.aload_n 0, 1) := by decide +kernel
theorem dX7_assign_36 : decode cX7_assign 36 = .ok (.iconst 2, 1) := by decide +kernel
theorem dX7_assign_37 : decode cX7_assign 37 = .ok (.invokevirtual 76, 3) := by decide +kernel
theorem dX7_assign_40 : decode cX7_assign 40 = .ok (.ireturn, 1) := by decide +kernel
theorem dX7_assign_41 : decode cX7_assign 41 = .ok (.aload_n 0, 1) := by decide +kernel
theorem dX7_assign_42 : decode cX7_assign 42 = .ok (.invokevirtual 79, 3) := by decide +kernel
theorem dX7_assign_45 : decode cX7_assign 45 = .ok (.aload_n 0, 1) := by decide +kernel
theorem dX7_assign_46 : decode cX7_assign 46 = .ok (.iload_n 1, 1) := by decide +kernel
theorem dX7_assign_47 : decode cX7_assign 47 = .ok (.iload_n 2, 1) := by decide +kernel
theorem dX7_assign_48 : decode cX7_assign 48 = .ok (.invokevirtual 113, 3) := by decide +kernel
theorem dX7_assign_51 : decode cX7_assign 51 = .ok (.ireturn, 1) := by decide +kernel
theorem dX7_unassign_0 : decode cX7_unassign 0 = .ok (.aload_n 0, 1) := by decide +kernel
theorem dX7_unassign_1 : decode cX7_unassign 1 = .ok (.iconst 0, 1) := by decide +kernel
theorem dX7_unassign_2 : decode cX7_unassign 2 = .ok (.putfield 38, 3) := by decide +kernel
theorem dX7_unassign_5 : decode cX7_unassign 5 = .ok (.aload_n 0, 1) := by decide +kernel
theorem dX7_unassign_6 : decode cX7_unassign 6 = .ok (.iload_n 1, 1) := by decide +kernel
theorem dX7_unassign_7 : decode cX7_unassign 7 = .ok (.invokevirtual 85, 3) := by decide +kernel
theorem dX7_unassign_10 : decode cX7_unassign 10 = .ok (.ifCond .ne 9, 3) := by decide +kernel
theorem dX7_unassign_13 : decode cX7_unassign 13 = .ok (.aload_n 0, 1) := by decide +kernel
theorem dX7_unassign_14 : decode cX7_unassign 14 = .ok (.iconst 1, 1) := by decide +kernel
theorem dX7_unassign_15 : decode cX7_unassign 15 = .ok (.invokevirtual 76, 3) := by decide +kernel
theorem dX7_unassign_18 : decode cX7_unassign 18 = .ok (.ireturn, 1) := by decide +kernel
theorem dX7_unassign_19 : decode cX7_unassign 19 = .ok (.aload_n 0, 1) := by decide +kernel
theorem dX7_unassign_20 : decode cX7_unassign 20 = .ok (.iload_n 1, 1) := by decide +kernel
theorem dX7_unassign_21 : decode cX7_unassign 21 = .ok (.iconst 3, 1) := by decide +kernel
theorem dX7_unassign_22 : decode cX7_unassign 22 = .ok (.invokevirtual 49, 3) := by decide +kernel
theorem dX7_unassign_25 : decode cX7_unassign 25 = .ok (.istore_n 2, 1) := by decide +kernel
theorem dX7_unassign_26 : decode cX7_unassign 26 = .ok (.iload_n 2, 1) := by decide +kernel
theorem dX7_unassign_27 : decode cX7_unassign 27 = .ok (.ifCond .eq 12, 3) := by decide +kernel
theorem dX7_unassign_30 : decode cX7_unassign 30 = .ok (.aload_n 0, 1) := by decide +kernel
theorem dX7_unassign_31 : decode cX7_unassign 31 = .ok (.iload_n 1, 1) := by decide +kernel
theorem dX7_unassign_32 : decode cX7_unassign 32 = .ok (.iconst 2, 1) := by decide +kernel
theorem dX7_unassign_33 : decode cX7_unassign 33 = .ok (.invokevirtual 49, 3) := by decide +kernel
theorem dX7_unassign_36 : decode cX7_unassign 36 = .ok (.ifCond .eq 9, 3) := by decide +kernel
theorem dX7_unassign_39 : decode cX7_unassign 39 = .ok (.aload_n 0, 1) := by decide +kernel
theorem dX7_unassign_40 : decode cX7_unassign 40 = .ok (.iconst 2, 1) := by decide +kernel
theorem dX7_unassign_41 : decode cX7_unassign 41 = .ok (.invokevirtual 76, 3) := by decide +kernel
theorem dX7_unassign_44 : decode cX7_unassign 44 = .ok (.ireturn, 1) := by decide +kernel
theorem dX7_unassign_45 : decode cX7_unassign 45 = .ok (.aload_n 0, 1) := by decide +kernel
theorem dX7_unassign_46 : decode cX7_unassign 46 = .ok (.invokevirtual 79, 3) := by decide +kernel
theorem dX7_unassign_49 : decode cX7_unassign 49 = .ok (.aload_n 0, 1) := by decide +kernel
theorem dX7_unassign_50 : decode cX7_unassign 50 = .ok (.iload_n 1, 1) := by decide +kernel
theorem dX7_unassign_51 : decode cX7_unassign 51 = .ok (.iconst 3, 1) := by decide +kernel
theorem dX7_unassign_52 : decode cX7_unassign 52 = .ok (.iconst 0, 1) := by decide +kernel
theorem dX7_unassign_53 : decode cX7_unassign 53 = .ok (.invokevirtual 72, 3) := by decide +kernel
theorem dX7_unassign_56 : decode cX7_unassign 56 = .ok (.iload_n 2, 1) := by decide +kernel
theorem dX7_unassign_57 : decode cX7_unassign 57 = .ok (.iconst 1, 1) := by decide +kernel
theorem dX7_unassign_58 : decode cX7_unassign 58 = .ok (.isub, 1) := by decide +kernel
theorem dX7_unassign_59 : decode cX7_unassign 59 = .ok (.ireturn, 1) := by decide +kernel
theorem dX7_changeCapacity_0 : decode cX7_changeCapacity 0 = .ok (.aload_n 0, 1) := by decide +kernel
theorem dX7_changeCapacity_1 : decode cX7_changeCapacity 1 = .ok (.iconst 0, 1) := by decide +kernel
theorem dX7_changeCapacity_2 : decode cX7_changeCapacity 2 = .ok (.putfield 38, 3) := by decide +kernel
theorem dX7_changeCapacity_5 : decode cX7_changeCapacity 5 = .ok (.iload_n 1, 1) := by decide +kernel
theorem dX7_changeCapacity_6 : decode cX7_changeCapacity 6 = .ok (.invokestatic 107, 3) := by decide +kernel
theorem dX7_changeCapacity_9 : decode cX7_changeCapacity 9 = .ok (.ifCond .ne 9, 3) := by decide +kernel
theorem dX7_changeCapacity_12 : decode cX7_changeCapacity 12 = .ok (.aload_n 0, 1) := by decide +kernel
theorem dX7_changeCapacity_13 : decode cX7_changeCapacity 13 = .ok (.iconst 1, 1) := by decide +kernel
theorem dX7_changeCapacity_14 : decode cX7_changeCapacity 14 = .ok (.invokevirtual 76, 3) := by decide +kernel
theorem dX7_changeCapacity_17 : decode cX7_changeCapacity 17 = .ok (.ireturn, 1) := by decide +kernel
theorem dX7_changeCapacity_18 : decode cX7_changeCapacity 18 = .ok (.iload_n 2, 1) := by decide +kernel
theorem dX7_changeCapacity_19 : decode cX7_changeCapacity 19 = .ok (.iconst 0, 1) := by decide +kernel
theorem dX7_changeCapacity_20 : decode cX7_changeCapacity 20 = .ok (.bipush 99, 2) := by decide +kernel
theorem dX7_changeCapacity_22 : decode cX7_changeCapacity 22 = .ok (.invokestatic 42, 3) := by decide +kernel
theorem dX7_changeCapacity_25 : decode cX7_changeCapacity 25 = .ok (.ifCond .ne 9, 3) := by decide +kernel
theorem dX7_changeCapacity_28 : decode cX7_changeCapacity 28 = .ok (.aload_n 0, 1) := by decide +kernel
theorem dX7_changeCapacity_29 : decode cX7_changeCapacity 29 = .ok (.iconst 2, 1) := by decide +kernel
theorem dX7_changeCapacity_30 : decode cX7_changeCapacity 30 = .ok (.invokevirtual 76, 3) := by decide +kernel
theorem dX7_changeCapacity_33 : decode cX7_changeCapacity 33 = .ok (.ireturn, 1) := by decide +kernel
theorem dX7_changeCapacity_34 : decode cX7_changeCapacity 34 = .ok (.aload_n 0, 1) := by decide +kernel
theorem dX7_changeCapacity_35 : decode cX7_changeCapacity 35 = .ok (.iload_n 1, 1) := by decide +kernel
theorem dX7_changeCapacity_36 : decode cX7_changeCapacity 36 = .ok (.invokevirtual 69, 3) := by decide +kernel
theorem dX7_changeCapacity_39 : decode cX7_changeCapacity 39 = .ok (.iload_n 2, 1) := by decide +kernel
theorem dX7_changeCapacity_40 : decode cX7_changeCapacity 40 = .ok (.if_icmp .le 9, 3) := by decide +kernel
theorem dX7_changeCapacity_43 : decode cX7_changeCapacity 43 = .ok (.aload_n 0, 1) := by decide +kernel
theorem dX7_changeCapacity_44 : decode cX7_changeCapacity 44 = .ok (.iconst 3, 1) := by decide +kernel
theorem dX7_changeCapacity_45 : decode cX7_changeCapacity 45 = .ok (.invokevirtual 76, 3) := by decide +kernel
theorem dX7_changeCapacity_48 : decode cX7_changeCapacity 48 = .ok (.ireturn, 1) := by decide +kernel
theorem dX7_changeCapacity_49 : decode cX7_changeCapacity 49 = .ok (.aload_n 0, 1) := by decide +kernel
theorem dX7_changeCapacity_50 : decode cX7_changeCapacity 50 = .ok (.invokevirtual 79, 3) := by decide +kernel
theorem dX7_changeCapacity_53 : decode cX7_changeCapacity 53 = .ok (.aload_n 0, 1) := by decide +kernel
theorem dX7_changeCapacity_54 : decode cX7_changeCapacity 54 = .ok (.getfield 7, 3) := by decide +kernel
theorem dX7_changeCapacity_57 : decode cX7_changeCapacity 57 = .ok (.iconst 4, 1) := by decide +kernel
theorem dX7_changeCapacity_58 : decode cX7_changeCapacity 58 = .ok (.iload_n 1, 1) := by decide +kernel
theorem dX7_changeCapacity_59 : decode cX7_changeCapacity 59 = .ok (.iadd, 1) := by decide +kernel
theorem dX7_changeCapacity_60 : decode cX7_changeCapacity 60 = .ok (.iaload, 1) := by decide +kernel
theorem dX7_changeCapacity_61 : decode cX7_changeCapacity 61 = .ok (.istore_n 3, 1) := by decide +kernel
theorem dX7_changeCapacity_62 : decode cX7_changeCapacity 62 = .ok (.aload_n 0, 1) := by decide +kernel
theorem dX7_changeCapacity_63 : decode cX7_changeCapacity 63 = .ok (.getfield 7, 3) := by decide +kernel
theorem dX7_changeCapacity_66 : decode cX7_changeCapacity 66 = .ok (.iconst 4, 1) := by decide +kernel
theorem dX7_changeCapacity_67 : decode cX7_changeCapacity 67 = .ok (.iload_n 1, 1) := by decide +kernel
theorem dX7_changeCapacity_68 : decode cX7_changeCapacity 68 = .ok (.iadd, 1) := by decide +kernel
theorem dX7_changeCapacity_69 : decode cX7_changeCapacity 69 = .ok (.iload_n 2, 1) := by decide +kernel
theorem dX7_changeCapacity_70 : decode cX7_changeCapacity 70 = .ok (.iastore, 1) := by decide +kernel
theorem dX7_changeCapacity_71 : decode cX7_changeCapacity 71 = .ok (.iload_n 3, 1) := by decide +kernel
theorem dX7_changeCapacity_72 : decode cX7_changeCapacity 72 = .ok (.ireturn, 1) := by decide +kernel
theorem dX7_plan_0 : decode cX7_plan 0 = .ok (.aload_n 0, 1) := by decide +kernel
theorem dX7_plan_1 : decode cX7_plan 1 = .ok (.iconst 0, 1) := by decide +kernel
theorem dX7_plan_2 : decode cX7_plan 2 = .ok (.putfield 38, 3) := by decide +kernel
theorem dX7_plan_5 : decode cX7_plan 5 = .ok (.aload_n 0, 1) := by decide +kernel
theorem dX7_plan_6 : decode cX7_plan 6 = .ok (.iload_n 1, 1) := by decide +kernel
theorem dX7_plan_7 : decode cX7_plan 7 = .ok (.invokevirtual 85, 3) := by decide +kernel
theorem dX7_plan_10 : decode cX7_plan 10 = .ok (.ifCond .eq 10, 3) := by decide +kernel
theorem dX7_plan_13 : decode cX7_plan 13 = .ok (.iload_n 2, 1) := by decide +kernel
theorem dX7_plan_14 : decode cX7_plan 14 = .ok (.invokestatic 116, 3) := by decide +kernel
theorem dX7_plan_17 : decode cX7_plan 17 = .ok (.ifCond .ne 9, 3) := by decide +kernel
theorem dX7_plan_20 : decode cX7_plan 20 = .ok (.aload_n 0, 1) := by decide +kernel
theorem dX7_plan_21 : decode cX7_plan 21 = .ok (.iconst 1, 1) := by decide +kernel
theorem dX7_plan_22 : decode cX7_plan 22 = .ok (.invokevirtual 76, 3) := by decide +kernel
theorem dX7_plan_25 : decode cX7_plan 25 = .ok (.ireturn, 1) := by decide +kernel
theorem dX7_plan_26 : decode cX7_plan 26 = .ok (.aload_n 0, 1) := by decide +kernel
theorem dX7_plan_27 : decode cX7_plan 27 = .ok (.iload_n 1, 1) := by decide +kernel
theorem dX7_plan_28 : decode cX7_plan 28 = .ok (.invokevirtual 53, 3) := by decide +kernel
theorem dX7_plan_31 : decode cX7_plan 31 = .ok (.ifCond .eq 15, 3) := by decide +kernel
theorem dX7_plan_34 : decode cX7_plan 34 = .ok (.aload_n 0, 1) := by decide +kernel
theorem dX7_plan_35 : decode cX7_plan 35 = .ok (.iload_n 1, 1) := by decide +kernel
theorem dX7_plan_36 : decode cX7_plan 36 = .ok (.iconst 4, 1) := by decide +kernel
theorem dX7_plan_37 : decode cX7_plan 37 = .ok (.invokevirtual 49, 3) := by decide +kernel
theorem dX7_plan_40 : decode cX7_plan 40 = .ok (.iload_n 2, 1) := by decide +kernel
theorem dX7_plan_41 : decode cX7_plan 41 = .ok (.iconst 1, 1) := by decide +kernel
theorem dX7_plan_42 : decode cX7_plan 42 = .ok (.iadd, 1) := by decide +kernel
theorem dX7_plan_43 : decode cX7_plan 43 = .ok (.if_icmp .ne 9, 3) := by decide +kernel
theorem dX7_plan_46 : decode cX7_plan 46 = .ok (.aload_n 0, 1) := by decide +kernel
theorem dX7_plan_47 : decode cX7_plan 47 = .ok (.iconst 2, 1) := by decide +kernel
theorem dX7_plan_48 : decode cX7_plan 48 = .ok (.invokevirtual 76, 3) := by decide +kernel
theorem dX7_plan_51 : decode cX7_plan 51 = .ok (.ireturn, 1) := by decide +kernel
theorem dX7_plan_52 : decode cX7_plan 52 = .ok (.aload_n 0, 1) := by decide +kernel
theorem dX7_plan_53 : decode cX7_plan 53 = .ok (.invokevirtual 79, 3) := by decide +kernel
theorem dX7_plan_56 : decode cX7_plan 56 = .ok (.aload_n 0, 1) := by decide +kernel
theorem dX7_plan_57 : decode cX7_plan 57 = .ok (.iload_n 1, 1) := by decide +kernel
theorem dX7_plan_58 : decode cX7_plan 58 = .ok (.iconst 4, 1) := by decide +kernel
theorem dX7_plan_59 : decode cX7_plan 59 = .ok (.iload_n 2, 1) := by decide +kernel
theorem dX7_plan_60 : decode cX7_plan 60 = .ok (.iconst 1, 1) := by decide +kernel
theorem dX7_plan_61 : decode cX7_plan 61 = .ok (.iadd, 1) := by decide +kernel
theorem dX7_plan_62 : decode cX7_plan 62 = .ok (.invokevirtual 72, 3) := by decide +kernel
theorem dX7_plan_65 : decode cX7_plan 65 = .ok (.aload_n 0, 1) := by decide +kernel
theorem dX7_plan_66 : decode cX7_plan 66 = .ok (.iload_n 2, 1) := by decide +kernel
theorem dX7_plan_67 : decode cX7_plan 67 = .ok (.invokevirtual 119, 3) := by decide +kernel
theorem dX7_plan_70 : decode cX7_plan 70 = .ok (.ireturn, 1) := by decide +kernel
theorem dX7_unplan_0 : decode cX7_unplan 0 = .ok (.aload_n 0, 1) := by decide +kernel
theorem dX7_unplan_1 : decode cX7_unplan 1 = .ok (.iconst 0, 1) := by decide +kernel
theorem dX7_unplan_2 : decode cX7_unplan 2 = .ok (.putfield 38, 3) := by decide +kernel
theorem dX7_unplan_5 : decode cX7_unplan 5 = .ok (.aload_n 0, 1) := by decide +kernel
theorem dX7_unplan_6 : decode cX7_unplan 6 = .ok (.iload_n 1, 1) := by decide +kernel
theorem dX7_unplan_7 : decode cX7_unplan 7 = .ok (.invokevirtual 85, 3) := by decide +kernel
theorem dX7_unplan_10 : decode cX7_unplan 10 = .ok (.ifCond .ne 9, 3) := by decide +kernel
theorem dX7_unplan_13 : decode cX7_unplan 13 = .ok (.aload_n 0, 1) := by decide +kernel
theorem dX7_unplan_14 : decode cX7_unplan 14 = .ok (.iconst 1, 1) := by decide +kernel
theorem dX7_unplan_15 : decode cX7_unplan 15 = .ok (.invokevirtual 76, 3) := by decide +kernel
theorem dX7_unplan_18 : decode cX7_unplan 18 = .ok (.ireturn, 1) := by decide +kernel
theorem dX7_unplan_19 : decode cX7_unplan 19 = .ok (.aload_n 0, 1) := by decide +kernel
theorem dX7_unplan_20 : decode cX7_unplan 20 = .ok (.iload_n 1, 1) := by decide +kernel
theorem dX7_unplan_21 : decode cX7_unplan 21 = .ok (.iconst 4, 1) := by decide +kernel
theorem dX7_unplan_22 : decode cX7_unplan 22 = .ok (.invokevirtual 49, 3) := by decide +kernel
theorem dX7_unplan_25 : decode cX7_unplan 25 = .ok (.istore_n 2, 1) := by decide +kernel
theorem dX7_unplan_26 : decode cX7_unplan 26 = .ok (.iload_n 2, 1) := by decide +kernel
theorem dX7_unplan_27 : decode cX7_unplan 27 = .ok (.ifCond .eq 11, 3) := by decide +kernel
theorem dX7_unplan_30 : decode cX7_unplan 30 = .ok (.aload_n 0, 1) := by decide +kernel
theorem dX7_unplan_31 : decode cX7_unplan 31 = .ok (.iload_n 1, 1) := by decide +kernel
theorem dX7_unplan_32 : decode cX7_unplan 32 = .ok (.invokevirtual 53, 3) := by decide +kernel
theorem dX7_unplan_35 : decode cX7_unplan 35 = .ok (.ifCond .ne 9, 3) := by decide +kernel
theorem dX7_unplan_38 : decode cX7_unplan 38 = .ok (.aload_n 0, 1) := by decide +kernel
theorem dX7_unplan_39 : decode cX7_unplan 39 = .ok (.iconst 2, 1) := by decide +kernel
theorem dX7_unplan_40 : decode cX7_unplan 40 = .ok (.invokevirtual 76, 3) := by decide +kernel
theorem dX7_unplan_43 : decode cX7_unplan 43 = .ok (.ireturn, 1) := by decide +kernel
theorem dX7_unplan_44 : decode cX7_unplan 44 = .ok (.aload_n 0, 1) := by decide +kernel
theorem dX7_unplan_45 : decode cX7_unplan 45 = .ok (.invokevirtual 79, 3) := by decide +kernel
theorem dX7_unplan_48 : decode cX7_unplan 48 = .ok (.aload_n 0, 1) := by decide +kernel
theorem dX7_unplan_49 : decode cX7_unplan 49 = .ok (.iload_n 1, 1) := by decide +kernel
theorem dX7_unplan_50 : decode cX7_unplan 50 = .ok (.iconst 4, 1) := by decide +kernel
theorem dX7_unplan_51 : decode cX7_unplan 51 = .ok (.iconst 0, 1) := by decide +kernel
theorem dX7_unplan_52 : decode cX7_unplan 52 = .ok (.invokevirtual 72, 3) := by decide +kernel
theorem dX7_unplan_55 : decode cX7_unplan 55 = .ok (.iload_n 2, 1) := by decide +kernel
theorem dX7_unplan_56 : decode cX7_unplan 56 = .ok (.iconst 1, 1) := by decide +kernel
theorem dX7_unplan_57 : decode cX7_unplan 57 = .ok (.isub, 1) := by decide +kernel
theorem dX7_unplan_58 : decode cX7_unplan 58 = .ok (.ireturn, 1) := by decide +kernel
theorem dX7_changeDate_0 : decode cX7_changeDate 0 = .ok (.aload_n 0, 1) := by decide +kernel
theorem dX7_changeDate_1 : decode cX7_changeDate 1 = .ok (.iconst 0, 1) := by decide +kernel
theorem dX7_changeDate_2 : decode cX7_changeDate 2 = .ok (.putfield 38, 3) := by decide +kernel
theorem dX7_changeDate_5 : decode cX7_changeDate 5 = .ok (.iload_n 1, 1) := by decide +kernel
theorem dX7_changeDate_6 : decode cX7_changeDate 6 = .ok (.invokestatic 116, 3) := by decide +kernel
theorem dX7_changeDate_9 : decode cX7_changeDate 9 = .ok (.ifCond .ne 9, 3) := by decide +kernel
theorem dX7_changeDate_12 : decode cX7_changeDate 12 = .ok (.aload_n 0, 1) := by decide +kernel
theorem dX7_changeDate_13 : decode cX7_changeDate 13 = .ok (.iconst 1, 1) := by decide +kernel
theorem dX7_changeDate_14 : decode cX7_changeDate 14 = .ok (.invokevirtual 76, 3) := by decide +kernel
theorem dX7_changeDate_17 : decode cX7_changeDate 17 = .ok (.ireturn, 1) := by decide +kernel
theorem dX7_changeDate_18 : decode cX7_changeDate 18 = .ok (.iload_n 2, 1) := by decide +kernel
theorem dX7_changeDate_19 : decode cX7_changeDate 19 = .ok (.iconst 0, 1) := by decide +kernel
theorem dX7_changeDate_20 : decode cX7_changeDate 20 = .ok (.sipush 999, 3) := by decide +kernel
theorem dX7_changeDate_23 : decode cX7_changeDate 23 = .ok (.invokestatic 42, 3) := by decide +kernel
theorem dX7_changeDate_26 : decode cX7_changeDate 26 = .ok (.ifCond .ne 9, 3) := by decide +kernel
theorem dX7_changeDate_29 : decode cX7_changeDate 29 = .ok (.aload_n 0, 1) := by decide +kernel
theorem dX7_changeDate_30 : decode cX7_changeDate 30 = .ok (.iconst 2, 1) := by decide +kernel
theorem dX7_changeDate_31 : decode cX7_changeDate 31 = .ok (.invokevirtual 76, 3) := by decide +kernel
theorem dX7_changeDate_34 : decode cX7_changeDate 34 = .ok (.ireturn, 1) := by decide +kernel
theorem dX7_changeDate_35 : decode cX7_changeDate 35 = .ok (.aload_n 0, 1) := by decide +kernel
theorem dX7_changeDate_36 : decode cX7_changeDate 36 = .ok (.invokevirtual 79, 3) := by decide +kernel
theorem dX7_changeDate_39 : decode cX7_changeDate 39 = .ok (.aload_n 0, 1) := by decide +kernel
theorem dX7_changeDate_40 : decode cX7_changeDate 40 = .ok (.getfield 7, 3) := by decide +kernel
theorem dX7_changeDate_43 : decode cX7_changeDate 43 = .ok (.bipush 9, 2) := by decide +kernel
theorem dX7_changeDate_45 : decode cX7_changeDate 45 = .ok (.iload_n 1, 1) := by decide +kernel
theorem dX7_changeDate_46 : decode cX7_changeDate 46 = .ok (.iadd, 1) := by decide +kernel
theorem dX7_changeDate_47 : decode cX7_changeDate 47 = .ok (.iaload, 1) := by decide +kernel
theorem dX7_changeDate_48 : decode cX7_changeDate 48 = .ok (.istore_n 3, 1) := by decide +kernel
theorem dX7_changeDate_49 : decode cX7_changeDate 49 = .ok (.aload_n 0, 1) := by decide +kernel
theorem dX7_changeDate_50 : decode cX7_changeDate 50 = .ok (.getfield 7, 3) := by decide +kernel
theorem dX7_changeDate_53 : decode cX7_changeDate 53 = .ok (.bipush 9, 2) := by decide +kernel
theorem dX7_changeDate_55 : decode cX7_changeDate 55 = .ok (.iload_n 1, 1) := by decide +kernel
theorem dX7_changeDate_56 : decode cX7_changeDate 56 = .ok (.iadd, 1) := by decide +kernel
theorem dX7_changeDate_57 : decode cX7_changeDate 57 = .ok (.iload_n 2, 1) := by decide +kernel
theorem dX7_changeDate_58 : decode cX7_changeDate 58 = .ok (.iastore, 1) := by decide +kernel
theorem dX7_changeDate_59 : decode cX7_changeDate 59 = .ok (.iload_n 3, 1) := by decide +kernel
theorem dX7_changeDate_60 : decode cX7_changeDate 60 = .ok (.ireturn, 1) := by decide +kernel
theorem dX7_ends_0 : decode cX7_ends 0 = .ok (.aload_n 0, 1) := by decide +kernel
theorem dX7_ends_1 : decode cX7_ends 1 = .ok (.getfield 7, 3) := by decide +kernel
theorem dX7_ends_4 : decode cX7_ends 4 = .ok (.iconst 1, 1) := by decide +kernel
theorem dX7_ends_5 : decode cX7_ends 5 = .ok (.dup2, 1) := by decide +kernel
theorem dX7_ends_6 : decode cX7_ends 6 = .ok (.iaload, 1) := by decide +kernel
theorem dX7_ends_7 : decode cX7_ends 7 = .ok (.iload_n 1, 1) := by decide +kernel
theorem dX7_ends_8 : decode cX7_ends 8 = .ok (.iadd, 1) := by decide +kernel
theorem dX7_ends_9 : decode cX7_ends 9 = .ok (.iastore, 1) := by decide +kernel
theorem dX7_ends_10 : decode cX7_ends 10 = .ok (.iconst 0, 1) := by decide +kernel
theorem dX7_ends_11 : decode cX7_ends 11 = .ok (.istore_n 2, 1) := by decide +kernel
theorem dX7_ends_12 : decode cX7_ends 12 = .ok (.iload_n 2, 1) := by decide +kernel
theorem dX7_ends_13 : decode cX7_ends 13 = .ok (.aload_n 0, 1) := by decide +kernel
theorem dX7_ends_14 : decode cX7_ends 14 = .ok (.getfield 7, 3) := by decide +kernel
theorem dX7_ends_17 : decode cX7_ends 17 = .ok (.iconst 0, 1) := by decide +kernel
theorem dX7_ends_18 : decode cX7_ends 18 = .ok (.iaload, 1) := by decide +kernel
theorem dX7_ends_19 : decode cX7_ends 19 = .ok (.if_icmp .ge 39, 3) := by decide +kernel
theorem dX7_ends_22 : decode cX7_ends 22 = .ok (.aload_n 0, 1) := by decide +kernel
theorem dX7_ends_23 : decode cX7_ends 23 = .ok (.iload_n 2, 1) := by decide +kernel
theorem dX7_ends_24 : decode cX7_ends 24 = .ok (.bipush 7, 2) := by decide +kernel
theorem dX7_ends_26 : decode cX7_ends 26 = .ok (.aload_n 0, 1) := by decide +kernel
theorem dX7_ends_27 : decode cX7_ends 27 = .ok (.iload_n 2, 1) := by decide +kernel
theorem dX7_ends_28 : decode cX7_ends 28 = .ok (.bipush 7, 2) := by decide +kernel
theorem dX7_ends_30 : decode cX7_ends 30 = .ok (.invokevirtual 49, 3) := by decide +kernel
theorem dX7_ends_33 : decode cX7_ends 33 = .ok (.aload_n 0, 1) := by decide +kernel
theorem dX7_ends_34 : decode cX7_ends 34 = .ok (.iload_n 2, 1) := by decide +kernel
theorem dX7_ends_35 : decode cX7_ends 35 = .ok (.iconst 2, 1) := by decide +kernel
theorem dX7_ends_36 : decode cX7_ends 36 = .ok (.invokevirtual 49, 3) := by decide +kernel
theorem dX7_ends_39 : decode cX7_ends 39 = .ok (.iconst 1, 1) := by decide +kernel
theorem dX7_ends_40 : decode cX7_ends 40 = .ok (.if_icmp .ne 7, 3) := by decide +kernel
theorem dX7_ends_43 : decode cX7_ends 43 = .ok (.iload_n 1, 1) := by decide +kernel
theorem dX7_ends_44 : decode cX7_ends 44 = .ok (.goto 4, 3) := by decide +kernel
theorem dX7_ends_47 : decode cX7_ends 47 = .ok (.iconst 0, 1) := by decide +kernel
theorem dX7_ends_48 : decode cX7_ends 48 = .ok (.iadd, 1) := by decide +kernel
theorem dX7_ends_49 : decode cX7_ends 49 = .ok (.invokevirtual 72, 3) := by decide +kernel
theorem dX7_ends_52 : decode cX7_ends 52 = .ok (.iinc 2 1, 3) := by decide +kernel
theorem dX7_ends_55 : decode cX7_ends 55 = .ok (.goto (-43), 3) := by decide +kernel
theorem dX7_ends_58 : decode cX7_ends 58 = .ok (.aload_n 0, 1) := by decide +kernel
theorem dX7_ends_59 : decode cX7_ends 59 = .ok (.getfield 7, 3) := by decide +kernel
theorem dX7_ends_62 : decode cX7_ends 62 = .ok (.iconst 1, 1) := by decide +kernel
theorem dX7_ends_63 : decode cX7_ends 63 = .ok (.iaload, 1) := by decide +kernel
theorem dX7_ends_64 : decode cX7_ends 64 = .ok (.ireturn, 1) := by decide +kernel
theorem dX7_endDays_0 : decode cX7_endDays 0 = .ok (.aload_n 0, 1) := by decide +kernel
theorem dX7_endDays_1 : decode cX7_endDays 1 = .ok (.iconst 0, 1) := by decide +kernel
theorem dX7_endDays_2 : decode cX7_endDays 2 = .ok (.putfield 38, 3) := by decide +kernel
theorem dX7_endDays_5 : decode cX7_endDays 5 = .ok (.iload_n 1, 1) := by decide +kernel
theorem dX7_endDays_6 : decode cX7_endDays 6 = .ok (.iconst 1, 1) := by decide +kernel
theorem dX7_endDays_7 : decode cX7_endDays 7 = .ok (.bipush 30, 2) := by decide +kernel
theorem dX7_endDays_9 : decode cX7_endDays 9 = .ok (.invokestatic 42, 3) := by decide +kernel
theorem dX7_endDays_12 : decode cX7_endDays 12 = .ok (.ifCond .ne 9, 3) := by decide +kernel
theorem dX7_endDays_15 : decode cX7_endDays 15 = .ok (.aload_n 0, 1) := by decide +kernel
theorem dX7_endDays_16 : decode cX7_endDays 16 = .ok (.iconst 1, 1) := by decide +kernel
theorem dX7_endDays_17 : decode cX7_endDays 17 = .ok (.invokevirtual 76, 3) := by decide +kernel
theorem dX7_endDays_20 : decode cX7_endDays 20 = .ok (.ireturn, 1) := by decide +kernel
theorem dX7_endDays_21 : decode cX7_endDays 21 = .ok (.aload_n 0, 1) := by decide +kernel
theorem dX7_endDays_22 : decode cX7_endDays 22 = .ok (.getfield 7, 3) := by decide +kernel
theorem dX7_endDays_25 : decode cX7_endDays 25 = .ok (.iconst 1, 1) := by decide +kernel
theorem dX7_endDays_26 : decode cX7_endDays 26 = .ok (.iaload, 1) := by decide +kernel
theorem dX7_endDays_27 : decode cX7_endDays 27 = .ok (.iload_n 1, 1) := by decide +kernel
theorem dX7_endDays_28 : decode cX7_endDays 28 = .ok (.iadd, 1) := by decide +kernel
theorem dX7_endDays_29 : decode cX7_endDays 29 = .ok (.sipush 999, 3) := by decide +kernel
theorem dX7_endDays_32 : decode cX7_endDays 32 = .ok (.if_icmp .le 9, 3) := by decide +kernel
theorem dX7_endDays_35 : decode cX7_endDays 35 = .ok (.aload_n 0, 1) := by decide +kernel
theorem dX7_endDays_36 : decode cX7_endDays 36 = .ok (.iconst 2, 1) := by decide +kernel
theorem dX7_endDays_37 : decode cX7_endDays 37 = .ok (.invokevirtual 76, 3) := by decide +kernel
theorem dX7_endDays_40 : decode cX7_endDays 40 = .ok (.ireturn, 1) := by decide +kernel
theorem dX7_endDays_41 : decode cX7_endDays 41 = .ok (.aload_n 0, 1) := by decide +kernel
theorem dX7_endDays_42 : decode cX7_endDays 42 = .ok (.invokevirtual 79, 3) := by decide +kernel
theorem dX7_endDays_45 : decode cX7_endDays 45 = .ok (.aload_n 0, 1) := by decide +kernel
theorem dX7_endDays_46 : decode cX7_endDays 46 = .ok (.iload_n 1, 1) := by decide +kernel
theorem dX7_endDays_47 : decode cX7_endDays 47 = .ok (.invokevirtual 122, 3) := by decide +kernel
theorem dX7_endDays_50 : decode cX7_endDays 50 = .ok (.ireturn, 1) := by decide +kernel
theorem dX7_canStart_0 : decode cX7_canStart 0 = .ok (.aload_n 0, 1) := by decide +kernel
theorem dX7_canStart_1 : decode cX7_canStart 1 = .ok (.iload_n 1, 1) := by decide +kernel
theorem dX7_canStart_2 : decode cX7_canStart 2 = .ok (.iconst 2, 1) := by decide +kernel
theorem dX7_canStart_3 : decode cX7_canStart 3 = .ok (.invokevirtual 49, 3) := by decide +kernel
theorem dX7_canStart_6 : decode cX7_canStart 6 = .ok (.ifCond .ne 16, 3) := by decide +kernel
theorem dX7_canStart_9 : decode cX7_canStart 9 = .ok (.aload_n 0, 1) := by decide +kernel
theorem dX7_canStart_10 : decode cX7_canStart 10 = .ok (.iload_n 1, 1) := by decide +kernel
theorem dX7_canStart_11 : decode cX7_canStart 11 = .ok (.iconst 3, 1) := by decide +kernel
theorem dX7_canStart_12 : decode cX7_canStart 12 = .ok (.invokevirtual 49, 3) := by decide +kernel
theorem dX7_canStart_15 : decode cX7_canStart 15 = .ok (.ifCond .le 7, 3) := by decide +kernel
theorem dX7_canStart_18 : decode cX7_canStart 18 = .ok (.iconst 1, 1) := by decide +kernel
theorem dX7_canStart_19 : decode cX7_canStart 19 = .ok (.goto 4, 3) := by decide +kernel
theorem dX7_canStart_22 : decode cX7_canStart 22 = .ok (.iconst 0, 1) := by decide +kernel
theorem dX7_canStart_23 : decode cX7_canStart 23 = .ok (.ireturn, 1) := by decide +kernel
theorem dX7_start_0 : decode cX7_start 0 = .ok (.aload_n 0, 1) := by decide +kernel
theorem dX7_start_1 : decode cX7_start 1 = .ok (.iconst 0, 1) := by decide +kernel
theorem dX7_start_2 : decode cX7_start 2 = .ok (.putfield 38, 3) := by decide +kernel
theorem dX7_start_5 : decode cX7_start 5 = .ok (.aload_n 0, 1) := by decide +kernel
theorem dX7_start_6 : decode cX7_start 6 = .ok (.iload_n 1, 1) := by decide +kernel
theorem dX7_start_7 : decode cX7_start 7 = .ok (.invokevirtual 85, 3) := by decide +kernel
theorem dX7_start_10 : decode cX7_start 10 = .ok (.ifCond .ne 9, 3) := by decide +kernel
theorem dX7_start_13 : decode cX7_start 13 = .ok (.aload_n 0, 1) := by decide +kernel
theorem dX7_start_14 : decode cX7_start 14 = .ok (.iconst 1, 1) := by decide +kernel
theorem dX7_start_15 : decode cX7_start 15 = .ok (.putfield 38, 3) := by decide +kernel
theorem dX7_start_18 : decode cX7_start 18 = .ok (.return_, 1) := by decide +kernel
theorem dX7_start_19 : decode cX7_start 19 = .ok (.aload_n 0, 1) := by decide +kernel
theorem dX7_start_20 : decode cX7_start 20 = .ok (.iload_n 1, 1) := by decide +kernel
theorem dX7_start_21 : decode cX7_start 21 = .ok (.invokevirtual 125, 3) := by decide +kernel
theorem dX7_start_24 : decode cX7_start 24 = .ok (.ifCond .ne 9, 3) := by decide +kernel
theorem dX7_start_27 : decode cX7_start 27 = .ok (.aload_n 0, 1) := by decide +kernel
theorem dX7_start_28 : decode cX7_start 28 = .ok (.iconst 2, 1) := by decide +kernel
theorem dX7_start_29 : decode cX7_start 29 = .ok (.putfield 38, 3) := by decide +kernel
theorem dX7_start_32 : decode cX7_start 32 = .ok (.return_, 1) := by decide +kernel
theorem dX7_start_33 : decode cX7_start 33 = .ok (.aload_n 0, 1) := by decide +kernel
theorem dX7_start_34 : decode cX7_start 34 = .ok (.invokevirtual 79, 3) := by decide +kernel
theorem dX7_start_37 : decode cX7_start 37 = .ok (.aload_n 0, 1) := by decide +kernel
theorem dX7_start_38 : decode cX7_start 38 = .ok (.iload_n 1, 1) := by decide +kernel
theorem dX7_start_39 : decode cX7_start 39 = .ok (.iconst 2, 1) := by decide +kernel
theorem dX7_start_40 : decode cX7_start 40 = .ok (.iconst 1, 1) := by decide +kernel
theorem dX7_start_41 : decode cX7_start 41 = .ok (.invokevirtual 72, 3) := by decide +kernel
theorem dX7_start_44 : decode cX7_start 44 = .ok (.return_, 1) := by decide +kernel
theorem dX7_submit_0 : decode cX7_submit 0 = .ok (.aload_n 0, 1) := by decide +kernel
theorem dX7_submit_1 : decode cX7_submit 1 = .ok (.iconst 0, 1) := by decide +kernel
theorem dX7_submit_2 : decode cX7_submit 2 = .ok (.putfield 38, 3) := by decide +kernel
theorem dX7_submit_5 : decode cX7_submit 5 = .ok (.aload_n 0, 1) := by decide +kernel
theorem dX7_submit_6 : decode cX7_submit 6 = .ok (.iload_n 1, 1) := by decide +kernel
theorem dX7_submit_7 : decode cX7_submit 7 = .ok (.invokevirtual 85, 3) := by decide +kernel
theorem dX7_submit_10 : decode cX7_submit 10 = .ok (.ifCond .ne 9, 3) := by decide +kernel
theorem dX7_submit_13 : decode cX7_submit 13 = .ok (.aload_n 0, 1) := by decide +kernel
theorem dX7_submit_14 : decode cX7_submit 14 = .ok (.iconst 1, 1) := by decide +kernel
theorem dX7_submit_15 : decode cX7_submit 15 = .ok (.putfield 38, 3) := by decide +kernel
theorem dX7_submit_18 : decode cX7_submit 18 = .ok (.return_, 1) := by decide +kernel
theorem dX7_submit_19 : decode cX7_submit 19 = .ok (.aload_n 0, 1) := by decide +kernel
theorem dX7_submit_20 : decode cX7_submit 20 = .ok (.iload_n 1, 1) := by decide +kernel
theorem dX7_submit_21 : decode cX7_submit 21 = .ok (.iconst 2, 1) := by decide +kernel
theorem dX7_submit_22 : decode cX7_submit 22 = .ok (.invokevirtual 49, 3) := by decide +kernel
theorem dX7_submit_25 : decode cX7_submit 25 = .ok (.iconst 1, 1) := by decide +kernel
theorem dX7_submit_26 : decode cX7_submit 26 = .ok (.if_icmp .eq 9, 3) := by decide +kernel
theorem dX7_submit_29 : decode cX7_submit 29 = .ok (.aload_n 0, 1) := by decide +kernel
theorem dX7_submit_30 : decode cX7_submit 30 = .ok (.iconst 2, 1) := by decide +kernel
theorem dX7_submit_31 : decode cX7_submit 31 = .ok (.putfield 38, 3) := by decide +kernel
theorem dX7_submit_34 : decode cX7_submit 34 = .ok (.return_, 1) := by decide +kernel
theorem dX7_submit_35 : decode cX7_submit 35 = .ok (.aload_n 0, 1) := by decide +kernel
theorem dX7_submit_36 : decode cX7_submit 36 = .ok (.invokevirtual 79, 3) := by decide +kernel
theorem dX7_submit_39 : decode cX7_submit 39 = .ok (.aload_n 0, 1) := by decide +kernel
theorem dX7_submit_40 : decode cX7_submit 40 = .ok (.iload_n 1, 1) := by decide +kernel
theorem dX7_submit_41 : decode cX7_submit 41 = .ok (.iconst 2, 1) := by decide +kernel
theorem dX7_submit_42 : decode cX7_submit 42 = .ok (.iconst 2, 1) := by decide +kernel
theorem dX7_submit_43 : decode cX7_submit 43 = .ok (.invokevirtual 72, 3) := by decide +kernel
theorem dX7_submit_46 : decode cX7_submit 46 = .ok (.return_, 1) := by decide +kernel
theorem dX7_sendBack_0 : decode cX7_sendBack 0 = .ok (.aload_n 0, 1) := by decide +kernel
theorem dX7_sendBack_1 : decode cX7_sendBack 1 = .ok (.iconst 0, 1) := by decide +kernel
theorem dX7_sendBack_2 : decode cX7_sendBack 2 = .ok (.putfield 38, 3) := by decide +kernel
theorem dX7_sendBack_5 : decode cX7_sendBack 5 = .ok (.aload_n 0, 1) := by decide +kernel
theorem dX7_sendBack_6 : decode cX7_sendBack 6 = .ok (.iload_n 1, 1) := by decide +kernel
theorem dX7_sendBack_7 : decode cX7_sendBack 7 = .ok (.invokevirtual 85, 3) := by decide +kernel
theorem dX7_sendBack_10 : decode cX7_sendBack 10 = .ok (.ifCond .ne 9, 3) := by decide +kernel
theorem dX7_sendBack_13 : decode cX7_sendBack 13 = .ok (.aload_n 0, 1) := by decide +kernel
theorem dX7_sendBack_14 : decode cX7_sendBack 14 = .ok (.iconst 1, 1) := by decide +kernel
theorem dX7_sendBack_15 : decode cX7_sendBack 15 = .ok (.invokevirtual 76, 3) := by decide +kernel
theorem dX7_sendBack_18 : decode cX7_sendBack 18 = .ok (.ireturn, 1) := by decide +kernel
theorem dX7_sendBack_19 : decode cX7_sendBack 19 = .ok (.aload_n 0, 1) := by decide +kernel
theorem dX7_sendBack_20 : decode cX7_sendBack 20 = .ok (.iload_n 1, 1) := by decide +kernel
theorem dX7_sendBack_21 : decode cX7_sendBack 21 = .ok (.iconst 2, 1) := by decide +kernel
theorem dX7_sendBack_22 : decode cX7_sendBack 22 = .ok (.invokevirtual 49, 3) := by decide +kernel
theorem dX7_sendBack_25 : decode cX7_sendBack 25 = .ok (.iconst 2, 1) := by decide +kernel
theorem dX7_sendBack_26 : decode cX7_sendBack 26 = .ok (.if_icmp .eq 9, 3) := by decide +kernel
theorem dX7_sendBack_29 : decode cX7_sendBack 29 = .ok (.aload_n 0, 1) := by decide +kernel
theorem dX7_sendBack_30 : decode cX7_sendBack 30 = .ok (.iconst 2, 1) := by decide +kernel
theorem dX7_sendBack_31 : decode cX7_sendBack 31 = .ok (.invokevirtual 76, 3) := by decide +kernel
theorem dX7_sendBack_34 : decode cX7_sendBack 34 = .ok (.ireturn, 1) := by decide +kernel
theorem dX7_sendBack_35 : decode cX7_sendBack 35 = .ok (.aload_n 0, 1) := by decide +kernel
theorem dX7_sendBack_36 : decode cX7_sendBack 36 = .ok (.invokevirtual 79, 3) := by decide +kernel
theorem dX7_sendBack_39 : decode cX7_sendBack 39 = .ok (.aload_n 0, 1) := by decide +kernel
theorem dX7_sendBack_40 : decode cX7_sendBack 40 = .ok (.iload_n 1, 1) := by decide +kernel
theorem dX7_sendBack_41 : decode cX7_sendBack 41 = .ok (.iconst 2, 1) := by decide +kernel
theorem dX7_sendBack_42 : decode cX7_sendBack 42 = .ok (.iconst 1, 1) := by decide +kernel
theorem dX7_sendBack_43 : decode cX7_sendBack 43 = .ok (.invokevirtual 72, 3) := by decide +kernel
theorem dX7_sendBack_46 : decode cX7_sendBack 46 = .ok (.aload_n 0, 1) := by decide +kernel
theorem dX7_sendBack_47 : decode cX7_sendBack 47 = .ok (.iload_n 1, 1) := by decide +kernel
theorem dX7_sendBack_48 : decode cX7_sendBack 48 = .ok (.bipush 8, 2) := by decide +kernel
theorem dX7_sendBack_50 : decode cX7_sendBack 50 = .ok (.aload_n 0, 1) := by decide +kernel
theorem dX7_sendBack_51 : decode cX7_sendBack 51 = .ok (.iload_n 1, 1) := by decide +kernel
theorem dX7_sendBack_52 : decode cX7_sendBack 52 = .ok (.bipush 8, 2) := by decide +kernel
theorem dX7_sendBack_54 : decode cX7_sendBack 54 = .ok (.invokevirtual 49, 3) := by decide +kernel
theorem dX7_sendBack_57 : decode cX7_sendBack 57 = .ok (.iconst 1, 1) := by decide +kernel
theorem dX7_sendBack_58 : decode cX7_sendBack 58 = .ok (.iadd, 1) := by decide +kernel
theorem dX7_sendBack_59 : decode cX7_sendBack 59 = .ok (.invokevirtual 72, 3) := by decide +kernel
theorem dX7_sendBack_62 : decode cX7_sendBack 62 = .ok (.aload_n 0, 1) := by decide +kernel
theorem dX7_sendBack_63 : decode cX7_sendBack 63 = .ok (.iload_n 1, 1) := by decide +kernel
theorem dX7_sendBack_64 : decode cX7_sendBack 64 = .ok (.bipush 8, 2) := by decide +kernel
theorem dX7_sendBack_66 : decode cX7_sendBack 66 = .ok (.invokevirtual 49, 3) := by decide +kernel
theorem dX7_sendBack_69 : decode cX7_sendBack 69 = .ok (.ireturn, 1) := by decide +kernel
theorem dX7_canClose_0 : decode cX7_canClose 0 = .ok (.aload_n 0, 1) := by decide +kernel
theorem dX7_canClose_1 : decode cX7_canClose 1 = .ok (.iload_n 1, 1) := by decide +kernel
theorem dX7_canClose_2 : decode cX7_canClose 2 = .ok (.iconst 2, 1) := by decide +kernel
theorem dX7_canClose_3 : decode cX7_canClose 3 = .ok (.invokevirtual 49, 3) := by decide +kernel
theorem dX7_canClose_6 : decode cX7_canClose 6 = .ok (.iconst 2, 1) := by decide +kernel
theorem dX7_canClose_7 : decode cX7_canClose 7 = .ok (.if_icmp .ne 15, 3) := by decide +kernel
theorem dX7_canClose_10 : decode cX7_canClose 10 = .ok (.aload_n 0, 1) := by decide +kernel
theorem dX7_canClose_11 : decode cX7_canClose 11 = .ok (.iload_n 1, 1) := by decide +kernel
theorem dX7_canClose_12 : decode cX7_canClose 12 = .ok (.invokevirtual 61, 3) := by decide +kernel
theorem dX7_canClose_15 : decode cX7_canClose 15 = .ok (.ifCond .ne 7, 3) := by decide +kernel
theorem dX7_canClose_18 : decode cX7_canClose 18 = .ok (.iconst 1, 1) := by decide +kernel
theorem dX7_canClose_19 : decode cX7_canClose 19 = .ok (.goto 4, 3) := by decide +kernel
theorem dX7_canClose_22 : decode cX7_canClose 22 = .ok (.iconst 0, 1) := by decide +kernel
theorem dX7_canClose_23 : decode cX7_canClose 23 = .ok (.ireturn, 1) := by decide +kernel
theorem dX7_closes_0 : decode cX7_closes 0 = .ok (.aload_n 0, 1) := by decide +kernel
theorem dX7_closes_1 : decode cX7_closes 1 = .ok (.invokevirtual 128, 3) := by decide +kernel
theorem dX7_closes_4 : decode cX7_closes 4 = .ok (.invokestatic 98, 3) := by decide +kernel
theorem dX7_closes_7 : decode cX7_closes 7 = .ok (.istore_n 2, 1) := by decide +kernel
theorem dX7_closes_8 : decode cX7_closes 8 = .ok (.aload_n 0, 1) := by decide +kernel
theorem dX7_closes_9 : decode cX7_closes 9 = .ok (.iload_n 1, 1) := by decide +kernel
theorem dX7_closes_10 : decode cX7_closes 10 = .ok (.iconst 2, 1) := by decide +kernel
theorem dX7_closes_11 : decode cX7_closes 11 = .ok (.iconst 3, 1) := by decide +kernel
theorem dX7_closes_12 : decode cX7_closes 12 = .ok (.invokevirtual 72, 3) := by decide +kernel
theorem dX7_closes_15 : decode cX7_closes 15 = .ok (.aload_n 0, 1) := by decide +kernel
theorem dX7_closes_16 : decode cX7_closes 16 = .ok (.iload_n 1, 1) := by decide +kernel
theorem dX7_closes_17 : decode cX7_closes 17 = .ok (.bipush 6, 2) := by decide +kernel
theorem dX7_closes_19 : decode cX7_closes 19 = .ok (.aload_n 0, 1) := by decide +kernel
theorem dX7_closes_20 : decode cX7_closes 20 = .ok (.getfield 7, 3) := by decide +kernel
theorem dX7_closes_23 : decode cX7_closes 23 = .ok (.iconst 1, 1) := by decide +kernel
theorem dX7_closes_24 : decode cX7_closes 24 = .ok (.iaload, 1) := by decide +kernel
theorem dX7_closes_25 : decode cX7_closes 25 = .ok (.invokevirtual 72, 3) := by decide +kernel
theorem dX7_closes_28 : decode cX7_closes 28 = .ok (.aload_n 0, 1) := by decide +kernel
theorem dX7_closes_29 : decode cX7_closes 29 = .ok (.getfield 7, 3) := by decide +kernel
theorem dX7_closes_32 : decode cX7_closes 32 = .ok (.iconst 2, 1) := by decide +kernel
theorem dX7_closes_33 : decode cX7_closes 33 = .ok (.dup2, 1) := by decide +kernel
theorem dX7_closes_34 : decode cX7_closes 34 = .ok (.iaload, 1) := by decide +kernel
theorem dX7_closes_35 : decode cX7_closes 35 = .ok (.iconst 1, 1) := by decide +kernel
theorem dX7_closes_36 : decode cX7_closes 36 = .ok (.iadd, 1) := by decide +kernel
theorem dX7_closes_37 : decode cX7_closes 37 = .ok (.iastore, 1) := by decide +kernel
theorem dX7_closes_38 : decode cX7_closes 38 = .ok (.iload_n 2, 1) := by decide +kernel
theorem dX7_closes_39 : decode cX7_closes 39 = .ok (.aload_n 0, 1) := by decide +kernel
theorem dX7_closes_40 : decode cX7_closes 40 = .ok (.invokevirtual 128, 3) := by decide +kernel
theorem dX7_closes_43 : decode cX7_closes 43 = .ok (.invokestatic 98, 3) := by decide +kernel
theorem dX7_closes_46 : decode cX7_closes 46 = .ok (.isub, 1) := by decide +kernel
theorem dX7_closes_47 : decode cX7_closes 47 = .ok (.ireturn, 1) := by decide +kernel
theorem dX7_close_0 : decode cX7_close 0 = .ok (.aload_n 0, 1) := by decide +kernel
theorem dX7_close_1 : decode cX7_close 1 = .ok (.iconst 0, 1) := by decide +kernel
theorem dX7_close_2 : decode cX7_close 2 = .ok (.putfield 38, 3) := by decide +kernel
theorem dX7_close_5 : decode cX7_close 5 = .ok (.aload_n 0, 1) := by decide +kernel
theorem dX7_close_6 : decode cX7_close 6 = .ok (.iload_n 1, 1) := by decide +kernel
theorem dX7_close_7 : decode cX7_close 7 = .ok (.invokevirtual 85, 3) := by decide +kernel
theorem dX7_close_10 : decode cX7_close 10 = .ok (.ifCond .ne 9, 3) := by decide +kernel
theorem dX7_close_13 : decode cX7_close 13 = .ok (.aload_n 0, 1) := by decide +kernel
theorem dX7_close_14 : decode cX7_close 14 = .ok (.iconst 1, 1) := by decide +kernel
theorem dX7_close_15 : decode cX7_close 15 = .ok (.invokevirtual 76, 3) := by decide +kernel
theorem dX7_close_18 : decode cX7_close 18 = .ok (.ireturn, 1) := by decide +kernel
theorem dX7_close_19 : decode cX7_close 19 = .ok (.aload_n 0, 1) := by decide +kernel
theorem dX7_close_20 : decode cX7_close 20 = .ok (.iload_n 1, 1) := by decide +kernel
theorem dX7_close_21 : decode cX7_close 21 = .ok (.invokevirtual 131, 3) := by decide +kernel
theorem dX7_close_24 : decode cX7_close 24 = .ok (.ifCond .ne 9, 3) := by decide +kernel
theorem dX7_close_27 : decode cX7_close 27 = .ok (.aload_n 0, 1) := by decide +kernel
theorem dX7_close_28 : decode cX7_close 28 = .ok (.iconst 2, 1) := by decide +kernel
theorem dX7_close_29 : decode cX7_close 29 = .ok (.invokevirtual 76, 3) := by decide +kernel
theorem dX7_close_32 : decode cX7_close 32 = .ok (.ireturn, 1) := by decide +kernel
theorem dX7_close_33 : decode cX7_close 33 = .ok (.aload_n 0, 1) := by decide +kernel
theorem dX7_close_34 : decode cX7_close 34 = .ok (.invokevirtual 79, 3) := by decide +kernel
theorem dX7_close_37 : decode cX7_close 37 = .ok (.aload_n 0, 1) := by decide +kernel
theorem dX7_close_38 : decode cX7_close 38 = .ok (.iload_n 1, 1) := by decide +kernel
theorem dX7_close_39 : decode cX7_close 39 = .ok (.invokevirtual 134, 3) := by decide +kernel
theorem dX7_close_42 : decode cX7_close 42 = .ok (.ireturn, 1) := by decide +kernel
theorem dX7_canReopen_0 : decode cX7_canReopen 0 = .ok (.aload_n 0, 1) := by decide +kernel
theorem dX7_canReopen_1 : decode cX7_canReopen 1 = .ok (.iload_n 1, 1) := by decide +kernel
theorem dX7_canReopen_2 : decode cX7_canReopen 2 = .ok (.iconst 2, 1) := by decide +kernel
theorem dX7_canReopen_3 : decode cX7_canReopen 3 = .ok (.invokevirtual 49, 3) := by decide +kernel
theorem dX7_canReopen_6 : decode cX7_canReopen 6 = .ok (.iconst 3, 1) := by decide +kernel
theorem dX7_canReopen_7 : decode cX7_canReopen 7 = .ok (.if_icmp .ne 26, 3) := by decide +kernel
theorem dX7_canReopen_10 : decode cX7_canReopen 10 = .ok (.aload_n 0, 1) := by decide +kernel
theorem dX7_canReopen_11 : decode cX7_canReopen 11 = .ok (.aload_n 0, 1) := by decide +kernel
theorem dX7_canReopen_12 : decode cX7_canReopen 12 = .ok (.iload_n 1, 1) := by decide +kernel
theorem dX7_canReopen_13 : decode cX7_canReopen 13 = .ok (.iconst 3, 1) := by decide +kernel
theorem dX7_canReopen_14 : decode cX7_canReopen 14 = .ok (.invokevirtual 49, 3) := by decide +kernel
theorem dX7_canReopen_17 : decode cX7_canReopen 17 = .ok (.aload_n 0, 1) := by decide +kernel
theorem dX7_canReopen_18 : decode cX7_canReopen 18 = .ok (.iload_n 1, 1) := by decide +kernel
theorem dX7_canReopen_19 : decode cX7_canReopen 19 = .ok (.iconst 0, 1) := by decide +kernel
theorem dX7_canReopen_20 : decode cX7_canReopen 20 = .ok (.invokevirtual 49, 3) := by decide +kernel
theorem dX7_canReopen_23 : decode cX7_canReopen 23 = .ok (.invokevirtual 88, 3) := by decide +kernel
theorem dX7_canReopen_26 : decode cX7_canReopen 26 = .ok (.ifCond .eq 7, 3) := by decide +kernel
theorem dX7_canReopen_29 : decode cX7_canReopen 29 = .ok (.iconst 1, 1) := by decide +kernel
theorem dX7_canReopen_30 : decode cX7_canReopen 30 = .ok (.goto 4, 3) := by decide +kernel
theorem dX7_canReopen_33 : decode cX7_canReopen 33 = .ok (.iconst 0, 1) := by decide +kernel
theorem dX7_canReopen_34 : decode cX7_canReopen 34 = .ok (.istore_n 2, 1) := by decide +kernel
theorem dX7_canReopen_35 : decode cX7_canReopen 35 = .ok (.iconst 0, 1) := by decide +kernel
theorem dX7_canReopen_36 : decode cX7_canReopen 36 = .ok (.istore_n 3, 1) := by decide +kernel
theorem dX7_canReopen_37 : decode cX7_canReopen 37 = .ok (.iload_n 3, 1) := by decide +kernel
theorem dX7_canReopen_38 : decode cX7_canReopen 38 = .ok (.aload_n 0, 1) := by decide +kernel
theorem dX7_canReopen_39 : decode cX7_canReopen 39 = .ok (.getfield 7, 3) := by decide +kernel
theorem dX7_canReopen_42 : decode cX7_canReopen 42 = .ok (.iconst 0, 1) := by decide +kernel
theorem dX7_canReopen_43 : decode cX7_canReopen 43 = .ok (.iaload, 1) := by decide +kernel
theorem dX7_canReopen_44 : decode cX7_canReopen 44 = .ok (.if_icmp .ge 38, 3) := by decide +kernel
theorem dX7_canReopen_47 : decode cX7_canReopen 47 = .ok (.iload_n 2, 1) := by decide +kernel
theorem dX7_canReopen_48 : decode cX7_canReopen 48 = .ok (.ifCond .eq 26, 3) := by decide +kernel
theorem dX7_canReopen_51 : decode cX7_canReopen 51 = .ok (.aload_n 0, 1) := by decide +kernel
theorem dX7_canReopen_52 : decode cX7_canReopen 52 = .ok (.iload_n 3, 1) := by decide +kernel
theorem dX7_canReopen_53 : decode cX7_canReopen 53 = .ok (.iload_n 1, 1) := by decide +kernel
theorem dX7_canReopen_54 : decode cX7_canReopen 54 = .ok (.invokevirtual 92, 3) := by decide +kernel
theorem dX7_canReopen_57 : decode cX7_canReopen 57 = .ok (.ifCond .eq 13, 3) := by decide +kernel
theorem dX7_canReopen_60 : decode cX7_canReopen 60 = .ok (.aload_n 0, 1) := by decide +kernel
theorem dX7_canReopen_61 : decode cX7_canReopen 61 = .ok (.iload_n 3, 1) := by decide +kernel
theorem dX7_canReopen_62 : decode cX7_canReopen 62 = .ok (.iconst 2, 1) := by decide +kernel
theorem dX7_canReopen_63 : decode cX7_canReopen 63 = .ok (.invokevirtual 49, 3) := by decide +kernel
theorem dX7_canReopen_66 : decode cX7_canReopen 66 = .ok (.iconst 3, 1) := by decide +kernel
theorem dX7_canReopen_67 : decode cX7_canReopen 67 = .ok (.if_icmp .eq 7, 3) := by decide +kernel
theorem dX7_canReopen_70 : decode cX7_canReopen 70 = .ok (.iconst 1, 1) := by decide +kernel
theorem dX7_canReopen_71 : decode cX7_canReopen 71 = .ok (.goto 4, 3) := by decide +kernel
theorem dX7_canReopen_74 : decode cX7_canReopen 74 = .ok (.iconst 0, 1) := by decide +kernel
theorem dX7_canReopen_75 : decode cX7_canReopen 75 = .ok (.istore_n 2, 1) := by decide +kernel
theorem dX7_canReopen_76 : decode cX7_canReopen 76 = .ok (.iinc 3 1, 3) := by decide +kernel
theorem dX7_canReopen_79 : decode cX7_canReopen 79 = .ok (.goto (-42), 3) := by decide +kernel
theorem dX7_canReopen_82 : decode cX7_canReopen 82 = .ok (.iload_n 2, 1) := by decide +kernel
theorem dX7_canReopen_83 : decode cX7_canReopen 83 = .ok (.ireturn, 1) := by decide +kernel
theorem dX7_reopen_0 : decode cX7_reopen 0 = .ok (.aload_n 0, 1) := by decide +kernel
theorem dX7_reopen_1 : decode cX7_reopen 1 = .ok (.iconst 0, 1) := by decide +kernel
theorem dX7_reopen_2 : decode cX7_reopen 2 = .ok (.putfield 38, 3) := by decide +kernel
theorem dX7_reopen_5 : decode cX7_reopen 5 = .ok (.aload_n 0, 1) := by decide +kernel
theorem dX7_reopen_6 : decode cX7_reopen 6 = .ok (.iload_n 1, 1) := by decide +kernel
theorem dX7_reopen_7 : decode cX7_reopen 7 = .ok (.invokevirtual 85, 3) := by decide +kernel
theorem dX7_reopen_10 : decode cX7_reopen 10 = .ok (.ifCond .ne 9, 3) := by decide +kernel
theorem dX7_reopen_13 : decode cX7_reopen 13 = .ok (.aload_n 0, 1) := by decide +kernel
theorem dX7_reopen_14 : decode cX7_reopen 14 = .ok (.iconst 1, 1) := by decide +kernel
theorem dX7_reopen_15 : decode cX7_reopen 15 = .ok (.invokevirtual 76, 3) := by decide +kernel
theorem dX7_reopen_18 : decode cX7_reopen 18 = .ok (.ireturn, 1) := by decide +kernel
theorem dX7_reopen_19 : decode cX7_reopen 19 = .ok (.aload_n 0, 1) := by decide +kernel
theorem dX7_reopen_20 : decode cX7_reopen 20 = .ok (.iload_n 1, 1) := by decide +kernel
theorem dX7_reopen_21 : decode cX7_reopen 21 = .ok (.invokevirtual 137, 3) := by decide +kernel
theorem dX7_reopen_24 : decode cX7_reopen 24 = .ok (.ifCond .ne 9, 3) := by decide +kernel
theorem dX7_reopen_27 : decode cX7_reopen 27 = .ok (.aload_n 0, 1) := by decide +kernel
theorem dX7_reopen_28 : decode cX7_reopen 28 = .ok (.iconst 2, 1) := by decide +kernel
theorem dX7_reopen_29 : decode cX7_reopen 29 = .ok (.invokevirtual 76, 3) := by decide +kernel
theorem dX7_reopen_32 : decode cX7_reopen 32 = .ok (.ireturn, 1) := by decide +kernel
theorem dX7_reopen_33 : decode cX7_reopen 33 = .ok (.aload_n 0, 1) := by decide +kernel
theorem dX7_reopen_34 : decode cX7_reopen 34 = .ok (.invokevirtual 79, 3) := by decide +kernel
theorem dX7_reopen_37 : decode cX7_reopen 37 = .ok (.aload_n 0, 1) := by decide +kernel
theorem dX7_reopen_38 : decode cX7_reopen 38 = .ok (.invokevirtual 128, 3) := by decide +kernel
theorem dX7_reopen_41 : decode cX7_reopen 41 = .ok (.invokestatic 98, 3) := by decide +kernel
theorem dX7_reopen_44 : decode cX7_reopen 44 = .ok (.istore_n 2, 1) := by decide +kernel
theorem dX7_reopen_45 : decode cX7_reopen 45 = .ok (.aload_n 0, 1) := by decide +kernel
theorem dX7_reopen_46 : decode cX7_reopen 46 = .ok (.iload_n 1, 1) := by decide +kernel
theorem dX7_reopen_47 : decode cX7_reopen 47 = .ok (.iconst 2, 1) := by decide +kernel
theorem dX7_reopen_48 : decode cX7_reopen 48 = .ok (.iconst 0, 1) := by decide +kernel
theorem dX7_reopen_49 : decode cX7_reopen 49 = .ok (.invokevirtual 72, 3) := by decide +kernel
theorem dX7_reopen_52 : decode cX7_reopen 52 = .ok (.aload_n 0, 1) := by decide +kernel
theorem dX7_reopen_53 : decode cX7_reopen 53 = .ok (.iload_n 1, 1) := by decide +kernel
theorem dX7_reopen_54 : decode cX7_reopen 54 = .ok (.bipush 6, 2) := by decide +kernel
theorem dX7_reopen_56 : decode cX7_reopen 56 = .ok (.iconst 0, 1) := by decide +kernel
theorem dX7_reopen_57 : decode cX7_reopen 57 = .ok (.invokevirtual 72, 3) := by decide +kernel
theorem dX7_reopen_60 : decode cX7_reopen 60 = .ok (.aload_n 0, 1) := by decide +kernel
theorem dX7_reopen_61 : decode cX7_reopen 61 = .ok (.getfield 7, 3) := by decide +kernel
theorem dX7_reopen_64 : decode cX7_reopen 64 = .ok (.iconst 3, 1) := by decide +kernel
theorem dX7_reopen_65 : decode cX7_reopen 65 = .ok (.dup2, 1) := by decide +kernel
theorem dX7_reopen_66 : decode cX7_reopen 66 = .ok (.iaload, 1) := by decide +kernel
theorem dX7_reopen_67 : decode cX7_reopen 67 = .ok (.iconst 1, 1) := by decide +kernel
theorem dX7_reopen_68 : decode cX7_reopen 68 = .ok (.iadd, 1) := by decide +kernel
theorem dX7_reopen_69 : decode cX7_reopen 69 = .ok (.iastore, 1) := by decide +kernel
theorem dX7_reopen_70 : decode cX7_reopen 70 = .ok (.aload_n 0, 1) := by decide +kernel
theorem dX7_reopen_71 : decode cX7_reopen 71 = .ok (.invokevirtual 128, 3) := by decide +kernel
theorem dX7_reopen_74 : decode cX7_reopen 74 = .ok (.invokestatic 98, 3) := by decide +kernel
theorem dX7_reopen_77 : decode cX7_reopen 77 = .ok (.iload_n 2, 1) := by decide +kernel
theorem dX7_reopen_78 : decode cX7_reopen 78 = .ok (.isub, 1) := by decide +kernel
theorem dX7_reopen_79 : decode cX7_reopen 79 = .ok (.ireturn, 1) := by decide +kernel
theorem dX7_drop_0 : decode cX7_drop 0 = .ok (.aload_n 0, 1) := by decide +kernel
theorem dX7_drop_1 : decode cX7_drop 1 = .ok (.iconst 0, 1) := by decide +kernel
theorem dX7_drop_2 : decode cX7_drop 2 = .ok (.putfield 38, 3) := by decide +kernel
theorem dX7_drop_5 : decode cX7_drop 5 = .ok (.aload_n 0, 1) := by decide +kernel
theorem dX7_drop_6 : decode cX7_drop 6 = .ok (.iload_n 1, 1) := by decide +kernel
theorem dX7_drop_7 : decode cX7_drop 7 = .ok (.invokevirtual 85, 3) := by decide +kernel
theorem dX7_drop_10 : decode cX7_drop 10 = .ok (.ifCond .ne 9, 3) := by decide +kernel
theorem dX7_drop_13 : decode cX7_drop 13 = .ok (.aload_n 0, 1) := by decide +kernel
theorem dX7_drop_14 : decode cX7_drop 14 = .ok (.iconst 1, 1) := by decide +kernel
theorem dX7_drop_15 : decode cX7_drop 15 = .ok (.invokevirtual 76, 3) := by decide +kernel
theorem dX7_drop_18 : decode cX7_drop 18 = .ok (.ireturn, 1) := by decide +kernel
theorem dX7_drop_19 : decode cX7_drop 19 = .ok (.aload_n 0, 1) := by decide +kernel
theorem dX7_drop_20 : decode cX7_drop 20 = .ok (.iload_n 1, 1) := by decide +kernel
theorem dX7_drop_21 : decode cX7_drop 21 = .ok (.invokevirtual 53, 3) := by decide +kernel
theorem dX7_drop_24 : decode cX7_drop 24 = .ok (.ifCond .ne 9, 3) := by decide +kernel
theorem dX7_drop_27 : decode cX7_drop 27 = .ok (.aload_n 0, 1) := by decide +kernel
theorem dX7_drop_28 : decode cX7_drop 28 = .ok (.iconst 2, 1) := by decide +kernel
theorem dX7_drop_29 : decode cX7_drop 29 = .ok (.invokevirtual 76, 3) := by decide +kernel
theorem dX7_drop_32 : decode cX7_drop 32 = .ok (.ireturn, 1) := by decide +kernel
theorem dX7_drop_33 : decode cX7_drop 33 = .ok (.aload_n 0, 1) := by decide +kernel
theorem dX7_drop_34 : decode cX7_drop 34 = .ok (.invokevirtual 79, 3) := by decide +kernel
theorem dX7_drop_37 : decode cX7_drop 37 = .ok (.aload_n 0, 1) := by decide +kernel
theorem dX7_drop_38 : decode cX7_drop 38 = .ok (.invokevirtual 128, 3) := by decide +kernel
theorem dX7_drop_41 : decode cX7_drop 41 = .ok (.invokestatic 98, 3) := by decide +kernel
theorem dX7_drop_44 : decode cX7_drop 44 = .ok (.istore_n 2, 1) := by decide +kernel
theorem dX7_drop_45 : decode cX7_drop 45 = .ok (.aload_n 0, 1) := by decide +kernel
theorem dX7_drop_46 : decode cX7_drop 46 = .ok (.iload_n 1, 1) := by decide +kernel
theorem dX7_drop_47 : decode cX7_drop 47 = .ok (.iconst 2, 1) := by decide +kernel
theorem dX7_drop_48 : decode cX7_drop 48 = .ok (.iconst 4, 1) := by decide +kernel
theorem dX7_drop_49 : decode cX7_drop 49 = .ok (.invokevirtual 72, 3) := by decide +kernel
theorem dX7_drop_52 : decode cX7_drop 52 = .ok (.iload_n 2, 1) := by decide +kernel
theorem dX7_drop_53 : decode cX7_drop 53 = .ok (.aload_n 0, 1) := by decide +kernel
theorem dX7_drop_54 : decode cX7_drop 54 = .ok (.invokevirtual 128, 3) := by decide +kernel
theorem dX7_drop_57 : decode cX7_drop 57 = .ok (.invokestatic 98, 3) := by decide +kernel
theorem dX7_drop_60 : decode cX7_drop 60 = .ok (.isub, 1) := by decide +kernel
theorem dX7_drop_61 : decode cX7_drop 61 = .ok (.ireturn, 1) := by decide +kernel
theorem dX7_append_0 : decode cX7_append 0 = .ok (.aload_n 0, 1) := by decide +kernel
theorem dX7_append_1 : decode cX7_append 1 = .ok (.iconst 0, 1) := by decide +kernel
theorem dX7_append_2 : decode cX7_append 2 = .ok (.putfield 38, 3) := by decide +kernel
theorem dX7_append_5 : decode cX7_append 5 = .ok (.iload_n 1, 1) := by decide +kernel
theorem dX7_append_6 : decode cX7_append 6 = .ok (.bipush 33, 2) := by decide +kernel
theorem dX7_append_8 : decode cX7_append 8 = .ok (.bipush 126, 2) := by decide +kernel
theorem dX7_append_10 : decode cX7_append 10 = .ok (.invokestatic 42, 3) := by decide +kernel
theorem dX7_append_13 : decode cX7_append 13 = .ok (.ifCond .ne 9, 3) := by decide +kernel
theorem dX7_append_16 : decode cX7_append 16 = .ok (.aload_n 0, 1) := by decide +kernel
theorem dX7_append_17 : decode cX7_append 17 = .ok (.iconst 1, 1) := by decide +kernel
theorem dX7_append_18 : decode cX7_append 18 = .ok (.invokevirtual 76, 3) := by decide +kernel
theorem dX7_append_21 : decode cX7_append 21 = .ok (.ireturn, 1) := by decide +kernel
theorem dX7_append_22 : decode cX7_append 22 = .ok (.aload_n 0, 1) := by decide +kernel
theorem dX7_append_23 : decode cX7_append 23 = .ok (.getfield 140, 3) := by decide +kernel
theorem dX7_append_26 : decode cX7_append 26 = .ok (.bipush 60, 2) := by decide +kernel
theorem dX7_append_28 : decode cX7_append 28 = .ok (.if_icmp .ne 9, 3) := by decide +kernel
theorem dX7_append_31 : decode cX7_append 31 = .ok (.aload_n 0, 1) := by decide +kernel
theorem dX7_append_32 : decode cX7_append 32 = .ok (.iconst 2, 1) := by decide +kernel
theorem dX7_append_33 : decode cX7_append 33 = .ok (.invokevirtual 76, 3) := by decide +kernel
theorem dX7_append_36 : decode cX7_append 36 = .ok (.ireturn, 1) := by decide +kernel
theorem dX7_append_37 : decode cX7_append 37 = .ok (.aload_n 0, 1) := by decide +kernel
theorem dX7_append_38 : decode cX7_append 38 = .ok (.getfield 26, 3) := by decide +kernel
theorem dX7_append_41 : decode cX7_append 41 = .ok (.aload_n 0, 1) := by decide +kernel
theorem dX7_append_42 : decode cX7_append 42 = .ok (.getfield 140, 3) := by decide +kernel
theorem dX7_append_45 : decode cX7_append 45 = .ok (.iload_n 1, 1) := by decide +kernel
theorem dX7_append_46 : decode cX7_append 46 = .ok (.iastore, 1) := by decide +kernel
theorem dX7_append_47 : decode cX7_append 47 = .ok (.aload_n 0, 1) := by decide +kernel
theorem dX7_append_48 : decode cX7_append 48 = .ok (.dup, 1) := by decide +kernel
theorem dX7_append_49 : decode cX7_append 49 = .ok (.getfield 140, 3) := by decide +kernel
theorem dX7_append_52 : decode cX7_append 52 = .ok (.iconst 1, 1) := by decide +kernel
theorem dX7_append_53 : decode cX7_append 53 = .ok (.iadd, 1) := by decide +kernel
theorem dX7_append_54 : decode cX7_append 54 = .ok (.putfield 140, 3) := by decide +kernel
theorem dX7_append_57 : decode cX7_append 57 = .ok (.aload_n 0, 1) := by decide +kernel
theorem dX7_append_58 : decode cX7_append 58 = .ok (.getfield 140, 3) := by decide +kernel
theorem dX7_append_61 : decode cX7_append 61 = .ok (.ireturn, 1) := by decide +kernel
theorem dX7_clearBuffer_0 : decode cX7_clearBuffer 0 = .ok (.aload_n 0, 1) := by decide +kernel
theorem dX7_clearBuffer_1 : decode cX7_clearBuffer 1 = .ok (.iconst 0, 1) := by decide +kernel
theorem dX7_clearBuffer_2 : decode cX7_clearBuffer 2 = .ok (.putfield 38, 3) := by decide +kernel
theorem dX7_clearBuffer_5 : decode cX7_clearBuffer 5 = .ok (.aload_n 0, 1) := by decide +kernel
theorem dX7_clearBuffer_6 : decode cX7_clearBuffer 6 = .ok (.getfield 140, 3) := by decide +kernel
theorem dX7_clearBuffer_9 : decode cX7_clearBuffer 9 = .ok (.istore_n 1, 1) := by decide +kernel
theorem dX7_clearBuffer_10 : decode cX7_clearBuffer 10 = .ok (.aload_n 0, 1) := by decide +kernel
theorem dX7_clearBuffer_11 : decode cX7_clearBuffer 11 = .ok (.iconst 0, 1) := by decide +kernel
theorem dX7_clearBuffer_12 : decode cX7_clearBuffer 12 = .ok (.putfield 140, 3) := by decide +kernel
theorem dX7_clearBuffer_15 : decode cX7_clearBuffer 15 = .ok (.iload_n 1, 1) := by decide +kernel
theorem dX7_clearBuffer_16 : decode cX7_clearBuffer 16 = .ok (.ireturn, 1) := by decide +kernel
theorem dX7_sign_0 : decode cX7_sign 0 = .ok (.aload_n 0, 1) := by decide +kernel
theorem dX7_sign_1 : decode cX7_sign 1 = .ok (.getfield 143, 3) := by decide +kernel
theorem dX7_sign_4 : decode cX7_sign 4 = .ok (.aload_n 0, 1) := by decide +kernel
theorem dX7_sign_5 : decode cX7_sign 5 = .ok (.getfield 140, 3) := by decide +kernel
theorem dX7_sign_8 : decode cX7_sign 8 = .ok (.if_icmp .ge 15, 3) := by decide +kernel
theorem dX7_sign_11 : decode cX7_sign 11 = .ok (.aload_n 0, 1) := by decide +kernel
theorem dX7_sign_12 : decode cX7_sign 12 = .ok (.getfield 26, 3) := by decide +kernel
theorem dX7_sign_15 : decode cX7_sign 15 = .ok (.aload_n 0, 1) := by decide +kernel
theorem dX7_sign_16 : decode cX7_sign 16 = .ok (.getfield 143, 3) := by decide +kernel
theorem dX7_sign_19 : decode cX7_sign 19 = .ok (.iaload, 1) := by decide +kernel
theorem dX7_sign_20 : decode cX7_sign 20 = .ok (.goto 4, 3) := by decide +kernel
theorem dX7_sign_23 : decode cX7_sign 23 = .ok (.iconst 0, 1) := by decide +kernel
theorem dX7_sign_24 : decode cX7_sign 24 = .ok (.ireturn, 1) := by decide +kernel
theorem dX7_reads_0 : decode cX7_reads 0 = .ok (.aload_n 0, 1) := by decide +kernel
theorem dX7_reads_1 : decode cX7_reads 1 = .ok (.aload_n 0, 1) := by decide +kernel
theorem dX7_reads_2 : decode cX7_reads 2 = .ok (.getfield 146, 3) := by decide +kernel
theorem dX7_reads_5 : decode cX7_reads 5 = .ok (.ifCond .eq 19, 3) := by decide +kernel
theorem dX7_reads_8 : decode cX7_reads 8 = .ok (.aload_n 0, 1) := by decide +kernel
theorem dX7_reads_9 : decode cX7_reads 9 = .ok (.invokevirtual 150, 3) := by decide +kernel
theorem dX7_reads_12 : decode cX7_reads 12 = .ok (.iload_n 1, 1) := by decide +kernel
theorem dX7_reads_13 : decode cX7_reads 13 = .ok (.iload_n 2, 1) := by decide +kernel
theorem dX7_reads_14 : decode cX7_reads 14 = .ok (.invokestatic 42, 3) := by decide +kernel
theorem dX7_reads_17 : decode cX7_reads 17 = .ok (.ifCond .eq 7, 3) := by decide +kernel
theorem dX7_reads_20 : decode cX7_reads 20 = .ok (.iconst 1, 1) := by decide +kernel
theorem dX7_reads_21 : decode cX7_reads 21 = .ok (.goto 4, 3) := by decide +kernel
theorem dX7_reads_24 : decode cX7_reads 24 = .ok (.iconst 0, 1) := by decide +kernel
theorem dX7_reads_25 : decode cX7_reads 25 = .ok (.putfield 146, 3) := by decide +kernel
theorem dX7_reads_28 : decode cX7_reads 28 = .ok (.aload_n 0, 1) := by decide +kernel
theorem dX7_reads_29 : decode cX7_reads 29 = .ok (.invokevirtual 150, 3) := by decide +kernel
theorem dX7_reads_32 : decode cX7_reads 32 = .ok (.bipush 48, 2) := by decide +kernel
theorem dX7_reads_34 : decode cX7_reads 34 = .ok (.isub, 1) := by decide +kernel
theorem dX7_reads_35 : decode cX7_reads 35 = .ok (.istore_n 3, 1) := by decide +kernel
theorem dX7_reads_36 : decode cX7_reads 36 = .ok (.aload_n 0, 1) := by decide +kernel
theorem dX7_reads_37 : decode cX7_reads 37 = .ok (.dup, 1) := by decide +kernel
theorem dX7_reads_38 : decode cX7_reads 38 = .ok (.getfield 143, 3) := by decide +kernel
theorem dX7_reads_41 : decode cX7_reads 41 = .ok (.aload_n 0, 1) := by decide +kernel
theorem dX7_reads_42 : decode cX7_reads 42 = .ok (.getfield 146, 3) := by decide +kernel
theorem dX7_reads_45 : decode cX7_reads 45 = .ok (.ifCond .eq 7, 3) := by decide +kernel
theorem dX7_reads_48 : decode cX7_reads 48 = .ok (.iconst 1, 1) := by decide +kernel
theorem dX7_reads_49 : decode cX7_reads 49 = .ok (.goto 4, 3) := by decide +kernel
theorem dX7_reads_52 : decode cX7_reads 52 = .ok (.iconst 0, 1) := by decide +kernel
theorem dX7_reads_53 : decode cX7_reads 53 = .ok (.iadd, 1) := by decide +kernel
theorem dX7_reads_54 : decode cX7_reads 54 = .ok (.putfield 143, 3) := by decide +kernel
theorem dX7_reads_57 : decode cX7_reads 57 = .ok (.iload_n 3, 1) := by decide +kernel
theorem dX7_reads_58 : decode cX7_reads 58 = .ok (.ireturn, 1) := by decide +kernel
theorem dX7_number_0 : decode cX7_number 0 = .ok (.aload_n 0, 1) := by decide +kernel
theorem dX7_number_1 : decode cX7_number 1 = .ok (.bipush 48, 2) := by decide +kernel
theorem dX7_number_3 : decode cX7_number 3 = .ok (.iload_n 1, 1) := by decide +kernel
theorem dX7_number_4 : decode cX7_number 4 = .ok (.iadd, 1) := by decide +kernel
theorem dX7_number_5 : decode cX7_number 5 = .ok (.iload_n 2, 1) := by decide +kernel
theorem dX7_number_6 : decode cX7_number 6 = .ok (.bipush 9, 2) := by decide +kernel
theorem dX7_number_8 : decode cX7_number 8 = .ok (.if_icmp .ge 10, 3) := by decide +kernel
theorem dX7_number_11 : decode cX7_number 11 = .ok (.bipush 48, 2) := by decide +kernel
theorem dX7_number_13 : decode cX7_number 13 = .ok (.iload_n 2, 1) := by decide +kernel
theorem dX7_number_14 : decode cX7_number 14 = .ok (.iadd, 1) := by decide +kernel
theorem dX7_number_15 : decode cX7_number 15 = .ok (.goto 5, 3) := by decide +kernel
theorem dX7_number_18 : decode cX7_number 18 = .ok (.bipush 57, 2) := by decide +kernel
theorem dX7_number_20 : decode cX7_number 20 = .ok (.invokevirtual 153, 3) := by decide +kernel
theorem dX7_number_23 : decode cX7_number 23 = .ok (.istore_n 3, 1) := by decide +kernel
theorem dX7_number_24 : decode cX7_number 24 = .ok (.aload_n 0, 1) := by decide +kernel
theorem dX7_number_25 : decode cX7_number 25 = .ok (.getfield 146, 3) := by decide +kernel
theorem dX7_number_28 : decode cX7_number 28 = .ok (.ifCond .eq 60, 3) := by decide +kernel
theorem dX7_number_31 : decode cX7_number 31 = .ok (.iload_n 3, 1) := by decide +kernel
theorem dX7_number_32 : decode cX7_number 32 = .ok (.ifCond .le 56, 3) := by decide +kernel
theorem dX7_number_35 : decode cX7_number 35 = .ok (.aload_n 0, 1) := by decide +kernel
theorem dX7_number_36 : decode cX7_number 36 = .ok (.invokevirtual 150, 3) := by decide +kernel
theorem dX7_number_39 : decode cX7_number 39 = .ok (.bipush 48, 2) := by decide +kernel
theorem dX7_number_41 : decode cX7_number 41 = .ok (.bipush 57, 2) := by decide +kernel
theorem dX7_number_43 : decode cX7_number 43 = .ok (.invokestatic 42, 3) := by decide +kernel
theorem dX7_number_46 : decode cX7_number 46 = .ok (.ifCond .eq 42, 3) := by decide +kernel
theorem dX7_number_49 : decode cX7_number 49 = .ok (.bipush 10, 2) := by decide +kernel
theorem dX7_number_51 : decode cX7_number 51 = .ok (.iload_n 3, 1) := by decide +kernel
theorem dX7_number_52 : decode cX7_number 52 = .ok (.imul, 1) := by decide +kernel
theorem dX7_number_53 : decode cX7_number 53 = .ok (.aload_n 0, 1) := by decide +kernel
theorem dX7_number_54 : decode cX7_number 54 = .ok (.invokevirtual 150, 3) := by decide +kernel
theorem dX7_number_57 : decode cX7_number 57 = .ok (.iadd, 1) := by decide +kernel
theorem dX7_number_58 : decode cX7_number 58 = .ok (.bipush 48, 2) := by decide +kernel
theorem dX7_number_60 : decode cX7_number 60 = .ok (.isub, 1) := by decide +kernel
theorem dX7_number_61 : decode cX7_number 61 = .ok (.iload_n 2, 1) := by decide +kernel
theorem dX7_number_62 : decode cX7_number 62 = .ok (.if_icmp .gt 26, 3) := by decide +kernel
theorem dX7_number_65 : decode cX7_number 65 = .ok (.bipush 10, 2) := by decide +kernel
theorem dX7_number_67 : decode cX7_number 67 = .ok (.iload_n 3, 1) := by decide +kernel
theorem dX7_number_68 : decode cX7_number 68 = .ok (.imul, 1) := by decide +kernel
theorem dX7_number_69 : decode cX7_number 69 = .ok (.aload_n 0, 1) := by decide +kernel
theorem dX7_number_70 : decode cX7_number 70 = .ok (.invokevirtual 150, 3) := by decide +kernel
theorem dX7_number_73 : decode cX7_number 73 = .ok (.iadd, 1) := by decide +kernel
theorem dX7_number_74 : decode cX7_number 74 = .ok (.bipush 48, 2) := by decide +kernel
theorem dX7_number_76 : decode cX7_number 76 = .ok (.isub, 1) := by decide +kernel
theorem dX7_number_77 : decode cX7_number 77 = .ok (.istore_n 3, 1) := by decide +kernel
theorem dX7_number_78 : decode cX7_number 78 = .ok (.aload_n 0, 1) := by decide +kernel
theorem dX7_number_79 : decode cX7_number 79 = .ok (.dup, 1) := by decide +kernel
theorem dX7_number_80 : decode cX7_number 80 = .ok (.getfield 143, 3) := by decide +kernel
theorem dX7_number_83 : decode cX7_number 83 = .ok (.iconst 1, 1) := by decide +kernel
theorem dX7_number_84 : decode cX7_number 84 = .ok (.iadd, 1) := by decide +kernel
theorem dX7_number_85 : decode cX7_number 85 = .ok (.putfield 143, 3) := by decide +kernel
theorem dX7_number_88 : decode cX7_number 88 = .ok (.iload_n 3, 1) := by decide +kernel
theorem dX7_number_89 : decode cX7_number 89 = .ok (.ireturn, 1) := by decide +kernel
theorem dX7_isOrder_0 : decode cX7_isOrder 0 = .ok (.iload_n 0, 1) := by decide +kernel
theorem dX7_isOrder_1 : decode cX7_isOrder 1 = .ok (.bipush 111, 2) := by decide +kernel
theorem dX7_isOrder_3 : decode cX7_isOrder 3 = .ok (.if_icmp .eq 39, 3) := by decide +kernel
theorem dX7_isOrder_6 : decode cX7_isOrder 6 = .ok (.iload_n 0, 1) := by decide +kernel
theorem dX7_isOrder_7 : decode cX7_isOrder 7 = .ok (.bipush 110, 2) := by decide +kernel
theorem dX7_isOrder_9 : decode cX7_isOrder 9 = .ok (.if_icmp .eq 33, 3) := by decide +kernel
theorem dX7_isOrder_12 : decode cX7_isOrder 12 = .ok (.iload_n 0, 1) := by decide +kernel
theorem dX7_isOrder_13 : decode cX7_isOrder 13 = .ok (.bipush 97, 2) := by decide +kernel
theorem dX7_isOrder_15 : decode cX7_isOrder 15 = .ok (.if_icmp .eq 27, 3) := by decide +kernel
theorem dX7_isOrder_18 : decode cX7_isOrder 18 = .ok (.iload_n 0, 1) := by decide +kernel
theorem dX7_isOrder_19 : decode cX7_isOrder 19 = .ok (.bipush 115, 2) := by decide +kernel
theorem dX7_isOrder_21 : decode cX7_isOrder 21 = .ok (.if_icmp .eq 21, 3) := by decide +kernel
theorem dX7_isOrder_24 : decode cX7_isOrder 24 = .ok (.iload_n 0, 1) := by decide +kernel
theorem dX7_isOrder_25 : decode cX7_isOrder 25 = .ok (.bipush 114, 2) := by decide +kernel
theorem dX7_isOrder_27 : decode cX7_isOrder 27 = .ok (.if_icmp .eq 15, 3) := by decide +kernel
theorem dX7_isOrder_30 : decode cX7_isOrder 30 = .ok (.iload_n 0, 1) := by decide +kernel
theorem dX7_isOrder_31 : decode cX7_isOrder 31 = .ok (.bipush 99, 2) := by decide +kernel
theorem dX7_isOrder_33 : decode cX7_isOrder 33 = .ok (.if_icmp .eq 9, 3) := by decide +kernel
theorem dX7_isOrder_36 : decode cX7_isOrder 36 = .ok (.iload_n 0, 1) := by decide +kernel
theorem dX7_isOrder_37 : decode cX7_isOrder 37 = .ok (.bipush 101, 2) := by decide +kernel
theorem dX7_isOrder_39 : decode cX7_isOrder 39 = .ok (.if_icmp .ne 7, 3) := by decide +kernel
theorem dX7_isOrder_42 : decode cX7_isOrder 42 = .ok (.iconst 1, 1) := by decide +kernel
theorem dX7_isOrder_43 : decode cX7_isOrder 43 = .ok (.goto 4, 3) := by decide +kernel
theorem dX7_isOrder_46 : decode cX7_isOrder 46 = .ok (.iconst 0, 1) := by decide +kernel
theorem dX7_isOrder_47 : decode cX7_isOrder 47 = .ok (.ireturn, 1) := by decide +kernel
theorem dX7_readsOrder_0 : decode cX7_readsOrder 0 = .ok (.iconst 3, 1) := by decide +kernel
theorem dX7_readsOrder_1 : decode cX7_readsOrder 1 = .ok (.aload_n 0, 1) := by decide +kernel
theorem dX7_readsOrder_2 : decode cX7_readsOrder 2 = .ok (.getfield 156, 3) := by decide +kernel
theorem dX7_readsOrder_5 : decode cX7_readsOrder 5 = .ok (.imul, 1) := by decide +kernel
theorem dX7_readsOrder_6 : decode cX7_readsOrder 6 = .ok (.istore_n 1, 1) := by decide +kernel
theorem dX7_readsOrder_7 : decode cX7_readsOrder 7 = .ok (.aload_n 0, 1) := by decide +kernel
theorem dX7_readsOrder_8 : decode cX7_readsOrder 8 = .ok (.invokevirtual 150, 3) := by decide +kernel
theorem dX7_readsOrder_11 : decode cX7_readsOrder 11 = .ok (.istore_n 2, 1) := by decide +kernel
theorem dX7_readsOrder_12 : decode cX7_readsOrder 12 = .ok (.aload_n 0, 1) := by decide +kernel
theorem dX7_readsOrder_13 : decode cX7_readsOrder 13 = .ok (.iload_n 2, 1) := by decide +kernel
theorem dX7_readsOrder_14 : decode cX7_readsOrder 14 = .ok (.invokestatic 159, 3) := by decide +kernel
theorem dX7_readsOrder_17 : decode cX7_readsOrder 17 = .ok (.putfield 146, 3) := by decide +kernel
theorem dX7_readsOrder_20 : decode cX7_readsOrder 20 = .ok (.aload_n 0, 1) := by decide +kernel
theorem dX7_readsOrder_21 : decode cX7_readsOrder 21 = .ok (.dup, 1) := by decide +kernel
theorem dX7_readsOrder_22 : decode cX7_readsOrder 22 = .ok (.getfield 143, 3) := by decide +kernel
theorem dX7_readsOrder_25 : decode cX7_readsOrder 25 = .ok (.aload_n 0, 1) := by decide +kernel
theorem dX7_readsOrder_26 : decode cX7_readsOrder 26 = .ok (.getfield 146, 3) := by decide +kernel
theorem dX7_readsOrder_29 : decode cX7_readsOrder 29 = .ok (.ifCond .eq 7, 3) := by decide +kernel
theorem dX7_readsOrder_32 : decode cX7_readsOrder 32 = .ok (.iconst 1, 1) := by decide +kernel
theorem dX7_readsOrder_33 : decode cX7_readsOrder 33 = .ok (.goto 4, 3) := by decide +kernel
theorem dX7_readsOrder_36 : decode cX7_readsOrder 36 = .ok (.iconst 0, 1) := by decide +kernel
theorem dX7_readsOrder_37 : decode cX7_readsOrder 37 = .ok (.iadd, 1) := by decide +kernel
theorem dX7_readsOrder_38 : decode cX7_readsOrder 38 = .ok (.putfield 143, 3) := by decide +kernel
theorem dX7_readsOrder_41 : decode cX7_readsOrder 41 = .ok (.aload_n 0, 1) := by decide +kernel
theorem dX7_readsOrder_42 : decode cX7_readsOrder 42 = .ok (.getfield 29, 3) := by decide +kernel
theorem dX7_readsOrder_45 : decode cX7_readsOrder 45 = .ok (.iload_n 1, 1) := by decide +kernel
theorem dX7_readsOrder_46 : decode cX7_readsOrder 46 = .ok (.iload_n 2, 1) := by decide +kernel
theorem dX7_readsOrder_47 : decode cX7_readsOrder 47 = .ok (.iastore, 1) := by decide +kernel
theorem dX7_readsOrder_48 : decode cX7_readsOrder 48 = .ok (.aload_n 0, 1) := by decide +kernel
theorem dX7_readsOrder_49 : decode cX7_readsOrder 49 = .ok (.getfield 29, 3) := by decide +kernel
theorem dX7_readsOrder_52 : decode cX7_readsOrder 52 = .ok (.iload_n 1, 1) := by decide +kernel
theorem dX7_readsOrder_53 : decode cX7_readsOrder 53 = .ok (.iconst 2, 1) := by decide +kernel
theorem dX7_readsOrder_54 : decode cX7_readsOrder 54 = .ok (.iadd, 1) := by decide +kernel
theorem dX7_readsOrder_55 : decode cX7_readsOrder 55 = .ok (.iconst 1, 1) := by decide +kernel
theorem dX7_readsOrder_56 : decode cX7_readsOrder 56 = .ok (.iastore, 1) := by decide +kernel
theorem dX7_readsOrder_57 : decode cX7_readsOrder 57 = .ok (.iload_n 2, 1) := by decide +kernel
theorem dX7_readsOrder_58 : decode cX7_readsOrder 58 = .ok (.bipush 111, 2) := by decide +kernel
theorem dX7_readsOrder_60 : decode cX7_readsOrder 60 = .ok (.if_icmp .ne 61, 3) := by decide +kernel
theorem dX7_readsOrder_63 : decode cX7_readsOrder 63 = .ok (.aload_n 0, 1) := by decide +kernel
theorem dX7_readsOrder_64 : decode cX7_readsOrder 64 = .ok (.getfield 29, 3) := by decide +kernel
theorem dX7_readsOrder_67 : decode cX7_readsOrder 67 = .ok (.iload_n 1, 1) := by decide +kernel
theorem dX7_readsOrder_68 : decode cX7_readsOrder 68 = .ok (.iconst 1, 1) := by decide +kernel
theorem dX7_readsOrder_69 : decode cX7_readsOrder 69 = .ok (.iadd, 1) := by decide +kernel
theorem dX7_readsOrder_70 : decode cX7_readsOrder 70 = .ok (.aload_n 0, 1) := by decide +kernel
theorem dX7_readsOrder_71 : decode cX7_readsOrder 71 = .ok (.iconst 1, 1) := by decide +kernel
theorem dX7_readsOrder_72 : decode cX7_readsOrder 72 = .ok (.bipush 13, 2) := by decide +kernel
theorem dX7_readsOrder_74 : decode cX7_readsOrder 74 = .ok (.invokevirtual 162, 3) := by decide +kernel
theorem dX7_readsOrder_77 : decode cX7_readsOrder 77 = .ok (.iastore, 1) := by decide +kernel
theorem dX7_readsOrder_78 : decode cX7_readsOrder 78 = .ok (.aload_n 0, 1) := by decide +kernel
theorem dX7_readsOrder_79 : decode cX7_readsOrder 79 = .ok (.getfield 146, 3) := by decide +kernel
theorem dX7_readsOrder_82 : decode cX7_readsOrder 82 = .ok (.ifCond .eq 169, 3) := by decide +kernel
theorem dX7_readsOrder_85 : decode cX7_readsOrder 85 = .ok (.aload_n 0, 1) := by decide +kernel
theorem dX7_readsOrder_86 : decode cX7_readsOrder 86 = .ok (.invokevirtual 150, 3) := by decide +kernel
theorem dX7_readsOrder_89 : decode cX7_readsOrder 89 = .ok (.bipush 33, 2) := by decide +kernel
theorem dX7_readsOrder_91 : decode cX7_readsOrder 91 = .ok (.if_icmp .ne 160, 3) := by decide +kernel
theorem dX7_readsOrder_94 : decode cX7_readsOrder 94 = .ok (.aload_n 0, 1) := by decide +kernel
theorem dX7_readsOrder_95 : decode cX7_readsOrder 95 = .ok (.dup, 1) := by decide +kernel
theorem dX7_readsOrder_96 : decode cX7_readsOrder 96 = .ok (.getfield 143, 3) := by decide +kernel
theorem dX7_readsOrder_99 : decode cX7_readsOrder 99 = .ok (.iconst 1, 1) := by decide +kernel
theorem dX7_readsOrder_100 : decode cX7_readsOrder 100 = .ok (.iadd, 1) := by decide +kernel
theorem dX7_readsOrder_101 : decode cX7_readsOrder 101 = .ok (.putfield 143, 3) := by decide +kernel
theorem dX7_readsOrder_104 : decode cX7_readsOrder 104 = .ok (.aload_n 0, 1) := by decide +kernel
theorem dX7_readsOrder_105 : decode cX7_readsOrder 105 = .ok (.getfield 29, 3) := by decide +kernel
theorem dX7_readsOrder_108 : decode cX7_readsOrder 108 = .ok (.iload_n 1, 1) := by decide +kernel
theorem dX7_readsOrder_109 : decode cX7_readsOrder 109 = .ok (.iconst 2, 1) := by decide +kernel
theorem dX7_readsOrder_110 : decode cX7_readsOrder 110 = .ok (.iadd, 1) := by decide +kernel
theorem dX7_readsOrder_111 : decode cX7_readsOrder 111 = .ok (.aload_n 0, 1) := by decide +kernel
theorem dX7_readsOrder_112 : decode cX7_readsOrder 112 = .ok (.iconst 0, 1) := by decide +kernel
theorem dX7_readsOrder_113 : decode cX7_readsOrder 113 = .ok (.iconst 3, 1) := by decide +kernel
theorem dX7_readsOrder_114 : decode cX7_readsOrder 114 = .ok (.invokevirtual 162, 3) := by decide +kernel
theorem dX7_readsOrder_117 : decode cX7_readsOrder 117 = .ok (.iastore, 1) := by decide +kernel
theorem dX7_readsOrder_118 : decode cX7_readsOrder 118 = .ok (.goto 133, 3) := by decide +kernel
theorem dX7_readsOrder_121 : decode cX7_readsOrder 121 = .ok (.iload_n 2, 1) := by decide +kernel
theorem dX7_readsOrder_122 : decode cX7_readsOrder 122 = .ok (.bipush 101, 2) := by decide +kernel
theorem dX7_readsOrder_124 : decode cX7_readsOrder 124 = .ok (.if_icmp .ne 21, 3) := by decide +kernel
theorem dX7_readsOrder_127 : decode cX7_readsOrder 127 = .ok (.aload_n 0, 1) := by decide +kernel
theorem dX7_readsOrder_128 : decode cX7_readsOrder 128 = .ok (.getfield 29, 3) := by decide +kernel
theorem dX7_readsOrder_131 : decode cX7_readsOrder 131 = .ok (.iload_n 1, 1) := by decide +kernel
theorem dX7_readsOrder_132 : decode cX7_readsOrder 132 = .ok (.iconst 1, 1) := by decide +kernel
theorem dX7_readsOrder_133 : decode cX7_readsOrder 133 = .ok (.iadd, 1) := by decide +kernel
theorem dX7_readsOrder_134 : decode cX7_readsOrder 134 = .ok (.aload_n 0, 1) := by decide +kernel
theorem dX7_readsOrder_135 : decode cX7_readsOrder 135 = .ok (.iconst 1, 1) := by decide +kernel
theorem dX7_readsOrder_136 : decode cX7_readsOrder 136 = .ok (.bipush 30, 2) := by decide +kernel
theorem dX7_readsOrder_138 : decode cX7_readsOrder 138 = .ok (.invokevirtual 162, 3) := by decide +kernel
theorem dX7_readsOrder_141 : decode cX7_readsOrder 141 = .ok (.iastore, 1) := by decide +kernel
theorem dX7_readsOrder_142 : decode cX7_readsOrder 142 = .ok (.goto 109, 3) := by decide +kernel
theorem dX7_readsOrder_145 : decode cX7_readsOrder 145 = .ok (.aload_n 0, 1) := by decide +kernel
theorem dX7_readsOrder_146 : decode cX7_readsOrder 146 = .ok (.getfield 146, 3) := by decide +kernel
theorem dX7_readsOrder_149 : decode cX7_readsOrder 149 = .ok (.ifCond .eq 102, 3) := by decide +kernel
theorem dX7_readsOrder_152 : decode cX7_readsOrder 152 = .ok (.aload_n 0, 1) := by decide +kernel
theorem dX7_readsOrder_153 : decode cX7_readsOrder 153 = .ok (.getfield 29, 3) := by decide +kernel
theorem dX7_readsOrder_156 : decode cX7_readsOrder 156 = .ok (.iload_n 1, 1) := by decide +kernel
theorem dX7_readsOrder_157 : decode cX7_readsOrder 157 = .ok (.iconst 1, 1) := by decide +kernel
theorem dX7_readsOrder_158 : decode cX7_readsOrder 158 = .ok (.iadd, 1) := by decide +kernel
theorem dX7_readsOrder_159 : decode cX7_readsOrder 159 = .ok (.aload_n 0, 1) := by decide +kernel
theorem dX7_readsOrder_160 : decode cX7_readsOrder 160 = .ok (.iconst 0, 1) := by decide +kernel
theorem dX7_readsOrder_161 : decode cX7_readsOrder 161 = .ok (.bipush 19, 2) := by decide +kernel
theorem dX7_readsOrder_163 : decode cX7_readsOrder 163 = .ok (.invokevirtual 162, 3) := by decide +kernel
theorem dX7_readsOrder_166 : decode cX7_readsOrder 166 = .ok (.iastore, 1) := by decide +kernel
theorem dX7_readsOrder_167 : decode cX7_readsOrder 167 = .ok (.iload_n 2, 1) := by decide +kernel
theorem dX7_readsOrder_168 : decode cX7_readsOrder 168 = .ok (.bipush 110, 2) := by decide +kernel
theorem dX7_readsOrder_170 : decode cX7_readsOrder 170 = .ok (.if_icmp .ne 41, 3) := by decide +kernel
theorem dX7_readsOrder_173 : decode cX7_readsOrder 173 = .ok (.aload_n 0, 1) := by decide +kernel
theorem dX7_readsOrder_174 : decode cX7_readsOrder 174 = .ok (.bipush 62, 2) := by decide +kernel
theorem dX7_readsOrder_176 : decode cX7_readsOrder 176 = .ok (.bipush 62, 2) := by decide +kernel
theorem dX7_readsOrder_178 : decode cX7_readsOrder 178 = .ok (.invokevirtual 153, 3) := by decide +kernel
theorem dX7_readsOrder_181 : decode cX7_readsOrder 181 = .ok (.pop, 1) := by decide +kernel
theorem dX7_readsOrder_182 : decode cX7_readsOrder 182 = .ok (.aload_n 0, 1) := by decide +kernel
theorem dX7_readsOrder_183 : decode cX7_readsOrder 183 = .ok (.getfield 29, 3) := by decide +kernel
theorem dX7_readsOrder_186 : decode cX7_readsOrder 186 = .ok (.iload_n 1, 1) := by decide +kernel
theorem dX7_readsOrder_187 : decode cX7_readsOrder 187 = .ok (.iconst 2, 1) := by decide +kernel
theorem dX7_readsOrder_188 : decode cX7_readsOrder 188 = .ok (.iadd, 1) := by decide +kernel
theorem dX7_readsOrder_189 : decode cX7_readsOrder 189 = .ok (.aload_n 0, 1) := by decide +kernel
theorem dX7_readsOrder_190 : decode cX7_readsOrder 190 = .ok (.getfield 146, 3) := by decide +kernel
theorem dX7_readsOrder_193 : decode cX7_readsOrder 193 = .ok (.ifCond .eq 13, 3) := by decide +kernel
theorem dX7_readsOrder_196 : decode cX7_readsOrder 196 = .ok (.aload_n 0, 1) := by decide +kernel
theorem dX7_readsOrder_197 : decode cX7_readsOrder 197 = .ok (.iconst 0, 1) := by decide +kernel
theorem dX7_readsOrder_198 : decode cX7_readsOrder 198 = .ok (.bipush 19, 2) := by decide +kernel
theorem dX7_readsOrder_200 : decode cX7_readsOrder 200 = .ok (.invokevirtual 162, 3) := by decide +kernel
theorem dX7_readsOrder_203 : decode cX7_readsOrder 203 = .ok (.goto 4, 3) := by decide +kernel
theorem dX7_readsOrder_206 : decode cX7_readsOrder 206 = .ok (.iconst 0, 1) := by decide +kernel
theorem dX7_readsOrder_207 : decode cX7_readsOrder 207 = .ok (.iastore, 1) := by decide +kernel
theorem dX7_readsOrder_208 : decode cX7_readsOrder 208 = .ok (.goto 43, 3) := by decide +kernel
theorem dX7_readsOrder_211 : decode cX7_readsOrder 211 = .ok (.iload_n 2, 1) := by decide +kernel
theorem dX7_readsOrder_212 : decode cX7_readsOrder 212 = .ok (.bipush 97, 2) := by decide +kernel
theorem dX7_readsOrder_214 : decode cX7_readsOrder 214 = .ok (.if_icmp .ne 37, 3) := by decide +kernel
theorem dX7_readsOrder_217 : decode cX7_readsOrder 217 = .ok (.aload_n 0, 1) := by decide +kernel
theorem dX7_readsOrder_218 : decode cX7_readsOrder 218 = .ok (.bipush 64, 2) := by decide +kernel
theorem dX7_readsOrder_220 : decode cX7_readsOrder 220 = .ok (.bipush 64, 2) := by decide +kernel
theorem dX7_readsOrder_222 : decode cX7_readsOrder 222 = .ok (.invokevirtual 153, 3) := by decide +kernel
theorem dX7_readsOrder_225 : decode cX7_readsOrder 225 = .ok (.pop, 1) := by decide +kernel
theorem dX7_readsOrder_226 : decode cX7_readsOrder 226 = .ok (.aload_n 0, 1) := by decide +kernel
theorem dX7_readsOrder_227 : decode cX7_readsOrder 227 = .ok (.getfield 29, 3) := by decide +kernel
theorem dX7_readsOrder_230 : decode cX7_readsOrder 230 = .ok (.iload_n 1, 1) := by decide +kernel
theorem dX7_readsOrder_231 : decode cX7_readsOrder 231 = .ok (.iconst 2, 1) := by decide +kernel
theorem dX7_readsOrder_232 : decode cX7_readsOrder 232 = .ok (.iadd, 1) := by decide +kernel
theorem dX7_readsOrder_233 : decode cX7_readsOrder 233 = .ok (.aload_n 0, 1) := by decide +kernel
theorem dX7_readsOrder_234 : decode cX7_readsOrder 234 = .ok (.getfield 146, 3) := by decide +kernel
theorem dX7_readsOrder_237 : decode cX7_readsOrder 237 = .ok (.ifCond .eq 12, 3) := by decide +kernel
theorem dX7_readsOrder_240 : decode cX7_readsOrder 240 = .ok (.aload_n 0, 1) := by decide +kernel
theorem dX7_readsOrder_241 : decode cX7_readsOrder 241 = .ok (.iconst 0, 1) := by decide +kernel
theorem dX7_readsOrder_242 : decode cX7_readsOrder 242 = .ok (.iconst 4, 1) := by decide +kernel
theorem dX7_readsOrder_243 : decode cX7_readsOrder 243 = .ok (.invokevirtual 162, 3) := by decide +kernel
theorem dX7_readsOrder_246 : decode cX7_readsOrder 246 = .ok (.goto 4, 3) := by decide +kernel
theorem dX7_readsOrder_249 : decode cX7_readsOrder 249 = .ok (.iconst 0, 1) := by decide +kernel
theorem dX7_readsOrder_250 : decode cX7_readsOrder 250 = .ok (.iastore, 1) := by decide +kernel
theorem dX7_readsOrder_251 : decode cX7_readsOrder 251 = .ok (.aload_n 0, 1) := by decide +kernel
theorem dX7_readsOrder_252 : decode cX7_readsOrder 252 = .ok (.dup, 1) := by decide +kernel
theorem dX7_readsOrder_253 : decode cX7_readsOrder 253 = .ok (.getfield 156, 3) := by decide +kernel
theorem dX7_readsOrder_256 : decode cX7_readsOrder 256 = .ok (.aload_n 0, 1) := by decide +kernel
theorem dX7_readsOrder_257 : decode cX7_readsOrder 257 = .ok (.getfield 146, 3) := by decide +kernel
theorem dX7_readsOrder_260 : decode cX7_readsOrder 260 = .ok (.ifCond .eq 7, 3) := by decide +kernel
theorem dX7_readsOrder_263 : decode cX7_readsOrder 263 = .ok (.iconst 1, 1) := by decide +kernel
theorem dX7_readsOrder_264 : decode cX7_readsOrder 264 = .ok (.goto 4, 3) := by decide +kernel
theorem dX7_readsOrder_267 : decode cX7_readsOrder 267 = .ok (.iconst 0, 1) := by decide +kernel
theorem dX7_readsOrder_268 : decode cX7_readsOrder 268 = .ok (.iadd, 1) := by decide +kernel
theorem dX7_readsOrder_269 : decode cX7_readsOrder 269 = .ok (.putfield 156, 3) := by decide +kernel
theorem dX7_readsOrder_272 : decode cX7_readsOrder 272 = .ok (.return_, 1) := by decide +kernel
theorem dX7_readsOrders_0 : decode cX7_readsOrders 0 = .ok (.aload_n 0, 1) := by decide +kernel
theorem dX7_readsOrders_1 : decode cX7_readsOrders 1 = .ok (.iconst 0, 1) := by decide +kernel
theorem dX7_readsOrders_2 : decode cX7_readsOrders 2 = .ok (.putfield 143, 3) := by decide +kernel
theorem dX7_readsOrders_5 : decode cX7_readsOrders 5 = .ok (.aload_n 0, 1) := by decide +kernel
theorem dX7_readsOrders_6 : decode cX7_readsOrders 6 = .ok (.iconst 0, 1) := by decide +kernel
theorem dX7_readsOrders_7 : decode cX7_readsOrders 7 = .ok (.putfield 156, 3) := by decide +kernel
theorem dX7_readsOrders_10 : decode cX7_readsOrders 10 = .ok (.aload_n 0, 1) := by decide +kernel
theorem dX7_readsOrders_11 : decode cX7_readsOrders 11 = .ok (.invokevirtual 165, 3) := by decide +kernel
theorem dX7_readsOrders_14 : decode cX7_readsOrders 14 = .ok (.aload_n 0, 1) := by decide +kernel
theorem dX7_readsOrders_15 : decode cX7_readsOrders 15 = .ok (.getfield 146, 3) := by decide +kernel
theorem dX7_readsOrders_18 : decode cX7_readsOrders 18 = .ok (.ifCond .eq 37, 3) := by decide +kernel
theorem dX7_readsOrders_21 : decode cX7_readsOrders 21 = .ok (.aload_n 0, 1) := by decide +kernel
theorem dX7_readsOrders_22 : decode cX7_readsOrders 22 = .ok (.getfield 143, 3) := by decide +kernel
theorem dX7_readsOrders_25 : decode cX7_readsOrders 25 = .ok (.aload_n 0, 1) := by decide +kernel
theorem dX7_readsOrders_26 : decode cX7_readsOrders 26 = .ok (.getfield 140, 3) := by decide +kernel
theorem dX7_readsOrders_29 : decode cX7_readsOrders 29 = .ok (.if_icmp .ge 26, 3) := by decide +kernel
theorem dX7_readsOrders_32 : decode cX7_readsOrders 32 = .ok (.aload_n 0, 1) := by decide +kernel
theorem dX7_readsOrders_33 : decode cX7_readsOrders 33 = .ok (.bipush 59, 2) := by decide +kernel
theorem dX7_readsOrders_35 : decode cX7_readsOrders 35 = .ok (.bipush 59, 2) := by decide +kernel
theorem dX7_readsOrders_37 : decode cX7_readsOrders 37 = .ok (.invokevirtual 153, 3) := by decide +kernel
theorem dX7_readsOrders_40 : decode cX7_readsOrders 40 = .ok (.pop, 1) := by decide +kernel
theorem dX7_readsOrders_41 : decode cX7_readsOrders 41 = .ok (.aload_n 0, 1) := by decide +kernel
theorem dX7_readsOrders_42 : decode cX7_readsOrders 42 = .ok (.getfield 146, 3) := by decide +kernel
theorem dX7_readsOrders_45 : decode cX7_readsOrders 45 = .ok (.ifCond .eq (-31), 3) := by decide +kernel
theorem dX7_readsOrders_48 : decode cX7_readsOrders 48 = .ok (.aload_n 0, 1) := by decide +kernel
theorem dX7_readsOrders_49 : decode cX7_readsOrders 49 = .ok (.invokevirtual 165, 3) := by decide +kernel
theorem dX7_readsOrders_52 : decode cX7_readsOrders 52 = .ok (.goto (-38), 3) := by decide +kernel
theorem dX7_readsOrders_55 : decode cX7_readsOrders 55 = .ok (.aload_n 0, 1) := by decide +kernel
theorem dX7_readsOrders_56 : decode cX7_readsOrders 56 = .ok (.getfield 146, 3) := by decide +kernel
theorem dX7_readsOrders_59 : decode cX7_readsOrders 59 = .ok (.ireturn, 1) := by decide +kernel
theorem dX7_firstError_0 : decode cX7_firstError 0 = .ok (.aload_n 0, 1) := by decide +kernel
theorem dX7_firstError_1 : decode cX7_firstError 1 = .ok (.iconst 0, 1) := by decide +kernel
theorem dX7_firstError_2 : decode cX7_firstError 2 = .ok (.putfield 38, 3) := by decide +kernel
theorem dX7_firstError_5 : decode cX7_firstError 5 = .ok (.aload_n 0, 1) := by decide +kernel
theorem dX7_firstError_6 : decode cX7_firstError 6 = .ok (.invokevirtual 168, 3) := by decide +kernel
theorem dX7_firstError_9 : decode cX7_firstError 9 = .ok (.ifCond .eq 10, 3) := by decide +kernel
theorem dX7_firstError_12 : decode cX7_firstError 12 = .ok (.aload_n 0, 1) := by decide +kernel
theorem dX7_firstError_13 : decode cX7_firstError 13 = .ok (.getfield 140, 3) := by decide +kernel
theorem dX7_firstError_16 : decode cX7_firstError 16 = .ok (.goto 7, 3) := by decide +kernel
theorem dX7_firstError_19 : decode cX7_firstError 19 = .ok (.aload_n 0, 1) := by decide +kernel
theorem dX7_firstError_20 : decode cX7_firstError 20 = .ok (.getfield 143, 3) := by decide +kernel
theorem dX7_firstError_23 : decode cX7_firstError 23 = .ok (.ireturn, 1) := by decide +kernel
theorem dX7_can_0 : decode cX7_can 0 = .ok (.aload_n 0, 1) := by decide +kernel
theorem dX7_can_1 : decode cX7_can 1 = .ok (.getfield 29, 3) := by decide +kernel
theorem dX7_can_4 : decode cX7_can 4 = .ok (.iload_n 1, 1) := by decide +kernel
theorem dX7_can_5 : decode cX7_can 5 = .ok (.iconst 1, 1) := by decide +kernel
theorem dX7_can_6 : decode cX7_can 6 = .ok (.iadd, 1) := by decide +kernel
theorem dX7_can_7 : decode cX7_can 7 = .ok (.iaload, 1) := by decide +kernel
theorem dX7_can_8 : decode cX7_can 8 = .ok (.istore_n 2, 1) := by decide +kernel
theorem dX7_can_9 : decode cX7_can 9 = .ok (.aload_n 0, 1) := by decide +kernel
theorem dX7_can_10 : decode cX7_can 10 = .ok (.getfield 29, 3) := by decide +kernel
theorem dX7_can_13 : decode cX7_can 13 = .ok (.iload_n 1, 1) := by decide +kernel
theorem dX7_can_14 : decode cX7_can 14 = .ok (.iconst 2, 1) := by decide +kernel
theorem dX7_can_15 : decode cX7_can 15 = .ok (.iadd, 1) := by decide +kernel
theorem dX7_can_16 : decode cX7_can 16 = .ok (.iaload, 1) := by decide +kernel
theorem dX7_can_17 : decode cX7_can 17 = .ok (.istore_n 3, 1) := by decide +kernel
theorem dX7_can_18 : decode cX7_can 18 = .ok (.aload_n 0, 1) := by decide +kernel
theorem dX7_can_19 : decode cX7_can 19 = .ok (.getfield 29, 3) := by decide +kernel
theorem dX7_can_22 : decode cX7_can 22 = .ok (.iload_n 1, 1) := by decide +kernel
theorem dX7_can_23 : decode cX7_can 23 = .ok (.iaload, 1) := by decide +kernel
theorem dX7_can_24 : decode cX7_can 24 = .ok (.bipush 111, 2) := by decide +kernel
theorem dX7_can_26 : decode cX7_can 26 = .ok (.if_icmp .ne 20, 3) := by decide +kernel
theorem dX7_can_29 : decode cX7_can 29 = .ok (.aload_n 0, 1) := by decide +kernel
theorem dX7_can_30 : decode cX7_can 30 = .ok (.getfield 7, 3) := by decide +kernel
theorem dX7_can_33 : decode cX7_can 33 = .ok (.iconst 0, 1) := by decide +kernel
theorem dX7_can_34 : decode cX7_can 34 = .ok (.iaload, 1) := by decide +kernel
theorem dX7_can_35 : decode cX7_can 35 = .ok (.bipush 20, 2) := by decide +kernel
theorem dX7_can_37 : decode cX7_can 37 = .ok (.if_icmp .ge 7, 3) := by decide +kernel
theorem dX7_can_40 : decode cX7_can 40 = .ok (.iconst 1, 1) := by decide +kernel
theorem dX7_can_41 : decode cX7_can 41 = .ok (.goto 4, 3) := by decide +kernel
theorem dX7_can_44 : decode cX7_can 44 = .ok (.iconst 0, 1) := by decide +kernel
theorem dX7_can_45 : decode cX7_can 45 = .ok (.ireturn, 1) := by decide +kernel
theorem dX7_can_46 : decode cX7_can 46 = .ok (.aload_n 0, 1) := by decide +kernel
theorem dX7_can_47 : decode cX7_can 47 = .ok (.getfield 29, 3) := by decide +kernel
theorem dX7_can_50 : decode cX7_can 50 = .ok (.iload_n 1, 1) := by decide +kernel
theorem dX7_can_51 : decode cX7_can 51 = .ok (.iaload, 1) := by decide +kernel
theorem dX7_can_52 : decode cX7_can 52 = .ok (.bipush 101, 2) := by decide +kernel
theorem dX7_can_54 : decode cX7_can 54 = .ok (.if_icmp .ne 23, 3) := by decide +kernel
theorem dX7_can_57 : decode cX7_can 57 = .ok (.aload_n 0, 1) := by decide +kernel
theorem dX7_can_58 : decode cX7_can 58 = .ok (.getfield 7, 3) := by decide +kernel
theorem dX7_can_61 : decode cX7_can 61 = .ok (.iconst 1, 1) := by decide +kernel
theorem dX7_can_62 : decode cX7_can 62 = .ok (.iaload, 1) := by decide +kernel
theorem dX7_can_63 : decode cX7_can 63 = .ok (.iload_n 2, 1) := by decide +kernel
theorem dX7_can_64 : decode cX7_can 64 = .ok (.iadd, 1) := by decide +kernel
theorem dX7_can_65 : decode cX7_can 65 = .ok (.sipush 999, 3) := by decide +kernel
theorem dX7_can_68 : decode cX7_can 68 = .ok (.if_icmp .gt 7, 3) := by decide +kernel
theorem dX7_can_71 : decode cX7_can 71 = .ok (.iconst 1, 1) := by decide +kernel
theorem dX7_can_72 : decode cX7_can 72 = .ok (.goto 4, 3) := by decide +kernel
theorem dX7_can_75 : decode cX7_can 75 = .ok (.iconst 0, 1) := by decide +kernel
theorem dX7_can_76 : decode cX7_can 76 = .ok (.ireturn, 1) := by decide +kernel
theorem dX7_can_77 : decode cX7_can 77 = .ok (.aload_n 0, 1) := by decide +kernel
theorem dX7_can_78 : decode cX7_can 78 = .ok (.iload_n 2, 1) := by decide +kernel
theorem dX7_can_79 : decode cX7_can 79 = .ok (.invokevirtual 85, 3) := by decide +kernel
theorem dX7_can_82 : decode cX7_can 82 = .ok (.ifCond .ne 5, 3) := by decide +kernel
theorem dX7_can_85 : decode cX7_can 85 = .ok (.iconst 0, 1) := by decide +kernel
theorem dX7_can_86 : decode cX7_can 86 = .ok (.ireturn, 1) := by decide +kernel
theorem dX7_can_87 : decode cX7_can 87 = .ok (.aload_n 0, 1) := by decide +kernel
theorem dX7_can_88 : decode cX7_can 88 = .ok (.getfield 29, 3) := by decide +kernel
theorem dX7_can_91 : decode cX7_can 91 = .ok (.iload_n 1, 1) := by decide +kernel
theorem dX7_can_92 : decode cX7_can 92 = .ok (.iaload, 1) := by decide +kernel
theorem dX7_can_93 : decode cX7_can 93 = .ok (.lookupswitch 95 #[(97, 66), (110, 43), (114, 79), (115, 73)], 43) := by decide +kernel
theorem dX7_can_136 : decode cX7_can 136 = .ok (.aload_n 0, 1) := by decide +kernel
theorem dX7_can_137 : decode cX7_can 137 = .ok (.iload_n 3, 1) := by decide +kernel
theorem dX7_can_138 : decode cX7_can 138 = .ok (.invokevirtual 85, 3) := by decide +kernel
theorem dX7_can_141 : decode cX7_can 141 = .ok (.ifCond .eq 16, 3) := by decide +kernel
theorem dX7_can_144 : decode cX7_can 144 = .ok (.aload_n 0, 1) := by decide +kernel
theorem dX7_can_145 : decode cX7_can 145 = .ok (.iload_n 2, 1) := by decide +kernel
theorem dX7_can_146 : decode cX7_can 146 = .ok (.iload_n 3, 1) := by decide +kernel
theorem dX7_can_147 : decode cX7_can 147 = .ok (.invokevirtual 101, 3) := by decide +kernel
theorem dX7_can_150 : decode cX7_can 150 = .ok (.ifCond .eq 7, 3) := by decide +kernel
theorem dX7_can_153 : decode cX7_can 153 = .ok (.iconst 1, 1) := by decide +kernel
theorem dX7_can_154 : decode cX7_can 154 = .ok (.goto 4, 3) := by decide +kernel
theorem dX7_can_157 : decode cX7_can 157 = .ok (.iconst 0, 1) := by decide +kernel
theorem dX7_can_158 : decode cX7_can 158 = .ok (.ireturn, 1) := by decide +kernel
theorem dX7_can_159 : decode cX7_can 159 = .ok (.aload_n 0, 1) := by decide +kernel
theorem dX7_can_160 : decode cX7_can 160 = .ok (.iload_n 2, 1) := by decide +kernel
theorem dX7_can_161 : decode cX7_can 161 = .ok (.iload_n 3, 1) := by decide +kernel
theorem dX7_can_162 : decode cX7_can 162 = .ok (.invokevirtual 110, 3) := by decide +kernel
theorem dX7_can_165 : decode cX7_can 165 = .ok (.ireturn, 1) := by decide +kernel
theorem dX7_can_166 : decode cX7_can 166 = .ok (.aload_n 0, 1) := by decide +kernel
theorem dX7_can_167 : decode cX7_can 167 = .ok (.iload_n 2, 1) := by decide +kernel
theorem dX7_can_168 : decode cX7_can 168 = .ok (.invokevirtual 125, 3) := by decide +kernel
theorem dX7_can_171 : decode cX7_can 171 = .ok (.ireturn, 1) := by decide +kernel
theorem dX7_can_172 : decode cX7_can 172 = .ok (.aload_n 0, 1) := by decide +kernel
theorem dX7_can_173 : decode cX7_can 173 = .ok (.iload_n 2, 1) := by decide +kernel
theorem dX7_can_174 : decode cX7_can 174 = .ok (.iconst 2, 1) := by decide +kernel
theorem dX7_can_175 : decode cX7_can 175 = .ok (.invokevirtual 49, 3) := by decide +kernel
theorem dX7_can_178 : decode cX7_can 178 = .ok (.iconst 1, 1) := by decide +kernel
theorem dX7_can_179 : decode cX7_can 179 = .ok (.if_icmp .ne 7, 3) := by decide +kernel
theorem dX7_can_182 : decode cX7_can 182 = .ok (.iconst 1, 1) := by decide +kernel
theorem dX7_can_183 : decode cX7_can 183 = .ok (.goto 4, 3) := by decide +kernel
theorem dX7_can_186 : decode cX7_can 186 = .ok (.iconst 0, 1) := by decide +kernel
theorem dX7_can_187 : decode cX7_can 187 = .ok (.ireturn, 1) := by decide +kernel
theorem dX7_can_188 : decode cX7_can 188 = .ok (.aload_n 0, 1) := by decide +kernel
theorem dX7_can_189 : decode cX7_can 189 = .ok (.iload_n 2, 1) := by decide +kernel
theorem dX7_can_190 : decode cX7_can 190 = .ok (.invokevirtual 131, 3) := by decide +kernel
theorem dX7_can_193 : decode cX7_can 193 = .ok (.ireturn, 1) := by decide +kernel
theorem dX7_follows_0 : decode cX7_follows 0 = .ok (.aload_n 0, 1) := by decide +kernel
theorem dX7_follows_1 : decode cX7_follows 1 = .ok (.getfield 29, 3) := by decide +kernel
theorem dX7_follows_4 : decode cX7_follows 4 = .ok (.iload_n 1, 1) := by decide +kernel
theorem dX7_follows_5 : decode cX7_follows 5 = .ok (.iconst 1, 1) := by decide +kernel
theorem dX7_follows_6 : decode cX7_follows 6 = .ok (.iadd, 1) := by decide +kernel
theorem dX7_follows_7 : decode cX7_follows 7 = .ok (.iaload, 1) := by decide +kernel
theorem dX7_follows_8 : decode cX7_follows 8 = .ok (.istore_n 2, 1) := by decide +kernel
theorem dX7_follows_9 : decode cX7_follows 9 = .ok (.aload_n 0, 1) := by decide +kernel
theorem dX7_follows_10 : decode cX7_follows 10 = .ok (.getfield 29, 3) := by decide +kernel
theorem dX7_follows_13 : decode cX7_follows 13 = .ok (.iload_n 1, 1) := by decide +kernel
theorem dX7_follows_14 : decode cX7_follows 14 = .ok (.iaload, 1) := by decide +kernel
theorem dX7_follows_15 : decode cX7_follows 15 = .ok (.tableswitch 169 97 115 #[132, 169, 169, 169, 106, 169, 169, 169, 169, 169, 169, 169, 169, 115, 89, 169, 169, 159, 149], 89) := by decide +kernel
theorem dX7_follows_104 : decode cX7_follows 104 = .ok (.aload_n 0, 1) := by decide +kernel
theorem dX7_follows_105 : decode cX7_follows 105 = .ok (.iload_n 2, 1) := by decide +kernel
theorem dX7_follows_106 : decode cX7_follows 106 = .ok (.aload_n 0, 1) := by decide +kernel
theorem dX7_follows_107 : decode cX7_follows 107 = .ok (.getfield 29, 3) := by decide +kernel
theorem dX7_follows_110 : decode cX7_follows 110 = .ok (.iload_n 1, 1) := by decide +kernel
theorem dX7_follows_111 : decode cX7_follows 111 = .ok (.iconst 2, 1) := by decide +kernel
theorem dX7_follows_112 : decode cX7_follows 112 = .ok (.iadd, 1) := by decide +kernel
theorem dX7_follows_113 : decode cX7_follows 113 = .ok (.iaload, 1) := by decide +kernel
theorem dX7_follows_114 : decode cX7_follows 114 = .ok (.invokevirtual 82, 3) := by decide +kernel
theorem dX7_follows_117 : decode cX7_follows 117 = .ok (.pop, 1) := by decide +kernel
theorem dX7_follows_118 : decode cX7_follows 118 = .ok (.goto 72, 3) := by decide +kernel
theorem dX7_follows_121 : decode cX7_follows 121 = .ok (.aload_n 0, 1) := by decide +kernel
theorem dX7_follows_122 : decode cX7_follows 122 = .ok (.iload_n 2, 1) := by decide +kernel
theorem dX7_follows_123 : decode cX7_follows 123 = .ok (.invokevirtual 122, 3) := by decide +kernel
theorem dX7_follows_126 : decode cX7_follows 126 = .ok (.pop, 1) := by decide +kernel
theorem dX7_follows_127 : decode cX7_follows 127 = .ok (.goto 63, 3) := by decide +kernel
theorem dX7_follows_130 : decode cX7_follows 130 = .ok (.aload_n 0, 1) := by decide +kernel
theorem dX7_follows_131 : decode cX7_follows 131 = .ok (.iload_n 2, 1) := by decide +kernel
theorem dX7_follows_132 : decode cX7_follows 132 = .ok (.aload_n 0, 1) := by decide +kernel
theorem dX7_follows_133 : decode cX7_follows 133 = .ok (.getfield 29, 3) := by decide +kernel
theorem dX7_follows_136 : decode cX7_follows 136 = .ok (.iload_n 1, 1) := by decide +kernel
theorem dX7_follows_137 : decode cX7_follows 137 = .ok (.iconst 2, 1) := by decide +kernel
theorem dX7_follows_138 : decode cX7_follows 138 = .ok (.iadd, 1) := by decide +kernel
theorem dX7_follows_139 : decode cX7_follows 139 = .ok (.iaload, 1) := by decide +kernel
theorem dX7_follows_140 : decode cX7_follows 140 = .ok (.invokevirtual 104, 3) := by decide +kernel
theorem dX7_follows_143 : decode cX7_follows 143 = .ok (.pop, 1) := by decide +kernel
theorem dX7_follows_144 : decode cX7_follows 144 = .ok (.goto 46, 3) := by decide +kernel
theorem dX7_follows_147 : decode cX7_follows 147 = .ok (.aload_n 0, 1) := by decide +kernel
theorem dX7_follows_148 : decode cX7_follows 148 = .ok (.iload_n 2, 1) := by decide +kernel
theorem dX7_follows_149 : decode cX7_follows 149 = .ok (.aload_n 0, 1) := by decide +kernel
theorem dX7_follows_150 : decode cX7_follows 150 = .ok (.getfield 29, 3) := by decide +kernel
theorem dX7_follows_153 : decode cX7_follows 153 = .ok (.iload_n 1, 1) := by decide +kernel
theorem dX7_follows_154 : decode cX7_follows 154 = .ok (.iconst 2, 1) := by decide +kernel
theorem dX7_follows_155 : decode cX7_follows 155 = .ok (.iadd, 1) := by decide +kernel
theorem dX7_follows_156 : decode cX7_follows 156 = .ok (.iaload, 1) := by decide +kernel
theorem dX7_follows_157 : decode cX7_follows 157 = .ok (.invokevirtual 113, 3) := by decide +kernel
theorem dX7_follows_160 : decode cX7_follows 160 = .ok (.pop, 1) := by decide +kernel
theorem dX7_follows_161 : decode cX7_follows 161 = .ok (.goto 29, 3) := by decide +kernel
theorem dX7_follows_164 : decode cX7_follows 164 = .ok (.aload_n 0, 1) := by decide +kernel
theorem dX7_follows_165 : decode cX7_follows 165 = .ok (.iload_n 2, 1) := by decide +kernel
theorem dX7_follows_166 : decode cX7_follows 166 = .ok (.iconst 2, 1) := by decide +kernel
theorem dX7_follows_167 : decode cX7_follows 167 = .ok (.iconst 1, 1) := by decide +kernel
theorem dX7_follows_168 : decode cX7_follows 168 = .ok (.invokevirtual 72, 3) := by decide +kernel
theorem dX7_follows_171 : decode cX7_follows 171 = .ok (.goto 19, 3) := by decide +kernel
theorem dX7_follows_174 : decode cX7_follows 174 = .ok (.aload_n 0, 1) := by decide +kernel
theorem dX7_follows_175 : decode cX7_follows 175 = .ok (.iload_n 2, 1) := by decide +kernel
theorem dX7_follows_176 : decode cX7_follows 176 = .ok (.iconst 2, 1) := by decide +kernel
theorem dX7_follows_177 : decode cX7_follows 177 = .ok (.iconst 2, 1) := by decide +kernel
theorem dX7_follows_178 : decode cX7_follows 178 = .ok (.invokevirtual 72, 3) := by decide +kernel
theorem dX7_follows_181 : decode cX7_follows 181 = .ok (.goto 9, 3) := by decide +kernel
theorem dX7_follows_184 : decode cX7_follows 184 = .ok (.aload_n 0, 1) := by decide +kernel
theorem dX7_follows_185 : decode cX7_follows 185 = .ok (.iload_n 2, 1) := by decide +kernel
theorem dX7_follows_186 : decode cX7_follows 186 = .ok (.invokevirtual 134, 3) := by decide +kernel
theorem dX7_follows_189 : decode cX7_follows 189 = .ok (.pop, 1) := by decide +kernel
theorem dX7_follows_190 : decode cX7_follows 190 = .ok (.return_, 1) := by decide +kernel
theorem dX7_followsAll_0 : decode cX7_followsAll 0 = .ok (.iconst 0, 1) := by decide +kernel
theorem dX7_followsAll_1 : decode cX7_followsAll 1 = .ok (.istore_n 1, 1) := by decide +kernel
theorem dX7_followsAll_2 : decode cX7_followsAll 2 = .ok (.iload_n 1, 1) := by decide +kernel
theorem dX7_followsAll_3 : decode cX7_followsAll 3 = .ok (.aload_n 0, 1) := by decide +kernel
theorem dX7_followsAll_4 : decode cX7_followsAll 4 = .ok (.getfield 156, 3) := by decide +kernel
theorem dX7_followsAll_7 : decode cX7_followsAll 7 = .ok (.if_icmp .ge 26, 3) := by decide +kernel
theorem dX7_followsAll_10 : decode cX7_followsAll 10 = .ok (.aload_n 0, 1) := by decide +kernel
theorem dX7_followsAll_11 : decode cX7_followsAll 11 = .ok (.iconst 3, 1) := by decide +kernel
theorem dX7_followsAll_12 : decode cX7_followsAll 12 = .ok (.iload_n 1, 1) := by decide +kernel
theorem dX7_followsAll_13 : decode cX7_followsAll 13 = .ok (.imul, 1) := by decide +kernel
theorem dX7_followsAll_14 : decode cX7_followsAll 14 = .ok (.invokevirtual 172, 3) := by decide +kernel
theorem dX7_followsAll_17 : decode cX7_followsAll 17 = .ok (.ifCond .eq 16, 3) := by decide +kernel
theorem dX7_followsAll_20 : decode cX7_followsAll 20 = .ok (.aload_n 0, 1) := by decide +kernel
theorem dX7_followsAll_21 : decode cX7_followsAll 21 = .ok (.iconst 3, 1) := by decide +kernel
theorem dX7_followsAll_22 : decode cX7_followsAll 22 = .ok (.iload_n 1, 1) := by decide +kernel
theorem dX7_followsAll_23 : decode cX7_followsAll 23 = .ok (.imul, 1) := by decide +kernel
theorem dX7_followsAll_24 : decode cX7_followsAll 24 = .ok (.invokevirtual 175, 3) := by decide +kernel
theorem dX7_followsAll_27 : decode cX7_followsAll 27 = .ok (.iinc 1 1, 3) := by decide +kernel
theorem dX7_followsAll_30 : decode cX7_followsAll 30 = .ok (.goto (-28), 3) := by decide +kernel
theorem dX7_followsAll_33 : decode cX7_followsAll 33 = .ok (.iload_n 1, 1) := by decide +kernel
theorem dX7_followsAll_34 : decode cX7_followsAll 34 = .ok (.ireturn, 1) := by decide +kernel
theorem dX7_follow_0 : decode cX7_follow 0 = .ok (.aload_n 0, 1) := by decide +kernel
theorem dX7_follow_1 : decode cX7_follow 1 = .ok (.iconst 0, 1) := by decide +kernel
theorem dX7_follow_2 : decode cX7_follow 2 = .ok (.putfield 38, 3) := by decide +kernel
theorem dX7_follow_5 : decode cX7_follow 5 = .ok (.aload_n 0, 1) := by decide +kernel
theorem dX7_follow_6 : decode cX7_follow 6 = .ok (.invokevirtual 168, 3) := by decide +kernel
theorem dX7_follow_9 : decode cX7_follow 9 = .ok (.ifCond .ne 9, 3) := by decide +kernel
theorem dX7_follow_12 : decode cX7_follow 12 = .ok (.aload_n 0, 1) := by decide +kernel
theorem dX7_follow_13 : decode cX7_follow 13 = .ok (.iconst 1, 1) := by decide +kernel
theorem dX7_follow_14 : decode cX7_follow 14 = .ok (.invokevirtual 76, 3) := by decide +kernel
theorem dX7_follow_17 : decode cX7_follow 17 = .ok (.ireturn, 1) := by decide +kernel
theorem dX7_follow_18 : decode cX7_follow 18 = .ok (.aload_n 0, 1) := by decide +kernel
theorem dX7_follow_19 : decode cX7_follow 19 = .ok (.invokevirtual 179, 3) := by decide +kernel
theorem dX7_follow_22 : decode cX7_follow 22 = .ok (.aload_n 0, 1) := by decide +kernel
theorem dX7_follow_23 : decode cX7_follow 23 = .ok (.getfield 7, 3) := by decide +kernel
theorem dX7_follow_26 : decode cX7_follow 26 = .ok (.iconst 2, 1) := by decide +kernel
theorem dX7_follow_27 : decode cX7_follow 27 = .ok (.iaload, 1) := by decide +kernel
theorem dX7_follow_28 : decode cX7_follow 28 = .ok (.istore_n 1, 1) := by decide +kernel
theorem dX7_follow_29 : decode cX7_follow 29 = .ok (.aload_n 0, 1) := by decide +kernel
theorem dX7_follow_30 : decode cX7_follow 30 = .ok (.invokevirtual 182, 3) := by decide +kernel
theorem dX7_follow_33 : decode cX7_follow 33 = .ok (.aload_n 0, 1) := by decide +kernel
theorem dX7_follow_34 : decode cX7_follow 34 = .ok (.getfield 156, 3) := by decide +kernel
theorem dX7_follow_37 : decode cX7_follow 37 = .ok (.if_icmp .ne 7, 3) := by decide +kernel
theorem dX7_follow_40 : decode cX7_follow 40 = .ok (.iconst 1, 1) := by decide +kernel
theorem dX7_follow_41 : decode cX7_follow 41 = .ok (.goto 4, 3) := by decide +kernel
theorem dX7_follow_44 : decode cX7_follow 44 = .ok (.iconst 0, 1) := by decide +kernel
theorem dX7_follow_45 : decode cX7_follow 45 = .ok (.istore_n 2, 1) := by decide +kernel
theorem dX7_follow_46 : decode cX7_follow 46 = .ok (.aload_n 0, 1) := by decide +kernel
theorem dX7_follow_47 : decode cX7_follow 47 = .ok (.getfield 7, 3) := by decide +kernel
theorem dX7_follow_50 : decode cX7_follow 50 = .ok (.iconst 2, 1) := by decide +kernel
theorem dX7_follow_51 : decode cX7_follow 51 = .ok (.iaload, 1) := by decide +kernel
theorem dX7_follow_52 : decode cX7_follow 52 = .ok (.iload_n 1, 1) := by decide +kernel
theorem dX7_follow_53 : decode cX7_follow 53 = .ok (.isub, 1) := by decide +kernel
theorem dX7_follow_54 : decode cX7_follow 54 = .ok (.istore_n 1, 1) := by decide +kernel
theorem dX7_follow_55 : decode cX7_follow 55 = .ok (.aload_n 0, 1) := by decide +kernel
theorem dX7_follow_56 : decode cX7_follow 56 = .ok (.invokevirtual 185, 3) := by decide +kernel
theorem dX7_follow_59 : decode cX7_follow 59 = .ok (.iload_n 2, 1) := by decide +kernel
theorem dX7_follow_60 : decode cX7_follow 60 = .ok (.ifCond .ne 9, 3) := by decide +kernel
theorem dX7_follow_63 : decode cX7_follow 63 = .ok (.aload_n 0, 1) := by decide +kernel
theorem dX7_follow_64 : decode cX7_follow 64 = .ok (.iconst 2, 1) := by decide +kernel
theorem dX7_follow_65 : decode cX7_follow 65 = .ok (.invokevirtual 76, 3) := by decide +kernel
theorem dX7_follow_68 : decode cX7_follow 68 = .ok (.ireturn, 1) := by decide +kernel
theorem dX7_follow_69 : decode cX7_follow 69 = .ok (.aload_n 0, 1) := by decide +kernel
theorem dX7_follow_70 : decode cX7_follow 70 = .ok (.invokevirtual 79, 3) := by decide +kernel
theorem dX7_follow_73 : decode cX7_follow 73 = .ok (.aload_n 0, 1) := by decide +kernel
theorem dX7_follow_74 : decode cX7_follow 74 = .ok (.invokevirtual 182, 3) := by decide +kernel
theorem dX7_follow_77 : decode cX7_follow 77 = .ok (.pop, 1) := by decide +kernel
theorem dX7_follow_78 : decode cX7_follow 78 = .ok (.aload_n 0, 1) := by decide +kernel
theorem dX7_follow_79 : decode cX7_follow 79 = .ok (.iconst 0, 1) := by decide +kernel
theorem dX7_follow_80 : decode cX7_follow 80 = .ok (.putfield 140, 3) := by decide +kernel
theorem dX7_follow_83 : decode cX7_follow 83 = .ok (.iload_n 1, 1) := by decide +kernel
theorem dX7_follow_84 : decode cX7_follow 84 = .ok (.ireturn, 1) := by decide +kernel
theorem dX7_impossibleOrder_0 : decode cX7_impossibleOrder 0 = .ok (.aload_n 0, 1) := by decide +kernel
theorem dX7_impossibleOrder_1 : decode cX7_impossibleOrder 1 = .ok (.iconst 0, 1) := by decide +kernel
theorem dX7_impossibleOrder_2 : decode cX7_impossibleOrder 2 = .ok (.putfield 38, 3) := by decide +kernel
theorem dX7_impossibleOrder_5 : decode cX7_impossibleOrder 5 = .ok (.aload_n 0, 1) := by decide +kernel
theorem dX7_impossibleOrder_6 : decode cX7_impossibleOrder 6 = .ok (.invokevirtual 168, 3) := by decide +kernel
theorem dX7_impossibleOrder_9 : decode cX7_impossibleOrder 9 = .ok (.ifCond .ne 9, 3) := by decide +kernel
theorem dX7_impossibleOrder_12 : decode cX7_impossibleOrder 12 = .ok (.aload_n 0, 1) := by decide +kernel
theorem dX7_impossibleOrder_13 : decode cX7_impossibleOrder 13 = .ok (.iconst 1, 1) := by decide +kernel
theorem dX7_impossibleOrder_14 : decode cX7_impossibleOrder 14 = .ok (.invokevirtual 76, 3) := by decide +kernel
theorem dX7_impossibleOrder_17 : decode cX7_impossibleOrder 17 = .ok (.ireturn, 1) := by decide +kernel
theorem dX7_impossibleOrder_18 : decode cX7_impossibleOrder 18 = .ok (.aload_n 0, 1) := by decide +kernel
theorem dX7_impossibleOrder_19 : decode cX7_impossibleOrder 19 = .ok (.invokevirtual 179, 3) := by decide +kernel
theorem dX7_impossibleOrder_22 : decode cX7_impossibleOrder 22 = .ok (.aload_n 0, 1) := by decide +kernel
theorem dX7_impossibleOrder_23 : decode cX7_impossibleOrder 23 = .ok (.invokevirtual 182, 3) := by decide +kernel
theorem dX7_impossibleOrder_26 : decode cX7_impossibleOrder 26 = .ok (.istore_n 1, 1) := by decide +kernel
theorem dX7_impossibleOrder_27 : decode cX7_impossibleOrder 27 = .ok (.aload_n 0, 1) := by decide +kernel
theorem dX7_impossibleOrder_28 : decode cX7_impossibleOrder 28 = .ok (.invokevirtual 185, 3) := by decide +kernel
theorem dX7_impossibleOrder_31 : decode cX7_impossibleOrder 31 = .ok (.iload_n 1, 1) := by decide +kernel
theorem dX7_impossibleOrder_32 : decode cX7_impossibleOrder 32 = .ok (.aload_n 0, 1) := by decide +kernel
theorem dX7_impossibleOrder_33 : decode cX7_impossibleOrder 33 = .ok (.getfield 156, 3) := by decide +kernel
theorem dX7_impossibleOrder_36 : decode cX7_impossibleOrder 36 = .ok (.if_icmp .ne 11, 3) := by decide +kernel
theorem dX7_impossibleOrder_39 : decode cX7_impossibleOrder 39 = .ok (.aload_n 0, 1) := by decide +kernel
theorem dX7_impossibleOrder_40 : decode cX7_impossibleOrder 40 = .ok (.iconst 2, 1) := by decide +kernel
theorem dX7_impossibleOrder_41 : decode cX7_impossibleOrder 41 = .ok (.invokevirtual 76, 3) := by decide +kernel
theorem dX7_impossibleOrder_44 : decode cX7_impossibleOrder 44 = .ok (.goto 4, 3) := by decide +kernel
theorem dX7_impossibleOrder_47 : decode cX7_impossibleOrder 47 = .ok (.iload_n 1, 1) := by decide +kernel
theorem dX7_impossibleOrder_48 : decode cX7_impossibleOrder 48 = .ok (.ireturn, 1) := by decide +kernel
theorem dX7_keep_0 : decode cX7_keep 0 = .ok (.aload_n 0, 1) := by decide +kernel
theorem dX7_keep_1 : decode cX7_keep 1 = .ok (.iconst 0, 1) := by decide +kernel
theorem dX7_keep_2 : decode cX7_keep 2 = .ok (.putfield 38, 3) := by decide +kernel
theorem dX7_keep_5 : decode cX7_keep 5 = .ok (.iload_n 1, 1) := by decide +kernel
theorem dX7_keep_6 : decode cX7_keep 6 = .ok (.iconst 0, 1) := by decide +kernel
theorem dX7_keep_7 : decode cX7_keep 7 = .ok (.iconst 1, 1) := by decide +kernel
theorem dX7_keep_8 : decode cX7_keep 8 = .ok (.invokestatic 42, 3) := by decide +kernel
theorem dX7_keep_11 : decode cX7_keep 11 = .ok (.ifCond .ne 9, 3) := by decide +kernel
theorem dX7_keep_14 : decode cX7_keep 14 = .ok (.aload_n 0, 1) := by decide +kernel
theorem dX7_keep_15 : decode cX7_keep 15 = .ok (.iconst 1, 1) := by decide +kernel
theorem dX7_keep_16 : decode cX7_keep 16 = .ok (.putfield 38, 3) := by decide +kernel
theorem dX7_keep_19 : decode cX7_keep 19 = .ok (.return_, 1) := by decide +kernel
theorem dX7_keep_20 : decode cX7_keep 20 = .ok (.iconst 0, 1) := by decide +kernel
theorem dX7_keep_21 : decode cX7_keep 21 = .ok (.istore_n 2, 1) := by decide +kernel
theorem dX7_keep_22 : decode cX7_keep 22 = .ok (.iload_n 2, 1) := by decide +kernel
theorem dX7_keep_23 : decode cX7_keep 23 = .ok (.sipush 213, 3) := by decide +kernel
theorem dX7_keep_26 : decode cX7_keep 26 = .ok (.if_icmp .ge 27, 3) := by decide +kernel
theorem dX7_keep_29 : decode cX7_keep 29 = .ok (.aload_n 0, 1) := by decide +kernel
theorem dX7_keep_30 : decode cX7_keep 30 = .ok (.getfield 19, 3) := by decide +kernel
theorem dX7_keep_33 : decode cX7_keep 33 = .ok (.sipush 213, 3) := by decide +kernel
theorem dX7_keep_36 : decode cX7_keep 36 = .ok (.iload_n 1, 1) := by decide +kernel
theorem dX7_keep_37 : decode cX7_keep 37 = .ok (.imul, 1) := by decide +kernel
theorem dX7_keep_38 : decode cX7_keep 38 = .ok (.iload_n 2, 1) := by decide +kernel
theorem dX7_keep_39 : decode cX7_keep 39 = .ok (.iadd, 1) := by decide +kernel
theorem dX7_keep_40 : decode cX7_keep 40 = .ok (.aload_n 0, 1) := by decide +kernel
theorem dX7_keep_41 : decode cX7_keep 41 = .ok (.getfield 7, 3) := by decide +kernel
theorem dX7_keep_44 : decode cX7_keep 44 = .ok (.iload_n 2, 1) := by decide +kernel
theorem dX7_keep_45 : decode cX7_keep 45 = .ok (.iaload, 1) := by decide +kernel
theorem dX7_keep_46 : decode cX7_keep 46 = .ok (.iastore, 1) := by decide +kernel
theorem dX7_keep_47 : decode cX7_keep 47 = .ok (.iinc 2 1, 3) := by decide +kernel
theorem dX7_keep_50 : decode cX7_keep 50 = .ok (.goto (-28), 3) := by decide +kernel
theorem dX7_keep_53 : decode cX7_keep 53 = .ok (.aload_n 0, 1) := by decide +kernel
theorem dX7_keep_54 : decode cX7_keep 54 = .ok (.getfield 22, 3) := by decide +kernel
theorem dX7_keep_57 : decode cX7_keep 57 = .ok (.iload_n 1, 1) := by decide +kernel
theorem dX7_keep_58 : decode cX7_keep 58 = .ok (.iconst 1, 1) := by decide +kernel
theorem dX7_keep_59 : decode cX7_keep 59 = .ok (.bastore, 1) := by decide +kernel
theorem dX7_keep_60 : decode cX7_keep 60 = .ok (.return_, 1) := by decide +kernel
theorem dX7_goBack_0 : decode cX7_goBack 0 = .ok (.aload_n 0, 1) := by decide +kernel
theorem dX7_goBack_1 : decode cX7_goBack 1 = .ok (.iconst 0, 1) := by decide +kernel
theorem dX7_goBack_2 : decode cX7_goBack 2 = .ok (.putfield 38, 3) := by decide +kernel
theorem dX7_goBack_5 : decode cX7_goBack 5 = .ok (.iload_n 1, 1) := by decide +kernel
theorem dX7_goBack_6 : decode cX7_goBack 6 = .ok (.iconst 0, 1) := by decide +kernel
theorem dX7_goBack_7 : decode cX7_goBack 7 = .ok (.iconst 1, 1) := by decide +kernel
theorem dX7_goBack_8 : decode cX7_goBack 8 = .ok (.invokestatic 42, 3) := by decide +kernel
theorem dX7_goBack_11 : decode cX7_goBack 11 = .ok (.ifCond .ne 9, 3) := by decide +kernel
theorem dX7_goBack_14 : decode cX7_goBack 14 = .ok (.aload_n 0, 1) := by decide +kernel
theorem dX7_goBack_15 : decode cX7_goBack 15 = .ok (.iconst 1, 1) := by decide +kernel
theorem dX7_goBack_16 : decode cX7_goBack 16 = .ok (.putfield 38, 3) := by decide +kernel
theorem dX7_goBack_19 : decode cX7_goBack 19 = .ok (.return_, 1) := by decide +kernel
theorem dX7_goBack_20 : decode cX7_goBack 20 = .ok (.aload_n 0, 1) := by decide +kernel
theorem dX7_goBack_21 : decode cX7_goBack 21 = .ok (.getfield 22, 3) := by decide +kernel
theorem dX7_goBack_24 : decode cX7_goBack 24 = .ok (.iload_n 1, 1) := by decide +kernel
theorem dX7_goBack_25 : decode cX7_goBack 25 = .ok (.baload, 1) := by decide +kernel
theorem dX7_goBack_26 : decode cX7_goBack 26 = .ok (.ifCond .ne 9, 3) := by decide +kernel
theorem dX7_goBack_29 : decode cX7_goBack 29 = .ok (.aload_n 0, 1) := by decide +kernel
theorem dX7_goBack_30 : decode cX7_goBack 30 = .ok (.iconst 2, 1) := by decide +kernel
theorem dX7_goBack_31 : decode cX7_goBack 31 = .ok (.putfield 38, 3) := by decide +kernel
theorem dX7_goBack_34 : decode cX7_goBack 34 = .ok (.return_, 1) := by decide +kernel
theorem dX7_goBack_35 : decode cX7_goBack 35 = .ok (.aload_n 0, 1) := by decide +kernel
theorem dX7_goBack_36 : decode cX7_goBack 36 = .ok (.invokevirtual 79, 3) := by decide +kernel
theorem dX7_goBack_39 : decode cX7_goBack 39 = .ok (.iconst 0, 1) := by decide +kernel
theorem dX7_goBack_40 : decode cX7_goBack 40 = .ok (.istore_n 2, 1) := by decide +kernel
theorem dX7_goBack_41 : decode cX7_goBack 41 = .ok (.iload_n 2, 1) := by decide +kernel
theorem dX7_goBack_42 : decode cX7_goBack 42 = .ok (.sipush 213, 3) := by decide +kernel
theorem dX7_goBack_45 : decode cX7_goBack 45 = .ok (.if_icmp .ge 27, 3) := by decide +kernel
theorem dX7_goBack_48 : decode cX7_goBack 48 = .ok (.aload_n 0, 1) := by decide +kernel
theorem dX7_goBack_49 : decode cX7_goBack 49 = .ok (.getfield 7, 3) := by decide +kernel
theorem dX7_goBack_52 : decode cX7_goBack 52 = .ok (.iload_n 2, 1) := by decide +kernel
theorem dX7_goBack_53 : decode cX7_goBack 53 = .ok (.aload_n 0, 1) := by decide +kernel
theorem dX7_goBack_54 : decode cX7_goBack 54 = .ok (.getfield 19, 3) := by decide +kernel
theorem dX7_goBack_57 : decode cX7_goBack 57 = .ok (.sipush 213, 3) := by decide +kernel
theorem dX7_goBack_60 : decode cX7_goBack 60 = .ok (.iload_n 1, 1) := by decide +kernel
theorem dX7_goBack_61 : decode cX7_goBack 61 = .ok (.imul, 1) := by decide +kernel
theorem dX7_goBack_62 : decode cX7_goBack 62 = .ok (.iload_n 2, 1) := by decide +kernel
theorem dX7_goBack_63 : decode cX7_goBack 63 = .ok (.iadd, 1) := by decide +kernel
theorem dX7_goBack_64 : decode cX7_goBack 64 = .ok (.iaload, 1) := by decide +kernel
theorem dX7_goBack_65 : decode cX7_goBack 65 = .ok (.iastore, 1) := by decide +kernel
theorem dX7_goBack_66 : decode cX7_goBack 66 = .ok (.iinc 2 1, 3) := by decide +kernel
theorem dX7_goBack_69 : decode cX7_goBack 69 = .ok (.goto (-28), 3) := by decide +kernel
theorem dX7_goBack_72 : decode cX7_goBack 72 = .ok (.return_, 1) := by decide +kernel
theorem dX7_undo_0 : decode cX7_undo 0 = .ok (.aload_n 0, 1) := by decide +kernel
theorem dX7_undo_1 : decode cX7_undo 1 = .ok (.iconst 0, 1) := by decide +kernel
theorem dX7_undo_2 : decode cX7_undo 2 = .ok (.putfield 38, 3) := by decide +kernel
theorem dX7_undo_5 : decode cX7_undo 5 = .ok (.aload_n 0, 1) := by decide +kernel
theorem dX7_undo_6 : decode cX7_undo 6 = .ok (.getfield 46, 3) := by decide +kernel
theorem dX7_undo_9 : decode cX7_undo 9 = .ok (.ifCond .ne 9, 3) := by decide +kernel
theorem dX7_undo_12 : decode cX7_undo 12 = .ok (.aload_n 0, 1) := by decide +kernel
theorem dX7_undo_13 : decode cX7_undo 13 = .ok (.iconst 1, 1) := by decide +kernel
theorem dX7_undo_14 : decode cX7_undo 14 = .ok (.putfield 38, 3) := by decide +kernel
theorem dX7_undo_17 : decode cX7_undo 17 = .ok (.return_, 1) := by decide +kernel
theorem dX7_undo_18 : decode cX7_undo 18 = .ok (.aload_n 0, 1) := by decide +kernel
theorem dX7_undo_19 : decode cX7_undo 19 = .ok (.dup, 1) := by decide +kernel
theorem dX7_undo_20 : decode cX7_undo 20 = .ok (.getfield 46, 3) := by decide +kernel
theorem dX7_undo_23 : decode cX7_undo 23 = .ok (.iconst 1, 1) := by decide +kernel
theorem dX7_undo_24 : decode cX7_undo 24 = .ok (.isub, 1) := by decide +kernel
theorem dX7_undo_25 : decode cX7_undo 25 = .ok (.putfield 46, 3) := by decide +kernel
theorem dX7_undo_28 : decode cX7_undo 28 = .ok (.iconst 0, 1) := by decide +kernel
theorem dX7_undo_29 : decode cX7_undo 29 = .ok (.istore_n 1, 1) := by decide +kernel
theorem dX7_undo_30 : decode cX7_undo 30 = .ok (.iload_n 1, 1) := by decide +kernel
theorem dX7_undo_31 : decode cX7_undo 31 = .ok (.sipush 213, 3) := by decide +kernel
theorem dX7_undo_34 : decode cX7_undo 34 = .ok (.if_icmp .ge 30, 3) := by decide +kernel
theorem dX7_undo_37 : decode cX7_undo 37 = .ok (.aload_n 0, 1) := by decide +kernel
theorem dX7_undo_38 : decode cX7_undo 38 = .ok (.getfield 7, 3) := by decide +kernel
theorem dX7_undo_41 : decode cX7_undo 41 = .ok (.iload_n 1, 1) := by decide +kernel
theorem dX7_undo_42 : decode cX7_undo 42 = .ok (.aload_n 0, 1) := by decide +kernel
theorem dX7_undo_43 : decode cX7_undo 43 = .ok (.getfield 16, 3) := by decide +kernel
theorem dX7_undo_46 : decode cX7_undo 46 = .ok (.sipush 213, 3) := by decide +kernel
theorem dX7_undo_49 : decode cX7_undo 49 = .ok (.aload_n 0, 1) := by decide +kernel
theorem dX7_undo_50 : decode cX7_undo 50 = .ok (.getfield 46, 3) := by decide +kernel
theorem dX7_undo_53 : decode cX7_undo 53 = .ok (.imul, 1) := by decide +kernel
theorem dX7_undo_54 : decode cX7_undo 54 = .ok (.iload_n 1, 1) := by decide +kernel
theorem dX7_undo_55 : decode cX7_undo 55 = .ok (.iadd, 1) := by decide +kernel
theorem dX7_undo_56 : decode cX7_undo 56 = .ok (.iaload, 1) := by decide +kernel
theorem dX7_undo_57 : decode cX7_undo 57 = .ok (.iastore, 1) := by decide +kernel
theorem dX7_undo_58 : decode cX7_undo 58 = .ok (.iinc 1 1, 3) := by decide +kernel
theorem dX7_undo_61 : decode cX7_undo 61 = .ok (.goto (-31), 3) := by decide +kernel
theorem dX7_undo_64 : decode cX7_undo 64 = .ok (.return_, 1) := by decide +kernel
theorem dX7_savedStates_0 : decode cX7_savedStates 0 = .ok (.aload_n 0, 1) := by decide +kernel
theorem dX7_savedStates_1 : decode cX7_savedStates 1 = .ok (.iconst 0, 1) := by decide +kernel
theorem dX7_savedStates_2 : decode cX7_savedStates 2 = .ok (.putfield 38, 3) := by decide +kernel
theorem dX7_savedStates_5 : decode cX7_savedStates 5 = .ok (.aload_n 0, 1) := by decide +kernel
theorem dX7_savedStates_6 : decode cX7_savedStates 6 = .ok (.getfield 46, 3) := by decide +kernel
theorem dX7_savedStates_9 : decode cX7_savedStates 9 = .ok (.ireturn, 1) := by decide +kernel
theorem dX7_tickets_0 : decode cX7_tickets 0 = .ok (.aload_n 0, 1) := by decide +kernel
theorem dX7_tickets_1 : decode cX7_tickets 1 = .ok (.iconst 0, 1) := by decide +kernel
theorem dX7_tickets_2 : decode cX7_tickets 2 = .ok (.putfield 38, 3) := by decide +kernel
theorem dX7_tickets_5 : decode cX7_tickets 5 = .ok (.aload_n 0, 1) := by decide +kernel
theorem dX7_tickets_6 : decode cX7_tickets 6 = .ok (.getfield 7, 3) := by decide +kernel
theorem dX7_tickets_9 : decode cX7_tickets 9 = .ok (.iconst 0, 1) := by decide +kernel
theorem dX7_tickets_10 : decode cX7_tickets 10 = .ok (.iaload, 1) := by decide +kernel
theorem dX7_tickets_11 : decode cX7_tickets 11 = .ok (.ireturn, 1) := by decide +kernel
theorem dX7_tells_0 : decode cX7_tells 0 = .ok (.aload_n 0, 1) := by decide +kernel
theorem dX7_tells_1 : decode cX7_tells 1 = .ok (.iconst 0, 1) := by decide +kernel
theorem dX7_tells_2 : decode cX7_tells 2 = .ok (.putfield 38, 3) := by decide +kernel
theorem dX7_tells_5 : decode cX7_tells 5 = .ok (.aload_n 0, 1) := by decide +kernel
theorem dX7_tells_6 : decode cX7_tells 6 = .ok (.iload_n 1, 1) := by decide +kernel
theorem dX7_tells_7 : decode cX7_tells 7 = .ok (.invokevirtual 85, 3) := by decide +kernel
theorem dX7_tells_10 : decode cX7_tells 10 = .ok (.ifCond .eq 12, 3) := by decide +kernel
theorem dX7_tells_13 : decode cX7_tells 13 = .ok (.aload_n 0, 1) := by decide +kernel
theorem dX7_tells_14 : decode cX7_tells 14 = .ok (.iload_n 1, 1) := by decide +kernel
theorem dX7_tells_15 : decode cX7_tells 15 = .ok (.iload_n 2, 1) := by decide +kernel
theorem dX7_tells_16 : decode cX7_tells 16 = .ok (.invokevirtual 49, 3) := by decide +kernel
theorem dX7_tells_19 : decode cX7_tells 19 = .ok (.goto 8, 3) := by decide +kernel
theorem dX7_tells_22 : decode cX7_tells 22 = .ok (.aload_n 0, 1) := by decide +kernel
theorem dX7_tells_23 : decode cX7_tells 23 = .ok (.iconst 1, 1) := by decide +kernel
theorem dX7_tells_24 : decode cX7_tells 24 = .ok (.invokevirtual 76, 3) := by decide +kernel
theorem dX7_tells_27 : decode cX7_tells 27 = .ok (.ireturn, 1) := by decide +kernel
theorem dX7_stateOf_0 : decode cX7_stateOf 0 = .ok (.aload_n 0, 1) := by decide +kernel
theorem dX7_stateOf_1 : decode cX7_stateOf 1 = .ok (.iload_n 1, 1) := by decide +kernel
theorem dX7_stateOf_2 : decode cX7_stateOf 2 = .ok (.iconst 2, 1) := by decide +kernel
theorem dX7_stateOf_3 : decode cX7_stateOf 3 = .ok (.invokevirtual 188, 3) := by decide +kernel
theorem dX7_stateOf_6 : decode cX7_stateOf 6 = .ok (.ireturn, 1) := by decide +kernel
theorem dX7_pointsOf_0 : decode cX7_pointsOf 0 = .ok (.aload_n 0, 1) := by decide +kernel
theorem dX7_pointsOf_1 : decode cX7_pointsOf 1 = .ok (.iload_n 1, 1) := by decide +kernel
theorem dX7_pointsOf_2 : decode cX7_pointsOf 2 = .ok (.iconst 0, 1) := by decide +kernel
theorem dX7_pointsOf_3 : decode cX7_pointsOf 3 = .ok (.invokevirtual 188, 3) := by decide +kernel
theorem dX7_pointsOf_6 : decode cX7_pointsOf 6 = .ok (.ireturn, 1) := by decide +kernel
theorem dX7_priorityOf_0 : decode cX7_priorityOf 0 = .ok (.aload_n 0, 1) := by decide +kernel
theorem dX7_priorityOf_1 : decode cX7_priorityOf 1 = .ok (.iload_n 1, 1) := by decide +kernel
theorem dX7_priorityOf_2 : decode cX7_priorityOf 2 = .ok (.iconst 1, 1) := by decide +kernel
theorem dX7_priorityOf_3 : decode cX7_priorityOf 3 = .ok (.invokevirtual 188, 3) := by decide +kernel
theorem dX7_priorityOf_6 : decode cX7_priorityOf 6 = .ok (.ireturn, 1) := by decide +kernel
theorem dX7_hasOwner_0 : decode cX7_hasOwner 0 = .ok (.aload_n 0, 1) := by decide +kernel
theorem dX7_hasOwner_1 : decode cX7_hasOwner 1 = .ok (.iload_n 1, 1) := by decide +kernel
theorem dX7_hasOwner_2 : decode cX7_hasOwner 2 = .ok (.iconst 3, 1) := by decide +kernel
theorem dX7_hasOwner_3 : decode cX7_hasOwner 3 = .ok (.invokevirtual 188, 3) := by decide +kernel
theorem dX7_hasOwner_6 : decode cX7_hasOwner 6 = .ok (.ifCond .le 7, 3) := by decide +kernel
theorem dX7_hasOwner_9 : decode cX7_hasOwner 9 = .ok (.iconst 1, 1) := by decide +kernel
theorem dX7_hasOwner_10 : decode cX7_hasOwner 10 = .ok (.goto 4, 3) := by decide +kernel
theorem dX7_hasOwner_13 : decode cX7_hasOwner 13 = .ok (.iconst 0, 1) := by decide +kernel
theorem dX7_hasOwner_14 : decode cX7_hasOwner 14 = .ok (.ireturn, 1) := by decide +kernel
theorem dX7_ownerOf_0 : decode cX7_ownerOf 0 = .ok (.aload_n 0, 1) := by decide +kernel
theorem dX7_ownerOf_1 : decode cX7_ownerOf 1 = .ok (.iload_n 1, 1) := by decide +kernel
theorem dX7_ownerOf_2 : decode cX7_ownerOf 2 = .ok (.iconst 3, 1) := by decide +kernel
theorem dX7_ownerOf_3 : decode cX7_ownerOf 3 = .ok (.invokevirtual 188, 3) := by decide +kernel
theorem dX7_ownerOf_6 : decode cX7_ownerOf 6 = .ok (.istore_n 2, 1) := by decide +kernel
theorem dX7_ownerOf_7 : decode cX7_ownerOf 7 = .ok (.aload_n 0, 1) := by decide +kernel
theorem dX7_ownerOf_8 : decode cX7_ownerOf 8 = .ok (.getfield 38, 3) := by decide +kernel
theorem dX7_ownerOf_11 : decode cX7_ownerOf 11 = .ok (.ifCond .le 7, 3) := by decide +kernel
theorem dX7_ownerOf_14 : decode cX7_ownerOf 14 = .ok (.iconst 0, 1) := by decide +kernel
theorem dX7_ownerOf_15 : decode cX7_ownerOf 15 = .ok (.goto 18, 3) := by decide +kernel
theorem dX7_ownerOf_18 : decode cX7_ownerOf 18 = .ok (.iload_n 2, 1) := by decide +kernel
theorem dX7_ownerOf_19 : decode cX7_ownerOf 19 = .ok (.ifCond .ne 11, 3) := by decide +kernel
theorem dX7_ownerOf_22 : decode cX7_ownerOf 22 = .ok (.aload_n 0, 1) := by decide +kernel
theorem dX7_ownerOf_23 : decode cX7_ownerOf 23 = .ok (.iconst 2, 1) := by decide +kernel
theorem dX7_ownerOf_24 : decode cX7_ownerOf 24 = .ok (.invokevirtual 76, 3) := by decide +kernel
theorem dX7_ownerOf_27 : decode cX7_ownerOf 27 = .ok (.goto 6, 3) := by decide +kernel
theorem dX7_ownerOf_30 : decode cX7_ownerOf 30 = .ok (.iload_n 2, 1) := by decide +kernel
theorem dX7_ownerOf_31 : decode cX7_ownerOf 31 = .ok (.iconst 1, 1) := by decide +kernel
theorem dX7_ownerOf_32 : decode cX7_ownerOf 32 = .ok (.isub, 1) := by decide +kernel
theorem dX7_ownerOf_33 : decode cX7_ownerOf 33 = .ok (.ireturn, 1) := by decide +kernel
theorem dX7_isPlanned_0 : decode cX7_isPlanned 0 = .ok (.aload_n 0, 1) := by decide +kernel
theorem dX7_isPlanned_1 : decode cX7_isPlanned 1 = .ok (.iload_n 1, 1) := by decide +kernel
theorem dX7_isPlanned_2 : decode cX7_isPlanned 2 = .ok (.iconst 4, 1) := by decide +kernel
theorem dX7_isPlanned_3 : decode cX7_isPlanned 3 = .ok (.invokevirtual 188, 3) := by decide +kernel
theorem dX7_isPlanned_6 : decode cX7_isPlanned 6 = .ok (.ifCond .le 7, 3) := by decide +kernel
theorem dX7_isPlanned_9 : decode cX7_isPlanned 9 = .ok (.iconst 1, 1) := by decide +kernel
theorem dX7_isPlanned_10 : decode cX7_isPlanned 10 = .ok (.goto 4, 3) := by decide +kernel
theorem dX7_isPlanned_13 : decode cX7_isPlanned 13 = .ok (.iconst 0, 1) := by decide +kernel
theorem dX7_isPlanned_14 : decode cX7_isPlanned 14 = .ok (.ireturn, 1) := by decide +kernel
theorem dX7_milestoneOf_0 : decode cX7_milestoneOf 0 = .ok (.aload_n 0, 1) := by decide +kernel
theorem dX7_milestoneOf_1 : decode cX7_milestoneOf 1 = .ok (.iload_n 1, 1) := by decide +kernel
theorem dX7_milestoneOf_2 : decode cX7_milestoneOf 2 = .ok (.iconst 4, 1) := by decide +kernel
theorem dX7_milestoneOf_3 : decode cX7_milestoneOf 3 = .ok (.invokevirtual 188, 3) := by decide +kernel
theorem dX7_milestoneOf_6 : decode cX7_milestoneOf 6 = .ok (.istore_n 2, 1) := by decide +kernel
theorem dX7_milestoneOf_7 : decode cX7_milestoneOf 7 = .ok (.aload_n 0, 1) := by decide +kernel
theorem dX7_milestoneOf_8 : decode cX7_milestoneOf 8 = .ok (.getfield 38, 3) := by decide +kernel
theorem dX7_milestoneOf_11 : decode cX7_milestoneOf 11 = .ok (.ifCond .le 7, 3) := by decide +kernel
theorem dX7_milestoneOf_14 : decode cX7_milestoneOf 14 = .ok (.iconst 0, 1) := by decide +kernel
theorem dX7_milestoneOf_15 : decode cX7_milestoneOf 15 = .ok (.goto 18, 3) := by decide +kernel
theorem dX7_milestoneOf_18 : decode cX7_milestoneOf 18 = .ok (.iload_n 2, 1) := by decide +kernel
theorem dX7_milestoneOf_19 : decode cX7_milestoneOf 19 = .ok (.ifCond .ne 11, 3) := by decide +kernel
theorem dX7_milestoneOf_22 : decode cX7_milestoneOf 22 = .ok (.aload_n 0, 1) := by decide +kernel
theorem dX7_milestoneOf_23 : decode cX7_milestoneOf 23 = .ok (.iconst 2, 1) := by decide +kernel
theorem dX7_milestoneOf_24 : decode cX7_milestoneOf 24 = .ok (.invokevirtual 76, 3) := by decide +kernel
theorem dX7_milestoneOf_27 : decode cX7_milestoneOf 27 = .ok (.goto 6, 3) := by decide +kernel
theorem dX7_milestoneOf_30 : decode cX7_milestoneOf 30 = .ok (.iload_n 2, 1) := by decide +kernel
theorem dX7_milestoneOf_31 : decode cX7_milestoneOf 31 = .ok (.iconst 1, 1) := by decide +kernel
theorem dX7_milestoneOf_32 : decode cX7_milestoneOf 32 = .ok (.isub, 1) := by decide +kernel
theorem dX7_milestoneOf_33 : decode cX7_milestoneOf 33 = .ok (.ireturn, 1) := by decide +kernel
theorem dX7_openedOn_0 : decode cX7_openedOn 0 = .ok (.aload_n 0, 1) := by decide +kernel
theorem dX7_openedOn_1 : decode cX7_openedOn 1 = .ok (.iload_n 1, 1) := by decide +kernel
theorem dX7_openedOn_2 : decode cX7_openedOn 2 = .ok (.iconst 5, 1) := by decide +kernel
theorem dX7_openedOn_3 : decode cX7_openedOn 3 = .ok (.invokevirtual 188, 3) := by decide +kernel
theorem dX7_openedOn_6 : decode cX7_openedOn 6 = .ok (.ireturn, 1) := by decide +kernel
theorem dX7_closedOn_0 : decode cX7_closedOn 0 = .ok (.aload_n 0, 1) := by decide +kernel
theorem dX7_closedOn_1 : decode cX7_closedOn 1 = .ok (.iload_n 1, 1) := by decide +kernel
theorem dX7_closedOn_2 : decode cX7_closedOn 2 = .ok (.iconst 2, 1) := by decide +kernel
theorem dX7_closedOn_3 : decode cX7_closedOn 3 = .ok (.invokevirtual 188, 3) := by decide +kernel
theorem dX7_closedOn_6 : decode cX7_closedOn 6 = .ok (.istore_n 2, 1) := by decide +kernel
theorem dX7_closedOn_7 : decode cX7_closedOn 7 = .ok (.aload_n 0, 1) := by decide +kernel
theorem dX7_closedOn_8 : decode cX7_closedOn 8 = .ok (.getfield 38, 3) := by decide +kernel
theorem dX7_closedOn_11 : decode cX7_closedOn 11 = .ok (.ifCond .le 7, 3) := by decide +kernel
theorem dX7_closedOn_14 : decode cX7_closedOn 14 = .ok (.iconst 0, 1) := by decide +kernel
theorem dX7_closedOn_15 : decode cX7_closedOn 15 = .ok (.goto 23, 3) := by decide +kernel
theorem dX7_closedOn_18 : decode cX7_closedOn 18 = .ok (.iload_n 2, 1) := by decide +kernel
theorem dX7_closedOn_19 : decode cX7_closedOn 19 = .ok (.iconst 3, 1) := by decide +kernel
theorem dX7_closedOn_20 : decode cX7_closedOn 20 = .ok (.if_icmp .eq 11, 3) := by decide +kernel
theorem dX7_closedOn_23 : decode cX7_closedOn 23 = .ok (.aload_n 0, 1) := by decide +kernel
theorem dX7_closedOn_24 : decode cX7_closedOn 24 = .ok (.iconst 2, 1) := by decide +kernel
theorem dX7_closedOn_25 : decode cX7_closedOn 25 = .ok (.invokevirtual 76, 3) := by decide +kernel
theorem dX7_closedOn_28 : decode cX7_closedOn 28 = .ok (.goto 10, 3) := by decide +kernel
theorem dX7_closedOn_31 : decode cX7_closedOn 31 = .ok (.aload_n 0, 1) := by decide +kernel
theorem dX7_closedOn_32 : decode cX7_closedOn 32 = .ok (.iload_n 1, 1) := by decide +kernel
theorem dX7_closedOn_33 : decode cX7_closedOn 33 = .ok (.bipush 6, 2) := by decide +kernel
theorem dX7_closedOn_35 : decode cX7_closedOn 35 = .ok (.invokevirtual 49, 3) := by decide +kernel
theorem dX7_closedOn_38 : decode cX7_closedOn 38 = .ok (.ireturn, 1) := by decide +kernel
theorem dX7_daysInProgress_0 : decode cX7_daysInProgress 0 = .ok (.aload_n 0, 1) := by decide +kernel
theorem dX7_daysInProgress_1 : decode cX7_daysInProgress 1 = .ok (.iload_n 1, 1) := by decide +kernel
theorem dX7_daysInProgress_2 : decode cX7_daysInProgress 2 = .ok (.bipush 7, 2) := by decide +kernel
theorem dX7_daysInProgress_4 : decode cX7_daysInProgress 4 = .ok (.invokevirtual 188, 3) := by decide +kernel
theorem dX7_daysInProgress_7 : decode cX7_daysInProgress 7 = .ok (.ireturn, 1) := by decide +kernel
theorem dX7_timesSentBack_0 : decode cX7_timesSentBack 0 = .ok (.aload_n 0, 1) := by decide +kernel
theorem dX7_timesSentBack_1 : decode cX7_timesSentBack 1 = .ok (.iload_n 1, 1) := by decide +kernel
theorem dX7_timesSentBack_2 : decode cX7_timesSentBack 2 = .ok (.bipush 8, 2) := by decide +kernel
theorem dX7_timesSentBack_4 : decode cX7_timesSentBack 4 = .ok (.invokevirtual 188, 3) := by decide +kernel
theorem dX7_timesSentBack_7 : decode cX7_timesSentBack 7 = .ok (.ireturn, 1) := by decide +kernel
theorem dX7_needs_0 : decode cX7_needs 0 = .ok (.aload_n 0, 1) := by decide +kernel
theorem dX7_needs_1 : decode cX7_needs 1 = .ok (.iconst 0, 1) := by decide +kernel
theorem dX7_needs_2 : decode cX7_needs 2 = .ok (.putfield 38, 3) := by decide +kernel
theorem dX7_needs_5 : decode cX7_needs 5 = .ok (.aload_n 0, 1) := by decide +kernel
theorem dX7_needs_6 : decode cX7_needs 6 = .ok (.iload_n 1, 1) := by decide +kernel
theorem dX7_needs_7 : decode cX7_needs 7 = .ok (.invokevirtual 85, 3) := by decide +kernel
theorem dX7_needs_10 : decode cX7_needs 10 = .ok (.ifCond .eq 20, 3) := by decide +kernel
theorem dX7_needs_13 : decode cX7_needs 13 = .ok (.aload_n 0, 1) := by decide +kernel
theorem dX7_needs_14 : decode cX7_needs 14 = .ok (.iload_n 2, 1) := by decide +kernel
theorem dX7_needs_15 : decode cX7_needs 15 = .ok (.invokevirtual 85, 3) := by decide +kernel
theorem dX7_needs_18 : decode cX7_needs 18 = .ok (.ifCond .eq 12, 3) := by decide +kernel
theorem dX7_needs_21 : decode cX7_needs 21 = .ok (.aload_n 0, 1) := by decide +kernel
theorem dX7_needs_22 : decode cX7_needs 22 = .ok (.iload_n 1, 1) := by decide +kernel
theorem dX7_needs_23 : decode cX7_needs 23 = .ok (.iload_n 2, 1) := by decide +kernel
theorem dX7_needs_24 : decode cX7_needs 24 = .ok (.invokevirtual 92, 3) := by decide +kernel
theorem dX7_needs_27 : decode cX7_needs 27 = .ok (.goto 16, 3) := by decide +kernel
theorem dX7_needs_30 : decode cX7_needs 30 = .ok (.aload_n 0, 1) := by decide +kernel
theorem dX7_needs_31 : decode cX7_needs 31 = .ok (.iconst 1, 1) := by decide +kernel
theorem dX7_needs_32 : decode cX7_needs 32 = .ok (.invokevirtual 76, 3) := by decide +kernel
theorem dX7_needs_35 : decode cX7_needs 35 = .ok (.ifCond .le 7, 3) := by decide +kernel
theorem dX7_needs_38 : decode cX7_needs 38 = .ok (.iconst 1, 1) := by decide +kernel
theorem dX7_needs_39 : decode cX7_needs 39 = .ok (.goto 4, 3) := by decide +kernel
theorem dX7_needs_42 : decode cX7_needs 42 = .ok (.iconst 0, 1) := by decide +kernel
theorem dX7_needs_43 : decode cX7_needs 43 = .ok (.ireturn, 1) := by decide +kernel
theorem dX7_needsOf_0 : decode cX7_needsOf 0 = .ok (.aload_n 0, 1) := by decide +kernel
theorem dX7_needsOf_1 : decode cX7_needsOf 1 = .ok (.iconst 0, 1) := by decide +kernel
theorem dX7_needsOf_2 : decode cX7_needsOf 2 = .ok (.putfield 38, 3) := by decide +kernel
theorem dX7_needsOf_5 : decode cX7_needsOf 5 = .ok (.aload_n 0, 1) := by decide +kernel
theorem dX7_needsOf_6 : decode cX7_needsOf 6 = .ok (.iload_n 1, 1) := by decide +kernel
theorem dX7_needsOf_7 : decode cX7_needsOf 7 = .ok (.invokevirtual 85, 3) := by decide +kernel
theorem dX7_needsOf_10 : decode cX7_needsOf 10 = .ok (.ifCond .eq 16, 3) := by decide +kernel
theorem dX7_needsOf_13 : decode cX7_needsOf 13 = .ok (.aload_n 0, 1) := by decide +kernel
theorem dX7_needsOf_14 : decode cX7_needsOf 14 = .ok (.iload_n 1, 1) := by decide +kernel
theorem dX7_needsOf_15 : decode cX7_needsOf 15 = .ok (.bipush 9, 2) := by decide +kernel
theorem dX7_needsOf_17 : decode cX7_needsOf 17 = .ok (.invokevirtual 49, 3) := by decide +kernel
theorem dX7_needsOf_20 : decode cX7_needsOf 20 = .ok (.invokestatic 98, 3) := by decide +kernel
theorem dX7_needsOf_23 : decode cX7_needsOf 23 = .ok (.goto 8, 3) := by decide +kernel
theorem dX7_needsOf_26 : decode cX7_needsOf 26 = .ok (.aload_n 0, 1) := by decide +kernel
theorem dX7_needsOf_27 : decode cX7_needsOf 27 = .ok (.iconst 1, 1) := by decide +kernel
theorem dX7_needsOf_28 : decode cX7_needsOf 28 = .ok (.invokevirtual 76, 3) := by decide +kernel
theorem dX7_needsOf_31 : decode cX7_needsOf 31 = .ok (.ireturn, 1) := by decide +kernel
theorem dX7_neededBy_0 : decode cX7_neededBy 0 = .ok (.aload_n 0, 1) := by decide +kernel
theorem dX7_neededBy_1 : decode cX7_neededBy 1 = .ok (.iconst 0, 1) := by decide +kernel
theorem dX7_neededBy_2 : decode cX7_neededBy 2 = .ok (.putfield 38, 3) := by decide +kernel
theorem dX7_neededBy_5 : decode cX7_neededBy 5 = .ok (.aload_n 0, 1) := by decide +kernel
theorem dX7_neededBy_6 : decode cX7_neededBy 6 = .ok (.iload_n 1, 1) := by decide +kernel
theorem dX7_neededBy_7 : decode cX7_neededBy 7 = .ok (.invokevirtual 85, 3) := by decide +kernel
theorem dX7_neededBy_10 : decode cX7_neededBy 10 = .ok (.ifCond .ne 9, 3) := by decide +kernel
theorem dX7_neededBy_13 : decode cX7_neededBy 13 = .ok (.aload_n 0, 1) := by decide +kernel
theorem dX7_neededBy_14 : decode cX7_neededBy 14 = .ok (.iconst 1, 1) := by decide +kernel
theorem dX7_neededBy_15 : decode cX7_neededBy 15 = .ok (.invokevirtual 76, 3) := by decide +kernel
theorem dX7_neededBy_18 : decode cX7_neededBy 18 = .ok (.ireturn, 1) := by decide +kernel
theorem dX7_neededBy_19 : decode cX7_neededBy 19 = .ok (.iconst 0, 1) := by decide +kernel
theorem dX7_neededBy_20 : decode cX7_neededBy 20 = .ok (.istore_n 2, 1) := by decide +kernel
theorem dX7_neededBy_21 : decode cX7_neededBy 21 = .ok (.iconst 0, 1) := by decide +kernel
theorem dX7_neededBy_22 : decode cX7_neededBy 22 = .ok (.istore_n 3, 1) := by decide +kernel
theorem dX7_neededBy_23 : decode cX7_neededBy 23 = .ok (.iload_n 3, 1) := by decide +kernel
theorem dX7_neededBy_24 : decode cX7_neededBy 24 = .ok (.aload_n 0, 1) := by decide +kernel
theorem dX7_neededBy_25 : decode cX7_neededBy 25 = .ok (.getfield 7, 3) := by decide +kernel
theorem dX7_neededBy_28 : decode cX7_neededBy 28 = .ok (.iconst 0, 1) := by decide +kernel
theorem dX7_neededBy_29 : decode cX7_neededBy 29 = .ok (.iaload, 1) := by decide +kernel
theorem dX7_neededBy_30 : decode cX7_neededBy 30 = .ok (.if_icmp .ge 26, 3) := by decide +kernel
theorem dX7_neededBy_33 : decode cX7_neededBy 33 = .ok (.iload_n 2, 1) := by decide +kernel
theorem dX7_neededBy_34 : decode cX7_neededBy 34 = .ok (.aload_n 0, 1) := by decide +kernel
theorem dX7_neededBy_35 : decode cX7_neededBy 35 = .ok (.iload_n 3, 1) := by decide +kernel
theorem dX7_neededBy_36 : decode cX7_neededBy 36 = .ok (.iload_n 1, 1) := by decide +kernel
theorem dX7_neededBy_37 : decode cX7_neededBy 37 = .ok (.invokevirtual 92, 3) := by decide +kernel
theorem dX7_neededBy_40 : decode cX7_neededBy 40 = .ok (.ifCond .eq 7, 3) := by decide +kernel
theorem dX7_neededBy_43 : decode cX7_neededBy 43 = .ok (.iconst 1, 1) := by decide +kernel
theorem dX7_neededBy_44 : decode cX7_neededBy 44 = .ok (.goto 4, 3) := by decide +kernel
theorem dX7_neededBy_47 : decode cX7_neededBy 47 = .ok (.iconst 0, 1) := by decide +kernel
theorem dX7_neededBy_48 : decode cX7_neededBy 48 = .ok (.iadd, 1) := by decide +kernel
theorem dX7_neededBy_49 : decode cX7_neededBy 49 = .ok (.istore_n 2, 1) := by decide +kernel
theorem dX7_neededBy_50 : decode cX7_neededBy 50 = .ok (.iinc 3 1, 3) := by decide +kernel
theorem dX7_neededBy_53 : decode cX7_neededBy 53 = .ok (.goto (-30), 3) := by decide +kernel
theorem dX7_neededBy_56 : decode cX7_neededBy 56 = .ok (.iload_n 2, 1) := by decide +kernel
theorem dX7_neededBy_57 : decode cX7_neededBy 57 = .ok (.ireturn, 1) := by decide +kernel
theorem dX7_isBlocked_0 : decode cX7_isBlocked 0 = .ok (.aload_n 0, 1) := by decide +kernel
theorem dX7_isBlocked_1 : decode cX7_isBlocked 1 = .ok (.iconst 0, 1) := by decide +kernel
theorem dX7_isBlocked_2 : decode cX7_isBlocked 2 = .ok (.putfield 38, 3) := by decide +kernel
theorem dX7_isBlocked_5 : decode cX7_isBlocked 5 = .ok (.aload_n 0, 1) := by decide +kernel
theorem dX7_isBlocked_6 : decode cX7_isBlocked 6 = .ok (.iload_n 1, 1) := by decide +kernel
theorem dX7_isBlocked_7 : decode cX7_isBlocked 7 = .ok (.invokevirtual 85, 3) := by decide +kernel
theorem dX7_isBlocked_10 : decode cX7_isBlocked 10 = .ok (.ifCond .eq 19, 3) := by decide +kernel
theorem dX7_isBlocked_13 : decode cX7_isBlocked 13 = .ok (.aload_n 0, 1) := by decide +kernel
theorem dX7_isBlocked_14 : decode cX7_isBlocked 14 = .ok (.iload_n 1, 1) := by decide +kernel
theorem dX7_isBlocked_15 : decode cX7_isBlocked 15 = .ok (.invokevirtual 61, 3) := by decide +kernel
theorem dX7_isBlocked_18 : decode cX7_isBlocked 18 = .ok (.ifCond .eq 7, 3) := by decide +kernel
theorem dX7_isBlocked_21 : decode cX7_isBlocked 21 = .ok (.iconst 1, 1) := by decide +kernel
theorem dX7_isBlocked_22 : decode cX7_isBlocked 22 = .ok (.goto 20, 3) := by decide +kernel
theorem dX7_isBlocked_25 : decode cX7_isBlocked 25 = .ok (.iconst 0, 1) := by decide +kernel
theorem dX7_isBlocked_26 : decode cX7_isBlocked 26 = .ok (.goto 16, 3) := by decide +kernel
theorem dX7_isBlocked_29 : decode cX7_isBlocked 29 = .ok (.aload_n 0, 1) := by decide +kernel
theorem dX7_isBlocked_30 : decode cX7_isBlocked 30 = .ok (.iconst 1, 1) := by decide +kernel
theorem dX7_isBlocked_31 : decode cX7_isBlocked 31 = .ok (.invokevirtual 76, 3) := by decide +kernel
theorem dX7_isBlocked_34 : decode cX7_isBlocked 34 = .ok (.ifCond .le 7, 3) := by decide +kernel
theorem dX7_isBlocked_37 : decode cX7_isBlocked 37 = .ok (.iconst 1, 1) := by decide +kernel
theorem dX7_isBlocked_38 : decode cX7_isBlocked 38 = .ok (.goto 4, 3) := by decide +kernel
theorem dX7_isBlocked_41 : decode cX7_isBlocked 41 = .ok (.iconst 0, 1) := by decide +kernel
theorem dX7_isBlocked_42 : decode cX7_isBlocked 42 = .ok (.ireturn, 1) := by decide +kernel
theorem dX7_blockersOf_0 : decode cX7_blockersOf 0 = .ok (.aload_n 0, 1) := by decide +kernel
theorem dX7_blockersOf_1 : decode cX7_blockersOf 1 = .ok (.iconst 0, 1) := by decide +kernel
theorem dX7_blockersOf_2 : decode cX7_blockersOf 2 = .ok (.putfield 38, 3) := by decide +kernel
theorem dX7_blockersOf_5 : decode cX7_blockersOf 5 = .ok (.aload_n 0, 1) := by decide +kernel
theorem dX7_blockersOf_6 : decode cX7_blockersOf 6 = .ok (.iload_n 1, 1) := by decide +kernel
theorem dX7_blockersOf_7 : decode cX7_blockersOf 7 = .ok (.invokevirtual 85, 3) := by decide +kernel
theorem dX7_blockersOf_10 : decode cX7_blockersOf 10 = .ok (.ifCond .eq 14, 3) := by decide +kernel
theorem dX7_blockersOf_13 : decode cX7_blockersOf 13 = .ok (.aload_n 0, 1) := by decide +kernel
theorem dX7_blockersOf_14 : decode cX7_blockersOf 14 = .ok (.iload_n 1, 1) := by decide +kernel
theorem dX7_blockersOf_15 : decode cX7_blockersOf 15 = .ok (.invokevirtual 61, 3) := by decide +kernel
theorem dX7_blockersOf_18 : decode cX7_blockersOf 18 = .ok (.invokestatic 98, 3) := by decide +kernel
theorem dX7_blockersOf_21 : decode cX7_blockersOf 21 = .ok (.goto 8, 3) := by decide +kernel
theorem dX7_blockersOf_24 : decode cX7_blockersOf 24 = .ok (.aload_n 0, 1) := by decide +kernel
theorem dX7_blockersOf_25 : decode cX7_blockersOf 25 = .ok (.iconst 1, 1) := by decide +kernel
theorem dX7_blockersOf_26 : decode cX7_blockersOf 26 = .ok (.invokevirtual 76, 3) := by decide +kernel
theorem dX7_blockersOf_29 : decode cX7_blockersOf 29 = .ok (.ireturn, 1) := by decide +kernel
theorem dX7_allNeedsByGoing_0 : decode cX7_allNeedsByGoing 0 = .ok (.aload_n 0, 1) := by decide +kernel
theorem dX7_allNeedsByGoing_1 : decode cX7_allNeedsByGoing 1 = .ok (.iconst 0, 1) := by decide +kernel
theorem dX7_allNeedsByGoing_2 : decode cX7_allNeedsByGoing 2 = .ok (.putfield 38, 3) := by decide +kernel
theorem dX7_allNeedsByGoing_5 : decode cX7_allNeedsByGoing 5 = .ok (.aload_n 0, 1) := by decide +kernel
theorem dX7_allNeedsByGoing_6 : decode cX7_allNeedsByGoing 6 = .ok (.iload_n 1, 1) := by decide +kernel
theorem dX7_allNeedsByGoing_7 : decode cX7_allNeedsByGoing 7 = .ok (.invokevirtual 85, 3) := by decide +kernel
theorem dX7_allNeedsByGoing_10 : decode cX7_allNeedsByGoing 10 = .ok (.ifCond .eq 14, 3) := by decide +kernel
theorem dX7_allNeedsByGoing_13 : decode cX7_allNeedsByGoing 13 = .ok (.aload_n 0, 1) := by decide +kernel
theorem dX7_allNeedsByGoing_14 : decode cX7_allNeedsByGoing 14 = .ok (.iload_n 1, 1) := by decide +kernel
theorem dX7_allNeedsByGoing_15 : decode cX7_allNeedsByGoing 15 = .ok (.invokevirtual 95, 3) := by decide +kernel
theorem dX7_allNeedsByGoing_18 : decode cX7_allNeedsByGoing 18 = .ok (.invokestatic 98, 3) := by decide +kernel
theorem dX7_allNeedsByGoing_21 : decode cX7_allNeedsByGoing 21 = .ok (.goto 8, 3) := by decide +kernel
theorem dX7_allNeedsByGoing_24 : decode cX7_allNeedsByGoing 24 = .ok (.aload_n 0, 1) := by decide +kernel
theorem dX7_allNeedsByGoing_25 : decode cX7_allNeedsByGoing 25 = .ok (.iconst 1, 1) := by decide +kernel
theorem dX7_allNeedsByGoing_26 : decode cX7_allNeedsByGoing 26 = .ok (.invokevirtual 76, 3) := by decide +kernel
theorem dX7_allNeedsByGoing_29 : decode cX7_allNeedsByGoing 29 = .ok (.ireturn, 1) := by decide +kernel
theorem dX7_allNeedsByTable_0 : decode cX7_allNeedsByTable 0 = .ok (.aload_n 0, 1) := by decide +kernel
theorem dX7_allNeedsByTable_1 : decode cX7_allNeedsByTable 1 = .ok (.iconst 0, 1) := by decide +kernel
theorem dX7_allNeedsByTable_2 : decode cX7_allNeedsByTable 2 = .ok (.putfield 38, 3) := by decide +kernel
theorem dX7_allNeedsByTable_5 : decode cX7_allNeedsByTable 5 = .ok (.aload_n 0, 1) := by decide +kernel
theorem dX7_allNeedsByTable_6 : decode cX7_allNeedsByTable 6 = .ok (.iload_n 1, 1) := by decide +kernel
theorem dX7_allNeedsByTable_7 : decode cX7_allNeedsByTable 7 = .ok (.invokevirtual 85, 3) := by decide +kernel
theorem dX7_allNeedsByTable_10 : decode cX7_allNeedsByTable 10 = .ok (.ifCond .eq 14, 3) := by decide +kernel
theorem dX7_allNeedsByTable_13 : decode cX7_allNeedsByTable 13 = .ok (.aload_n 0, 1) := by decide +kernel
theorem dX7_allNeedsByTable_14 : decode cX7_allNeedsByTable 14 = .ok (.iload_n 1, 1) := by decide +kernel
theorem dX7_allNeedsByTable_15 : decode cX7_allNeedsByTable 15 = .ok (.invokevirtual 95, 3) := by decide +kernel
theorem dX7_allNeedsByTable_18 : decode cX7_allNeedsByTable 18 = .ok (.invokestatic 98, 3) := by decide +kernel
theorem dX7_allNeedsByTable_21 : decode cX7_allNeedsByTable 21 = .ok (.goto 8, 3) := by decide +kernel
theorem dX7_allNeedsByTable_24 : decode cX7_allNeedsByTable 24 = .ok (.aload_n 0, 1) := by decide +kernel
theorem dX7_allNeedsByTable_25 : decode cX7_allNeedsByTable 25 = .ok (.iconst 1, 1) := by decide +kernel
theorem dX7_allNeedsByTable_26 : decode cX7_allNeedsByTable 26 = .ok (.invokevirtual 76, 3) := by decide +kernel
theorem dX7_allNeedsByTable_29 : decode cX7_allNeedsByTable 29 = .ok (.ireturn, 1) := by decide +kernel
theorem dX7_chainOf_0 : decode cX7_chainOf 0 = .ok (.aload_n 0, 1) := by decide +kernel
theorem dX7_chainOf_1 : decode cX7_chainOf 1 = .ok (.iconst 0, 1) := by decide +kernel
theorem dX7_chainOf_2 : decode cX7_chainOf 2 = .ok (.putfield 38, 3) := by decide +kernel
theorem dX7_chainOf_5 : decode cX7_chainOf 5 = .ok (.aload_n 0, 1) := by decide +kernel
theorem dX7_chainOf_6 : decode cX7_chainOf 6 = .ok (.iload_n 1, 1) := by decide +kernel
theorem dX7_chainOf_7 : decode cX7_chainOf 7 = .ok (.invokevirtual 85, 3) := by decide +kernel
theorem dX7_chainOf_10 : decode cX7_chainOf 10 = .ok (.ifCond .eq 11, 3) := by decide +kernel
theorem dX7_chainOf_13 : decode cX7_chainOf 13 = .ok (.aload_n 0, 1) := by decide +kernel
theorem dX7_chainOf_14 : decode cX7_chainOf 14 = .ok (.iload_n 1, 1) := by decide +kernel
theorem dX7_chainOf_15 : decode cX7_chainOf 15 = .ok (.invokevirtual 191, 3) := by decide +kernel
theorem dX7_chainOf_18 : decode cX7_chainOf 18 = .ok (.goto 8, 3) := by decide +kernel
theorem dX7_chainOf_21 : decode cX7_chainOf 21 = .ok (.aload_n 0, 1) := by decide +kernel
theorem dX7_chainOf_22 : decode cX7_chainOf 22 = .ok (.iconst 1, 1) := by decide +kernel
theorem dX7_chainOf_23 : decode cX7_chainOf 23 = .ok (.invokevirtual 76, 3) := by decide +kernel
theorem dX7_chainOf_26 : decode cX7_chainOf 26 = .ok (.ireturn, 1) := by decide +kernel
theorem dX7_criticalByTrying_0 : decode cX7_criticalByTrying 0 = .ok (.aload_n 0, 1) := by decide +kernel
theorem dX7_criticalByTrying_1 : decode cX7_criticalByTrying 1 = .ok (.iconst 0, 1) := by decide +kernel
theorem dX7_criticalByTrying_2 : decode cX7_criticalByTrying 2 = .ok (.putfield 38, 3) := by decide +kernel
theorem dX7_criticalByTrying_5 : decode cX7_criticalByTrying 5 = .ok (.aload_n 0, 1) := by decide +kernel
theorem dX7_criticalByTrying_6 : decode cX7_criticalByTrying 6 = .ok (.invokevirtual 194, 3) := by decide +kernel
theorem dX7_criticalByTrying_9 : decode cX7_criticalByTrying 9 = .ok (.ireturn, 1) := by decide +kernel
theorem dX7_criticalByOrder_0 : decode cX7_criticalByOrder 0 = .ok (.aload_n 0, 1) := by decide +kernel
theorem dX7_criticalByOrder_1 : decode cX7_criticalByOrder 1 = .ok (.iconst 0, 1) := by decide +kernel
theorem dX7_criticalByOrder_2 : decode cX7_criticalByOrder 2 = .ok (.putfield 38, 3) := by decide +kernel
theorem dX7_criticalByOrder_5 : decode cX7_criticalByOrder 5 = .ok (.aload_n 0, 1) := by decide +kernel
theorem dX7_criticalByOrder_6 : decode cX7_criticalByOrder 6 = .ok (.invokevirtual 194, 3) := by decide +kernel
theorem dX7_criticalByOrder_9 : decode cX7_criticalByOrder 9 = .ok (.ireturn, 1) := by decide +kernel
theorem dX7_capacityOf_0 : decode cX7_capacityOf 0 = .ok (.aload_n 0, 1) := by decide +kernel
theorem dX7_capacityOf_1 : decode cX7_capacityOf 1 = .ok (.iconst 0, 1) := by decide +kernel
theorem dX7_capacityOf_2 : decode cX7_capacityOf 2 = .ok (.putfield 38, 3) := by decide +kernel
theorem dX7_capacityOf_5 : decode cX7_capacityOf 5 = .ok (.iload_n 1, 1) := by decide +kernel
theorem dX7_capacityOf_6 : decode cX7_capacityOf 6 = .ok (.invokestatic 107, 3) := by decide +kernel
theorem dX7_capacityOf_9 : decode cX7_capacityOf 9 = .ok (.ifCond .eq 14, 3) := by decide +kernel
theorem dX7_capacityOf_12 : decode cX7_capacityOf 12 = .ok (.aload_n 0, 1) := by decide +kernel
theorem dX7_capacityOf_13 : decode cX7_capacityOf 13 = .ok (.getfield 7, 3) := by decide +kernel
theorem dX7_capacityOf_16 : decode cX7_capacityOf 16 = .ok (.iconst 4, 1) := by decide +kernel
theorem dX7_capacityOf_17 : decode cX7_capacityOf 17 = .ok (.iload_n 1, 1) := by decide +kernel
theorem dX7_capacityOf_18 : decode cX7_capacityOf 18 = .ok (.iadd, 1) := by decide +kernel
theorem dX7_capacityOf_19 : decode cX7_capacityOf 19 = .ok (.iaload, 1) := by decide +kernel
theorem dX7_capacityOf_20 : decode cX7_capacityOf 20 = .ok (.goto 8, 3) := by decide +kernel
theorem dX7_capacityOf_23 : decode cX7_capacityOf 23 = .ok (.aload_n 0, 1) := by decide +kernel
theorem dX7_capacityOf_24 : decode cX7_capacityOf 24 = .ok (.iconst 1, 1) := by decide +kernel
theorem dX7_capacityOf_25 : decode cX7_capacityOf 25 = .ok (.invokevirtual 76, 3) := by decide +kernel
theorem dX7_capacityOf_28 : decode cX7_capacityOf 28 = .ok (.ireturn, 1) := by decide +kernel
theorem dX7_loadByTickets_0 : decode cX7_loadByTickets 0 = .ok (.aload_n 0, 1) := by decide +kernel
theorem dX7_loadByTickets_1 : decode cX7_loadByTickets 1 = .ok (.iconst 0, 1) := by decide +kernel
theorem dX7_loadByTickets_2 : decode cX7_loadByTickets 2 = .ok (.putfield 38, 3) := by decide +kernel
theorem dX7_loadByTickets_5 : decode cX7_loadByTickets 5 = .ok (.iload_n 1, 1) := by decide +kernel
theorem dX7_loadByTickets_6 : decode cX7_loadByTickets 6 = .ok (.invokestatic 107, 3) := by decide +kernel
theorem dX7_loadByTickets_9 : decode cX7_loadByTickets 9 = .ok (.ifCond .eq 11, 3) := by decide +kernel
theorem dX7_loadByTickets_12 : decode cX7_loadByTickets 12 = .ok (.aload_n 0, 1) := by decide +kernel
theorem dX7_loadByTickets_13 : decode cX7_loadByTickets 13 = .ok (.iload_n 1, 1) := by decide +kernel
theorem dX7_loadByTickets_14 : decode cX7_loadByTickets 14 = .ok (.invokevirtual 69, 3) := by decide +kernel
theorem dX7_loadByTickets_17 : decode cX7_loadByTickets 17 = .ok (.goto 8, 3) := by decide +kernel
theorem dX7_loadByTickets_20 : decode cX7_loadByTickets 20 = .ok (.aload_n 0, 1) := by decide +kernel
theorem dX7_loadByTickets_21 : decode cX7_loadByTickets 21 = .ok (.iconst 1, 1) := by decide +kernel
theorem dX7_loadByTickets_22 : decode cX7_loadByTickets 22 = .ok (.invokevirtual 76, 3) := by decide +kernel
theorem dX7_loadByTickets_25 : decode cX7_loadByTickets 25 = .ok (.ireturn, 1) := by decide +kernel
theorem dX7_loadByAccount_0 : decode cX7_loadByAccount 0 = .ok (.aload_n 0, 1) := by decide +kernel
theorem dX7_loadByAccount_1 : decode cX7_loadByAccount 1 = .ok (.iconst 0, 1) := by decide +kernel
theorem dX7_loadByAccount_2 : decode cX7_loadByAccount 2 = .ok (.putfield 38, 3) := by decide +kernel
theorem dX7_loadByAccount_5 : decode cX7_loadByAccount 5 = .ok (.iload_n 1, 1) := by decide +kernel
theorem dX7_loadByAccount_6 : decode cX7_loadByAccount 6 = .ok (.invokestatic 107, 3) := by decide +kernel
theorem dX7_loadByAccount_9 : decode cX7_loadByAccount 9 = .ok (.ifCond .eq 11, 3) := by decide +kernel
theorem dX7_loadByAccount_12 : decode cX7_loadByAccount 12 = .ok (.aload_n 0, 1) := by decide +kernel
theorem dX7_loadByAccount_13 : decode cX7_loadByAccount 13 = .ok (.iload_n 1, 1) := by decide +kernel
theorem dX7_loadByAccount_14 : decode cX7_loadByAccount 14 = .ok (.invokevirtual 69, 3) := by decide +kernel
theorem dX7_loadByAccount_17 : decode cX7_loadByAccount 17 = .ok (.goto 8, 3) := by decide +kernel
theorem dX7_loadByAccount_20 : decode cX7_loadByAccount 20 = .ok (.aload_n 0, 1) := by decide +kernel
theorem dX7_loadByAccount_21 : decode cX7_loadByAccount 21 = .ok (.iconst 1, 1) := by decide +kernel
theorem dX7_loadByAccount_22 : decode cX7_loadByAccount 22 = .ok (.invokevirtual 76, 3) := by decide +kernel
theorem dX7_loadByAccount_25 : decode cX7_loadByAccount 25 = .ok (.ireturn, 1) := by decide +kernel
theorem dX7_progressOf_0 : decode cX7_progressOf 0 = .ok (.iconst 0, 1) := by decide +kernel
theorem dX7_progressOf_1 : decode cX7_progressOf 1 = .ok (.istore_n 2, 1) := by decide +kernel
theorem dX7_progressOf_2 : decode cX7_progressOf 2 = .ok (.iconst 0, 1) := by decide +kernel
theorem dX7_progressOf_3 : decode cX7_progressOf 3 = .ok (.istore_n 3, 1) := by decide +kernel
theorem dX7_progressOf_4 : decode cX7_progressOf 4 = .ok (.iload_n 3, 1) := by decide +kernel
theorem dX7_progressOf_5 : decode cX7_progressOf 5 = .ok (.aload_n 0, 1) := by decide +kernel
theorem dX7_progressOf_6 : decode cX7_progressOf 6 = .ok (.getfield 7, 3) := by decide +kernel
theorem dX7_progressOf_9 : decode cX7_progressOf 9 = .ok (.iconst 0, 1) := by decide +kernel
theorem dX7_progressOf_10 : decode cX7_progressOf 10 = .ok (.iaload, 1) := by decide +kernel
theorem dX7_progressOf_11 : decode cX7_progressOf 11 = .ok (.if_icmp .ge 39, 3) := by decide +kernel
theorem dX7_progressOf_14 : decode cX7_progressOf 14 = .ok (.iload_n 2, 1) := by decide +kernel
theorem dX7_progressOf_15 : decode cX7_progressOf 15 = .ok (.aload_n 0, 1) := by decide +kernel
theorem dX7_progressOf_16 : decode cX7_progressOf 16 = .ok (.iload_n 3, 1) := by decide +kernel
theorem dX7_progressOf_17 : decode cX7_progressOf 17 = .ok (.iconst 3, 1) := by decide +kernel
theorem dX7_progressOf_18 : decode cX7_progressOf 18 = .ok (.invokevirtual 49, 3) := by decide +kernel
theorem dX7_progressOf_21 : decode cX7_progressOf 21 = .ok (.iload_n 1, 1) := by decide +kernel
theorem dX7_progressOf_22 : decode cX7_progressOf 22 = .ok (.iconst 1, 1) := by decide +kernel
theorem dX7_progressOf_23 : decode cX7_progressOf 23 = .ok (.iadd, 1) := by decide +kernel
theorem dX7_progressOf_24 : decode cX7_progressOf 24 = .ok (.if_icmp .ne 17, 3) := by decide +kernel
theorem dX7_progressOf_27 : decode cX7_progressOf 27 = .ok (.aload_n 0, 1) := by decide +kernel
theorem dX7_progressOf_28 : decode cX7_progressOf 28 = .ok (.iload_n 3, 1) := by decide +kernel
theorem dX7_progressOf_29 : decode cX7_progressOf 29 = .ok (.iconst 2, 1) := by decide +kernel
theorem dX7_progressOf_30 : decode cX7_progressOf 30 = .ok (.invokevirtual 49, 3) := by decide +kernel
theorem dX7_progressOf_33 : decode cX7_progressOf 33 = .ok (.iconst 1, 1) := by decide +kernel
theorem dX7_progressOf_34 : decode cX7_progressOf 34 = .ok (.if_icmp .ne 7, 3) := by decide +kernel
theorem dX7_progressOf_37 : decode cX7_progressOf 37 = .ok (.iconst 1, 1) := by decide +kernel
theorem dX7_progressOf_38 : decode cX7_progressOf 38 = .ok (.goto 4, 3) := by decide +kernel
theorem dX7_progressOf_41 : decode cX7_progressOf 41 = .ok (.iconst 0, 1) := by decide +kernel
theorem dX7_progressOf_42 : decode cX7_progressOf 42 = .ok (.iadd, 1) := by decide +kernel
theorem dX7_progressOf_43 : decode cX7_progressOf 43 = .ok (.istore_n 2, 1) := by decide +kernel
theorem dX7_progressOf_44 : decode cX7_progressOf 44 = .ok (.iinc 3 1, 3) := by decide +kernel
theorem dX7_progressOf_47 : decode cX7_progressOf 47 = .ok (.goto (-43), 3) := by decide +kernel
theorem dX7_progressOf_50 : decode cX7_progressOf 50 = .ok (.iload_n 2, 1) := by decide +kernel
theorem dX7_progressOf_51 : decode cX7_progressOf 51 = .ok (.ireturn, 1) := by decide +kernel
theorem dX7_inProgressOf_0 : decode cX7_inProgressOf 0 = .ok (.aload_n 0, 1) := by decide +kernel
theorem dX7_inProgressOf_1 : decode cX7_inProgressOf 1 = .ok (.iconst 0, 1) := by decide +kernel
theorem dX7_inProgressOf_2 : decode cX7_inProgressOf 2 = .ok (.putfield 38, 3) := by decide +kernel
theorem dX7_inProgressOf_5 : decode cX7_inProgressOf 5 = .ok (.iload_n 1, 1) := by decide +kernel
theorem dX7_inProgressOf_6 : decode cX7_inProgressOf 6 = .ok (.invokestatic 107, 3) := by decide +kernel
theorem dX7_inProgressOf_9 : decode cX7_inProgressOf 9 = .ok (.ifCond .eq 11, 3) := by decide +kernel
theorem dX7_inProgressOf_12 : decode cX7_inProgressOf 12 = .ok (.aload_n 0, 1) := by decide +kernel
theorem dX7_inProgressOf_13 : decode cX7_inProgressOf 13 = .ok (.iload_n 1, 1) := by decide +kernel
theorem dX7_inProgressOf_14 : decode cX7_inProgressOf 14 = .ok (.invokevirtual 197, 3) := by decide +kernel
theorem dX7_inProgressOf_17 : decode cX7_inProgressOf 17 = .ok (.goto 8, 3) := by decide +kernel
theorem dX7_inProgressOf_20 : decode cX7_inProgressOf 20 = .ok (.aload_n 0, 1) := by decide +kernel
theorem dX7_inProgressOf_21 : decode cX7_inProgressOf 21 = .ok (.iconst 1, 1) := by decide +kernel
theorem dX7_inProgressOf_22 : decode cX7_inProgressOf 22 = .ok (.invokevirtual 76, 3) := by decide +kernel
theorem dX7_inProgressOf_25 : decode cX7_inProgressOf 25 = .ok (.ireturn, 1) := by decide +kernel
theorem dX7_doneOf_0 : decode cX7_doneOf 0 = .ok (.iconst 0, 1) := by decide +kernel
theorem dX7_doneOf_1 : decode cX7_doneOf 1 = .ok (.istore_n 2, 1) := by decide +kernel
theorem dX7_doneOf_2 : decode cX7_doneOf 2 = .ok (.iconst 0, 1) := by decide +kernel
theorem dX7_doneOf_3 : decode cX7_doneOf 3 = .ok (.istore_n 3, 1) := by decide +kernel
theorem dX7_doneOf_4 : decode cX7_doneOf 4 = .ok (.iload_n 3, 1) := by decide +kernel
theorem dX7_doneOf_5 : decode cX7_doneOf 5 = .ok (.aload_n 0, 1) := by decide +kernel
theorem dX7_doneOf_6 : decode cX7_doneOf 6 = .ok (.getfield 7, 3) := by decide +kernel
theorem dX7_doneOf_9 : decode cX7_doneOf 9 = .ok (.iconst 0, 1) := by decide +kernel
theorem dX7_doneOf_10 : decode cX7_doneOf 10 = .ok (.iaload, 1) := by decide +kernel
theorem dX7_doneOf_11 : decode cX7_doneOf 11 = .ok (.if_icmp .ge 44, 3) := by decide +kernel
theorem dX7_doneOf_14 : decode cX7_doneOf 14 = .ok (.iload_n 2, 1) := by decide +kernel
theorem dX7_doneOf_15 : decode cX7_doneOf 15 = .ok (.aload_n 0, 1) := by decide +kernel
theorem dX7_doneOf_16 : decode cX7_doneOf 16 = .ok (.iload_n 3, 1) := by decide +kernel
theorem dX7_doneOf_17 : decode cX7_doneOf 17 = .ok (.iconst 3, 1) := by decide +kernel
theorem dX7_doneOf_18 : decode cX7_doneOf 18 = .ok (.invokevirtual 49, 3) := by decide +kernel
theorem dX7_doneOf_21 : decode cX7_doneOf 21 = .ok (.iload_n 1, 1) := by decide +kernel
theorem dX7_doneOf_22 : decode cX7_doneOf 22 = .ok (.iconst 1, 1) := by decide +kernel
theorem dX7_doneOf_23 : decode cX7_doneOf 23 = .ok (.iadd, 1) := by decide +kernel
theorem dX7_doneOf_24 : decode cX7_doneOf 24 = .ok (.if_icmp .ne 22, 3) := by decide +kernel
theorem dX7_doneOf_27 : decode cX7_doneOf 27 = .ok (.aload_n 0, 1) := by decide +kernel
theorem dX7_doneOf_28 : decode cX7_doneOf 28 = .ok (.iload_n 3, 1) := by decide +kernel
theorem dX7_doneOf_29 : decode cX7_doneOf 29 = .ok (.iconst 2, 1) := by decide +kernel
theorem dX7_doneOf_30 : decode cX7_doneOf 30 = .ok (.invokevirtual 49, 3) := by decide +kernel
theorem dX7_doneOf_33 : decode cX7_doneOf 33 = .ok (.iconst 3, 1) := by decide +kernel
theorem dX7_doneOf_34 : decode cX7_doneOf 34 = .ok (.if_icmp .ne 12, 3) := by decide +kernel
theorem dX7_doneOf_37 : decode cX7_doneOf 37 = .ok (.aload_n 0, 1) := by decide +kernel
theorem dX7_doneOf_38 : decode cX7_doneOf 38 = .ok (.iload_n 3, 1) := by decide +kernel
theorem dX7_doneOf_39 : decode cX7_doneOf 39 = .ok (.iconst 0, 1) := by decide +kernel
theorem dX7_doneOf_40 : decode cX7_doneOf 40 = .ok (.invokevirtual 49, 3) := by decide +kernel
theorem dX7_doneOf_43 : decode cX7_doneOf 43 = .ok (.goto 4, 3) := by decide +kernel
theorem dX7_doneOf_46 : decode cX7_doneOf 46 = .ok (.iconst 0, 1) := by decide +kernel
theorem dX7_doneOf_47 : decode cX7_doneOf 47 = .ok (.iadd, 1) := by decide +kernel
theorem dX7_doneOf_48 : decode cX7_doneOf 48 = .ok (.istore_n 2, 1) := by decide +kernel
theorem dX7_doneOf_49 : decode cX7_doneOf 49 = .ok (.iinc 3 1, 3) := by decide +kernel
theorem dX7_doneOf_52 : decode cX7_doneOf 52 = .ok (.goto (-48), 3) := by decide +kernel
theorem dX7_doneOf_55 : decode cX7_doneOf 55 = .ok (.iload_n 2, 1) := by decide +kernel
theorem dX7_doneOf_56 : decode cX7_doneOf 56 = .ok (.ireturn, 1) := by decide +kernel
theorem dX7_donePointsOf_0 : decode cX7_donePointsOf 0 = .ok (.aload_n 0, 1) := by decide +kernel
theorem dX7_donePointsOf_1 : decode cX7_donePointsOf 1 = .ok (.iconst 0, 1) := by decide +kernel
theorem dX7_donePointsOf_2 : decode cX7_donePointsOf 2 = .ok (.putfield 38, 3) := by decide +kernel
theorem dX7_donePointsOf_5 : decode cX7_donePointsOf 5 = .ok (.iload_n 1, 1) := by decide +kernel
theorem dX7_donePointsOf_6 : decode cX7_donePointsOf 6 = .ok (.invokestatic 107, 3) := by decide +kernel
theorem dX7_donePointsOf_9 : decode cX7_donePointsOf 9 = .ok (.ifCond .eq 11, 3) := by decide +kernel
theorem dX7_donePointsOf_12 : decode cX7_donePointsOf 12 = .ok (.aload_n 0, 1) := by decide +kernel
theorem dX7_donePointsOf_13 : decode cX7_donePointsOf 13 = .ok (.iload_n 1, 1) := by decide +kernel
theorem dX7_donePointsOf_14 : decode cX7_donePointsOf 14 = .ok (.invokevirtual 200, 3) := by decide +kernel
theorem dX7_donePointsOf_17 : decode cX7_donePointsOf 17 = .ok (.goto 8, 3) := by decide +kernel
theorem dX7_donePointsOf_20 : decode cX7_donePointsOf 20 = .ok (.aload_n 0, 1) := by decide +kernel
theorem dX7_donePointsOf_21 : decode cX7_donePointsOf 21 = .ok (.iconst 1, 1) := by decide +kernel
theorem dX7_donePointsOf_22 : decode cX7_donePointsOf 22 = .ok (.invokevirtual 76, 3) := by decide +kernel
theorem dX7_donePointsOf_25 : decode cX7_donePointsOf 25 = .ok (.ireturn, 1) := by decide +kernel
theorem dX7_freest_0 : decode cX7_freest 0 = .ok (.iconst 0, 1) := by decide +kernel
theorem dX7_freest_1 : decode cX7_freest 1 = .ok (.istore_n 1, 1) := by decide +kernel
theorem dX7_freest_2 : decode cX7_freest 2 = .ok (.iconst 1, 1) := by decide +kernel
theorem dX7_freest_3 : decode cX7_freest 3 = .ok (.istore_n 2, 1) := by decide +kernel
theorem dX7_freest_4 : decode cX7_freest 4 = .ok (.iload_n 2, 1) := by decide +kernel
theorem dX7_freest_5 : decode cX7_freest 5 = .ok (.iconst 5, 1) := by decide +kernel
theorem dX7_freest_6 : decode cX7_freest 6 = .ok (.if_icmp .ge 46, 3) := by decide +kernel
theorem dX7_freest_9 : decode cX7_freest 9 = .ok (.aload_n 0, 1) := by decide +kernel
theorem dX7_freest_10 : decode cX7_freest 10 = .ok (.getfield 7, 3) := by decide +kernel
theorem dX7_freest_13 : decode cX7_freest 13 = .ok (.iconst 4, 1) := by decide +kernel
theorem dX7_freest_14 : decode cX7_freest 14 = .ok (.iload_n 2, 1) := by decide +kernel
theorem dX7_freest_15 : decode cX7_freest 15 = .ok (.iadd, 1) := by decide +kernel
theorem dX7_freest_16 : decode cX7_freest 16 = .ok (.iaload, 1) := by decide +kernel
theorem dX7_freest_17 : decode cX7_freest 17 = .ok (.aload_n 0, 1) := by decide +kernel
theorem dX7_freest_18 : decode cX7_freest 18 = .ok (.iload_n 2, 1) := by decide +kernel
theorem dX7_freest_19 : decode cX7_freest 19 = .ok (.invokevirtual 69, 3) := by decide +kernel
theorem dX7_freest_22 : decode cX7_freest 22 = .ok (.isub, 1) := by decide +kernel
theorem dX7_freest_23 : decode cX7_freest 23 = .ok (.aload_n 0, 1) := by decide +kernel
theorem dX7_freest_24 : decode cX7_freest 24 = .ok (.getfield 7, 3) := by decide +kernel
theorem dX7_freest_27 : decode cX7_freest 27 = .ok (.iconst 4, 1) := by decide +kernel
theorem dX7_freest_28 : decode cX7_freest 28 = .ok (.iload_n 1, 1) := by decide +kernel
theorem dX7_freest_29 : decode cX7_freest 29 = .ok (.iadd, 1) := by decide +kernel
theorem dX7_freest_30 : decode cX7_freest 30 = .ok (.iaload, 1) := by decide +kernel
theorem dX7_freest_31 : decode cX7_freest 31 = .ok (.aload_n 0, 1) := by decide +kernel
theorem dX7_freest_32 : decode cX7_freest 32 = .ok (.iload_n 1, 1) := by decide +kernel
theorem dX7_freest_33 : decode cX7_freest 33 = .ok (.invokevirtual 69, 3) := by decide +kernel
theorem dX7_freest_36 : decode cX7_freest 36 = .ok (.isub, 1) := by decide +kernel
theorem dX7_freest_37 : decode cX7_freest 37 = .ok (.if_icmp .le 7, 3) := by decide +kernel
theorem dX7_freest_40 : decode cX7_freest 40 = .ok (.iload_n 2, 1) := by decide +kernel
theorem dX7_freest_41 : decode cX7_freest 41 = .ok (.goto 4, 3) := by decide +kernel
theorem dX7_freest_44 : decode cX7_freest 44 = .ok (.iload_n 1, 1) := by decide +kernel
theorem dX7_freest_45 : decode cX7_freest 45 = .ok (.istore_n 1, 1) := by decide +kernel
theorem dX7_freest_46 : decode cX7_freest 46 = .ok (.iinc 2 1, 3) := by decide +kernel
theorem dX7_freest_49 : decode cX7_freest 49 = .ok (.goto (-45), 3) := by decide +kernel
theorem dX7_freest_52 : decode cX7_freest 52 = .ok (.iload_n 1, 1) := by decide +kernel
theorem dX7_freest_53 : decode cX7_freest 53 = .ok (.ireturn, 1) := by decide +kernel
theorem dX7_freestOwner_0 : decode cX7_freestOwner 0 = .ok (.aload_n 0, 1) := by decide +kernel
theorem dX7_freestOwner_1 : decode cX7_freestOwner 1 = .ok (.iconst 0, 1) := by decide +kernel
theorem dX7_freestOwner_2 : decode cX7_freestOwner 2 = .ok (.putfield 38, 3) := by decide +kernel
theorem dX7_freestOwner_5 : decode cX7_freestOwner 5 = .ok (.aload_n 0, 1) := by decide +kernel
theorem dX7_freestOwner_6 : decode cX7_freestOwner 6 = .ok (.invokevirtual 203, 3) := by decide +kernel
theorem dX7_freestOwner_9 : decode cX7_freestOwner 9 = .ok (.ireturn, 1) := by decide +kernel
theorem dX7_dateOf_0 : decode cX7_dateOf 0 = .ok (.aload_n 0, 1) := by decide +kernel
theorem dX7_dateOf_1 : decode cX7_dateOf 1 = .ok (.iconst 0, 1) := by decide +kernel
theorem dX7_dateOf_2 : decode cX7_dateOf 2 = .ok (.putfield 38, 3) := by decide +kernel
theorem dX7_dateOf_5 : decode cX7_dateOf 5 = .ok (.iload_n 1, 1) := by decide +kernel
theorem dX7_dateOf_6 : decode cX7_dateOf 6 = .ok (.invokestatic 116, 3) := by decide +kernel
theorem dX7_dateOf_9 : decode cX7_dateOf 9 = .ok (.ifCond .eq 15, 3) := by decide +kernel
theorem dX7_dateOf_12 : decode cX7_dateOf 12 = .ok (.aload_n 0, 1) := by decide +kernel
theorem dX7_dateOf_13 : decode cX7_dateOf 13 = .ok (.getfield 7, 3) := by decide +kernel
theorem dX7_dateOf_16 : decode cX7_dateOf 16 = .ok (.bipush 9, 2) := by decide +kernel
theorem dX7_dateOf_18 : decode cX7_dateOf 18 = .ok (.iload_n 1, 1) := by decide +kernel
theorem dX7_dateOf_19 : decode cX7_dateOf 19 = .ok (.iadd, 1) := by decide +kernel
theorem dX7_dateOf_20 : decode cX7_dateOf 20 = .ok (.iaload, 1) := by decide +kernel
theorem dX7_dateOf_21 : decode cX7_dateOf 21 = .ok (.goto 8, 3) := by decide +kernel
theorem dX7_dateOf_24 : decode cX7_dateOf 24 = .ok (.aload_n 0, 1) := by decide +kernel
theorem dX7_dateOf_25 : decode cX7_dateOf 25 = .ok (.iconst 1, 1) := by decide +kernel
theorem dX7_dateOf_26 : decode cX7_dateOf 26 = .ok (.invokevirtual 76, 3) := by decide +kernel
theorem dX7_dateOf_29 : decode cX7_dateOf 29 = .ok (.ireturn, 1) := by decide +kernel
theorem dX7_pointsLeft_0 : decode cX7_pointsLeft 0 = .ok (.aload_n 0, 1) := by decide +kernel
theorem dX7_pointsLeft_1 : decode cX7_pointsLeft 1 = .ok (.iconst 0, 1) := by decide +kernel
theorem dX7_pointsLeft_2 : decode cX7_pointsLeft 2 = .ok (.putfield 38, 3) := by decide +kernel
theorem dX7_pointsLeft_5 : decode cX7_pointsLeft 5 = .ok (.iload_n 1, 1) := by decide +kernel
theorem dX7_pointsLeft_6 : decode cX7_pointsLeft 6 = .ok (.invokestatic 116, 3) := by decide +kernel
theorem dX7_pointsLeft_9 : decode cX7_pointsLeft 9 = .ok (.ifCond .eq 11, 3) := by decide +kernel
theorem dX7_pointsLeft_12 : decode cX7_pointsLeft 12 = .ok (.aload_n 0, 1) := by decide +kernel
theorem dX7_pointsLeft_13 : decode cX7_pointsLeft 13 = .ok (.iload_n 1, 1) := by decide +kernel
theorem dX7_pointsLeft_14 : decode cX7_pointsLeft 14 = .ok (.invokevirtual 119, 3) := by decide +kernel
theorem dX7_pointsLeft_17 : decode cX7_pointsLeft 17 = .ok (.goto 8, 3) := by decide +kernel
theorem dX7_pointsLeft_20 : decode cX7_pointsLeft 20 = .ok (.aload_n 0, 1) := by decide +kernel
theorem dX7_pointsLeft_21 : decode cX7_pointsLeft 21 = .ok (.iconst 1, 1) := by decide +kernel
theorem dX7_pointsLeft_22 : decode cX7_pointsLeft 22 = .ok (.invokevirtual 76, 3) := by decide +kernel
theorem dX7_pointsLeft_25 : decode cX7_pointsLeft 25 = .ok (.ireturn, 1) := by decide +kernel
theorem dX7_pointsDone_0 : decode cX7_pointsDone 0 = .ok (.aload_n 0, 1) := by decide +kernel
theorem dX7_pointsDone_1 : decode cX7_pointsDone 1 = .ok (.iconst 0, 1) := by decide +kernel
theorem dX7_pointsDone_2 : decode cX7_pointsDone 2 = .ok (.putfield 38, 3) := by decide +kernel
theorem dX7_pointsDone_5 : decode cX7_pointsDone 5 = .ok (.iload_n 1, 1) := by decide +kernel
theorem dX7_pointsDone_6 : decode cX7_pointsDone 6 = .ok (.invokestatic 116, 3) := by decide +kernel
theorem dX7_pointsDone_9 : decode cX7_pointsDone 9 = .ok (.ifCond .eq 11, 3) := by decide +kernel
theorem dX7_pointsDone_12 : decode cX7_pointsDone 12 = .ok (.aload_n 0, 1) := by decide +kernel
theorem dX7_pointsDone_13 : decode cX7_pointsDone 13 = .ok (.iload_n 1, 1) := by decide +kernel
theorem dX7_pointsDone_14 : decode cX7_pointsDone 14 = .ok (.invokevirtual 206, 3) := by decide +kernel
theorem dX7_pointsDone_17 : decode cX7_pointsDone 17 = .ok (.goto 8, 3) := by decide +kernel
theorem dX7_pointsDone_20 : decode cX7_pointsDone 20 = .ok (.aload_n 0, 1) := by decide +kernel
theorem dX7_pointsDone_21 : decode cX7_pointsDone 21 = .ok (.iconst 1, 1) := by decide +kernel
theorem dX7_pointsDone_22 : decode cX7_pointsDone 22 = .ok (.invokevirtual 76, 3) := by decide +kernel
theorem dX7_pointsDone_25 : decode cX7_pointsDone 25 = .ok (.ireturn, 1) := by decide +kernel
theorem dX7_hundredths_0 : decode cX7_hundredths 0 = .ok (.aload_n 0, 1) := by decide +kernel
theorem dX7_hundredths_1 : decode cX7_hundredths 1 = .ok (.iload_n 1, 1) := by decide +kernel
theorem dX7_hundredths_2 : decode cX7_hundredths 2 = .ok (.invokevirtual 206, 3) := by decide +kernel
theorem dX7_hundredths_5 : decode cX7_hundredths 5 = .ok (.aload_n 0, 1) := by decide +kernel
theorem dX7_hundredths_6 : decode cX7_hundredths 6 = .ok (.iload_n 1, 1) := by decide +kernel
theorem dX7_hundredths_7 : decode cX7_hundredths 7 = .ok (.invokevirtual 119, 3) := by decide +kernel
theorem dX7_hundredths_10 : decode cX7_hundredths 10 = .ok (.iadd, 1) := by decide +kernel
theorem dX7_hundredths_11 : decode cX7_hundredths 11 = .ok (.istore_n 2, 1) := by decide +kernel
theorem dX7_hundredths_12 : decode cX7_hundredths 12 = .ok (.iload_n 2, 1) := by decide +kernel
theorem dX7_hundredths_13 : decode cX7_hundredths 13 = .ok (.ifCond .ne 8, 3) := by decide +kernel
theorem dX7_hundredths_16 : decode cX7_hundredths 16 = .ok (.bipush 100, 2) := by decide +kernel
theorem dX7_hundredths_18 : decode cX7_hundredths 18 = .ok (.goto 13, 3) := by decide +kernel
theorem dX7_hundredths_21 : decode cX7_hundredths 21 = .ok (.aload_n 0, 1) := by decide +kernel
theorem dX7_hundredths_22 : decode cX7_hundredths 22 = .ok (.iload_n 1, 1) := by decide +kernel
theorem dX7_hundredths_23 : decode cX7_hundredths 23 = .ok (.invokevirtual 206, 3) := by decide +kernel
theorem dX7_hundredths_26 : decode cX7_hundredths 26 = .ok (.bipush 100, 2) := by decide +kernel
theorem dX7_hundredths_28 : decode cX7_hundredths 28 = .ok (.imul, 1) := by decide +kernel
theorem dX7_hundredths_29 : decode cX7_hundredths 29 = .ok (.iload_n 2, 1) := by decide +kernel
theorem dX7_hundredths_30 : decode cX7_hundredths 30 = .ok (.idiv, 1) := by decide +kernel
theorem dX7_hundredths_31 : decode cX7_hundredths 31 = .ok (.ireturn, 1) := by decide +kernel
theorem dX7_hundredthsDone_0 : decode cX7_hundredthsDone 0 = .ok (.aload_n 0, 1) := by decide +kernel
theorem dX7_hundredthsDone_1 : decode cX7_hundredthsDone 1 = .ok (.iconst 0, 1) := by decide +kernel
theorem dX7_hundredthsDone_2 : decode cX7_hundredthsDone 2 = .ok (.putfield 38, 3) := by decide +kernel
theorem dX7_hundredthsDone_5 : decode cX7_hundredthsDone 5 = .ok (.iload_n 1, 1) := by decide +kernel
theorem dX7_hundredthsDone_6 : decode cX7_hundredthsDone 6 = .ok (.invokestatic 116, 3) := by decide +kernel
theorem dX7_hundredthsDone_9 : decode cX7_hundredthsDone 9 = .ok (.ifCond .eq 11, 3) := by decide +kernel
theorem dX7_hundredthsDone_12 : decode cX7_hundredthsDone 12 = .ok (.aload_n 0, 1) := by decide +kernel
theorem dX7_hundredthsDone_13 : decode cX7_hundredthsDone 13 = .ok (.iload_n 1, 1) := by decide +kernel
theorem dX7_hundredthsDone_14 : decode cX7_hundredthsDone 14 = .ok (.invokevirtual 209, 3) := by decide +kernel
theorem dX7_hundredthsDone_17 : decode cX7_hundredthsDone 17 = .ok (.goto 8, 3) := by decide +kernel
theorem dX7_hundredthsDone_20 : decode cX7_hundredthsDone 20 = .ok (.aload_n 0, 1) := by decide +kernel
theorem dX7_hundredthsDone_21 : decode cX7_hundredthsDone 21 = .ok (.iconst 1, 1) := by decide +kernel
theorem dX7_hundredthsDone_22 : decode cX7_hundredthsDone 22 = .ok (.invokevirtual 76, 3) := by decide +kernel
theorem dX7_hundredthsDone_25 : decode cX7_hundredthsDone 25 = .ok (.ireturn, 1) := by decide +kernel
theorem dX7_late_0 : decode cX7_late 0 = .ok (.aload_n 0, 1) := by decide +kernel
theorem dX7_late_1 : decode cX7_late 1 = .ok (.getfield 7, 3) := by decide +kernel
theorem dX7_late_4 : decode cX7_late 4 = .ok (.iconst 1, 1) := by decide +kernel
theorem dX7_late_5 : decode cX7_late 5 = .ok (.iaload, 1) := by decide +kernel
theorem dX7_late_6 : decode cX7_late 6 = .ok (.aload_n 0, 1) := by decide +kernel
theorem dX7_late_7 : decode cX7_late 7 = .ok (.getfield 7, 3) := by decide +kernel
theorem dX7_late_10 : decode cX7_late 10 = .ok (.bipush 9, 2) := by decide +kernel
theorem dX7_late_12 : decode cX7_late 12 = .ok (.iload_n 1, 1) := by decide +kernel
theorem dX7_late_13 : decode cX7_late 13 = .ok (.iadd, 1) := by decide +kernel
theorem dX7_late_14 : decode cX7_late 14 = .ok (.iaload, 1) := by decide +kernel
theorem dX7_late_15 : decode cX7_late 15 = .ok (.if_icmp .le 15, 3) := by decide +kernel
theorem dX7_late_18 : decode cX7_late 18 = .ok (.aload_n 0, 1) := by decide +kernel
theorem dX7_late_19 : decode cX7_late 19 = .ok (.iload_n 1, 1) := by decide +kernel
theorem dX7_late_20 : decode cX7_late 20 = .ok (.invokevirtual 119, 3) := by decide +kernel
theorem dX7_late_23 : decode cX7_late 23 = .ok (.ifCond .le 7, 3) := by decide +kernel
theorem dX7_late_26 : decode cX7_late 26 = .ok (.iconst 1, 1) := by decide +kernel
theorem dX7_late_27 : decode cX7_late 27 = .ok (.goto 4, 3) := by decide +kernel
theorem dX7_late_30 : decode cX7_late 30 = .ok (.iconst 0, 1) := by decide +kernel
theorem dX7_late_31 : decode cX7_late 31 = .ok (.ireturn, 1) := by decide +kernel
theorem dX7_isLate_0 : decode cX7_isLate 0 = .ok (.aload_n 0, 1) := by decide +kernel
theorem dX7_isLate_1 : decode cX7_isLate 1 = .ok (.iconst 0, 1) := by decide +kernel
theorem dX7_isLate_2 : decode cX7_isLate 2 = .ok (.putfield 38, 3) := by decide +kernel
theorem dX7_isLate_5 : decode cX7_isLate 5 = .ok (.iload_n 1, 1) := by decide +kernel
theorem dX7_isLate_6 : decode cX7_isLate 6 = .ok (.invokestatic 116, 3) := by decide +kernel
theorem dX7_isLate_9 : decode cX7_isLate 9 = .ok (.ifCond .eq 11, 3) := by decide +kernel
theorem dX7_isLate_12 : decode cX7_isLate 12 = .ok (.aload_n 0, 1) := by decide +kernel
theorem dX7_isLate_13 : decode cX7_isLate 13 = .ok (.iload_n 1, 1) := by decide +kernel
theorem dX7_isLate_14 : decode cX7_isLate 14 = .ok (.invokevirtual 212, 3) := by decide +kernel
theorem dX7_isLate_17 : decode cX7_isLate 17 = .ok (.goto 16, 3) := by decide +kernel
theorem dX7_isLate_20 : decode cX7_isLate 20 = .ok (.aload_n 0, 1) := by decide +kernel
theorem dX7_isLate_21 : decode cX7_isLate 21 = .ok (.iconst 1, 1) := by decide +kernel
theorem dX7_isLate_22 : decode cX7_isLate 22 = .ok (.invokevirtual 76, 3) := by decide +kernel
theorem dX7_isLate_25 : decode cX7_isLate 25 = .ok (.ifCond .le 7, 3) := by decide +kernel
theorem dX7_isLate_28 : decode cX7_isLate 28 = .ok (.iconst 1, 1) := by decide +kernel
theorem dX7_isLate_29 : decode cX7_isLate 29 = .ok (.goto 4, 3) := by decide +kernel
theorem dX7_isLate_32 : decode cX7_isLate 32 = .ok (.iconst 0, 1) := by decide +kernel
theorem dX7_isLate_33 : decode cX7_isLate 33 = .ok (.ireturn, 1) := by decide +kernel
theorem dX7_isBehind_0 : decode cX7_isBehind 0 = .ok (.aload_n 0, 1) := by decide +kernel
theorem dX7_isBehind_1 : decode cX7_isBehind 1 = .ok (.iload_n 1, 1) := by decide +kernel
theorem dX7_isBehind_2 : decode cX7_isBehind 2 = .ok (.iconst 4, 1) := by decide +kernel
theorem dX7_isBehind_3 : decode cX7_isBehind 3 = .ok (.invokevirtual 49, 3) := by decide +kernel
theorem dX7_isBehind_6 : decode cX7_isBehind 6 = .ok (.ifCond .eq 31, 3) := by decide +kernel
theorem dX7_isBehind_9 : decode cX7_isBehind 9 = .ok (.aload_n 0, 1) := by decide +kernel
theorem dX7_isBehind_10 : decode cX7_isBehind 10 = .ok (.getfield 7, 3) := by decide +kernel
theorem dX7_isBehind_13 : decode cX7_isBehind 13 = .ok (.bipush 9, 2) := by decide +kernel
theorem dX7_isBehind_15 : decode cX7_isBehind 15 = .ok (.aload_n 0, 1) := by decide +kernel
theorem dX7_isBehind_16 : decode cX7_isBehind 16 = .ok (.iload_n 1, 1) := by decide +kernel
theorem dX7_isBehind_17 : decode cX7_isBehind 17 = .ok (.iconst 4, 1) := by decide +kernel
theorem dX7_isBehind_18 : decode cX7_isBehind 18 = .ok (.invokevirtual 49, 3) := by decide +kernel
theorem dX7_isBehind_21 : decode cX7_isBehind 21 = .ok (.iadd, 1) := by decide +kernel
theorem dX7_isBehind_22 : decode cX7_isBehind 22 = .ok (.iconst 1, 1) := by decide +kernel
theorem dX7_isBehind_23 : decode cX7_isBehind 23 = .ok (.isub, 1) := by decide +kernel
theorem dX7_isBehind_24 : decode cX7_isBehind 24 = .ok (.iaload, 1) := by decide +kernel
theorem dX7_isBehind_25 : decode cX7_isBehind 25 = .ok (.aload_n 0, 1) := by decide +kernel
theorem dX7_isBehind_26 : decode cX7_isBehind 26 = .ok (.getfield 7, 3) := by decide +kernel
theorem dX7_isBehind_29 : decode cX7_isBehind 29 = .ok (.bipush 9, 2) := by decide +kernel
theorem dX7_isBehind_31 : decode cX7_isBehind 31 = .ok (.iload_n 2, 1) := by decide +kernel
theorem dX7_isBehind_32 : decode cX7_isBehind 32 = .ok (.iadd, 1) := by decide +kernel
theorem dX7_isBehind_33 : decode cX7_isBehind 33 = .ok (.iaload, 1) := by decide +kernel
theorem dX7_isBehind_34 : decode cX7_isBehind 34 = .ok (.if_icmp .le 7, 3) := by decide +kernel
theorem dX7_isBehind_37 : decode cX7_isBehind 37 = .ok (.iconst 1, 1) := by decide +kernel
theorem dX7_isBehind_38 : decode cX7_isBehind 38 = .ok (.goto 4, 3) := by decide +kernel
theorem dX7_isBehind_41 : decode cX7_isBehind 41 = .ok (.iconst 0, 1) := by decide +kernel
theorem dX7_isBehind_42 : decode cX7_isBehind 42 = .ok (.ireturn, 1) := by decide +kernel
theorem dX7_misplannedOf_0 : decode cX7_misplannedOf 0 = .ok (.iconst 0, 1) := by decide +kernel
theorem dX7_misplannedOf_1 : decode cX7_misplannedOf 1 = .ok (.istore_n 2, 1) := by decide +kernel
theorem dX7_misplannedOf_2 : decode cX7_misplannedOf 2 = .ok (.iconst 0, 1) := by decide +kernel
theorem dX7_misplannedOf_3 : decode cX7_misplannedOf 3 = .ok (.istore_n 3, 1) := by decide +kernel
theorem dX7_misplannedOf_4 : decode cX7_misplannedOf 4 = .ok (.iload_n 3, 1) := by decide +kernel
theorem dX7_misplannedOf_5 : decode cX7_misplannedOf 5 = .ok (.aload_n 0, 1) := by decide +kernel
theorem dX7_misplannedOf_6 : decode cX7_misplannedOf 6 = .ok (.getfield 7, 3) := by decide +kernel
theorem dX7_misplannedOf_9 : decode cX7_misplannedOf 9 = .ok (.iconst 0, 1) := by decide +kernel
theorem dX7_misplannedOf_10 : decode cX7_misplannedOf 10 = .ok (.iaload, 1) := by decide +kernel
theorem dX7_misplannedOf_11 : decode cX7_misplannedOf 11 = .ok (.if_icmp .ge 101, 3) := by decide +kernel
theorem dX7_misplannedOf_14 : decode cX7_misplannedOf 14 = .ok (.iconst 0, 1) := by decide +kernel
theorem dX7_misplannedOf_15 : decode cX7_misplannedOf 15 = .ok (.istore 4, 2) := by decide +kernel
theorem dX7_misplannedOf_17 : decode cX7_misplannedOf 17 = .ok (.iconst 0, 1) := by decide +kernel
theorem dX7_misplannedOf_18 : decode cX7_misplannedOf 18 = .ok (.istore 5, 2) := by decide +kernel
theorem dX7_misplannedOf_20 : decode cX7_misplannedOf 20 = .ok (.iload 5, 2) := by decide +kernel
theorem dX7_misplannedOf_22 : decode cX7_misplannedOf 22 = .ok (.aload_n 0, 1) := by decide +kernel
theorem dX7_misplannedOf_23 : decode cX7_misplannedOf 23 = .ok (.getfield 7, 3) := by decide +kernel
theorem dX7_misplannedOf_26 : decode cX7_misplannedOf 26 = .ok (.iconst 0, 1) := by decide +kernel
theorem dX7_misplannedOf_27 : decode cX7_misplannedOf 27 = .ok (.iaload, 1) := by decide +kernel
theorem dX7_misplannedOf_28 : decode cX7_misplannedOf 28 = .ok (.if_icmp .ge 45, 3) := by decide +kernel
theorem dX7_misplannedOf_31 : decode cX7_misplannedOf 31 = .ok (.iload 4, 2) := by decide +kernel
theorem dX7_misplannedOf_33 : decode cX7_misplannedOf 33 = .ok (.ifCond .ne 27, 3) := by decide +kernel
theorem dX7_misplannedOf_36 : decode cX7_misplannedOf 36 = .ok (.aload_n 0, 1) := by decide +kernel
theorem dX7_misplannedOf_37 : decode cX7_misplannedOf 37 = .ok (.iload_n 3, 1) := by decide +kernel
theorem dX7_misplannedOf_38 : decode cX7_misplannedOf 38 = .ok (.invokevirtual 61, 3) := by decide +kernel
theorem dX7_misplannedOf_41 : decode cX7_misplannedOf 41 = .ok (.iload 5, 2) := by decide +kernel
theorem dX7_misplannedOf_43 : decode cX7_misplannedOf 43 = .ok (.ishr, 1) := by decide +kernel
theorem dX7_misplannedOf_44 : decode cX7_misplannedOf 44 = .ok (.iconst 1, 1) := by decide +kernel
theorem dX7_misplannedOf_45 : decode cX7_misplannedOf 45 = .ok (.iand, 1) := by decide +kernel
theorem dX7_misplannedOf_46 : decode cX7_misplannedOf 46 = .ok (.iconst 1, 1) := by decide +kernel
theorem dX7_misplannedOf_47 : decode cX7_misplannedOf 47 = .ok (.if_icmp .ne 17, 3) := by decide +kernel
theorem dX7_misplannedOf_50 : decode cX7_misplannedOf 50 = .ok (.aload_n 0, 1) := by decide +kernel
theorem dX7_misplannedOf_51 : decode cX7_misplannedOf 51 = .ok (.iload 5, 2) := by decide +kernel
theorem dX7_misplannedOf_53 : decode cX7_misplannedOf 53 = .ok (.iload_n 1, 1) := by decide +kernel
theorem dX7_misplannedOf_54 : decode cX7_misplannedOf 54 = .ok (.invokevirtual 215, 3) := by decide +kernel
theorem dX7_misplannedOf_57 : decode cX7_misplannedOf 57 = .ok (.ifCond .eq 7, 3) := by decide +kernel
theorem dX7_misplannedOf_60 : decode cX7_misplannedOf 60 = .ok (.iconst 1, 1) := by decide +kernel
theorem dX7_misplannedOf_61 : decode cX7_misplannedOf 61 = .ok (.goto 4, 3) := by decide +kernel
theorem dX7_misplannedOf_64 : decode cX7_misplannedOf 64 = .ok (.iconst 0, 1) := by decide +kernel
theorem dX7_misplannedOf_65 : decode cX7_misplannedOf 65 = .ok (.istore 4, 2) := by decide +kernel
theorem dX7_misplannedOf_67 : decode cX7_misplannedOf 67 = .ok (.iinc 5 1, 3) := by decide +kernel
theorem dX7_misplannedOf_70 : decode cX7_misplannedOf 70 = .ok (.goto (-50), 3) := by decide +kernel
theorem dX7_misplannedOf_73 : decode cX7_misplannedOf 73 = .ok (.iload_n 2, 1) := by decide +kernel
theorem dX7_misplannedOf_74 : decode cX7_misplannedOf 74 = .ok (.iload 4, 2) := by decide +kernel
theorem dX7_misplannedOf_76 : decode cX7_misplannedOf 76 = .ok (.ifCond .eq 27, 3) := by decide +kernel
theorem dX7_misplannedOf_79 : decode cX7_misplannedOf 79 = .ok (.aload_n 0, 1) := by decide +kernel
theorem dX7_misplannedOf_80 : decode cX7_misplannedOf 80 = .ok (.iload_n 3, 1) := by decide +kernel
theorem dX7_misplannedOf_81 : decode cX7_misplannedOf 81 = .ok (.iconst 4, 1) := by decide +kernel
theorem dX7_misplannedOf_82 : decode cX7_misplannedOf 82 = .ok (.invokevirtual 49, 3) := by decide +kernel
theorem dX7_misplannedOf_85 : decode cX7_misplannedOf 85 = .ok (.iload_n 1, 1) := by decide +kernel
theorem dX7_misplannedOf_86 : decode cX7_misplannedOf 86 = .ok (.iconst 1, 1) := by decide +kernel
theorem dX7_misplannedOf_87 : decode cX7_misplannedOf 87 = .ok (.iadd, 1) := by decide +kernel
theorem dX7_misplannedOf_88 : decode cX7_misplannedOf 88 = .ok (.if_icmp .ne 15, 3) := by decide +kernel
theorem dX7_misplannedOf_91 : decode cX7_misplannedOf 91 = .ok (.aload_n 0, 1) := by decide +kernel
theorem dX7_misplannedOf_92 : decode cX7_misplannedOf 92 = .ok (.iload_n 3, 1) := by decide +kernel
theorem dX7_misplannedOf_93 : decode cX7_misplannedOf 93 = .ok (.invokevirtual 53, 3) := by decide +kernel
theorem dX7_misplannedOf_96 : decode cX7_misplannedOf 96 = .ok (.ifCond .eq 7, 3) := by decide +kernel
theorem dX7_misplannedOf_99 : decode cX7_misplannedOf 99 = .ok (.iconst 1, 1) := by decide +kernel
theorem dX7_misplannedOf_100 : decode cX7_misplannedOf 100 = .ok (.goto 4, 3) := by decide +kernel
theorem dX7_misplannedOf_103 : decode cX7_misplannedOf 103 = .ok (.iconst 0, 1) := by decide +kernel
theorem dX7_misplannedOf_104 : decode cX7_misplannedOf 104 = .ok (.iadd, 1) := by decide +kernel
theorem dX7_misplannedOf_105 : decode cX7_misplannedOf 105 = .ok (.istore_n 2, 1) := by decide +kernel
theorem dX7_misplannedOf_106 : decode cX7_misplannedOf 106 = .ok (.iinc 3 1, 3) := by decide +kernel
theorem dX7_misplannedOf_109 : decode cX7_misplannedOf 109 = .ok (.goto (-105), 3) := by decide +kernel
theorem dX7_misplannedOf_112 : decode cX7_misplannedOf 112 = .ok (.iload_n 2, 1) := by decide +kernel
theorem dX7_misplannedOf_113 : decode cX7_misplannedOf 113 = .ok (.ireturn, 1) := by decide +kernel
theorem dX7_misplanned_0 : decode cX7_misplanned 0 = .ok (.aload_n 0, 1) := by decide +kernel
theorem dX7_misplanned_1 : decode cX7_misplanned 1 = .ok (.iconst 0, 1) := by decide +kernel
theorem dX7_misplanned_2 : decode cX7_misplanned 2 = .ok (.putfield 38, 3) := by decide +kernel
theorem dX7_misplanned_5 : decode cX7_misplanned 5 = .ok (.iload_n 1, 1) := by decide +kernel
theorem dX7_misplanned_6 : decode cX7_misplanned 6 = .ok (.invokestatic 116, 3) := by decide +kernel
theorem dX7_misplanned_9 : decode cX7_misplanned 9 = .ok (.ifCond .eq 11, 3) := by decide +kernel
theorem dX7_misplanned_12 : decode cX7_misplanned 12 = .ok (.aload_n 0, 1) := by decide +kernel
theorem dX7_misplanned_13 : decode cX7_misplanned 13 = .ok (.iload_n 1, 1) := by decide +kernel
theorem dX7_misplanned_14 : decode cX7_misplanned 14 = .ok (.invokevirtual 218, 3) := by decide +kernel
theorem dX7_misplanned_17 : decode cX7_misplanned 17 = .ok (.goto 8, 3) := by decide +kernel
theorem dX7_misplanned_20 : decode cX7_misplanned 20 = .ok (.aload_n 0, 1) := by decide +kernel
theorem dX7_misplanned_21 : decode cX7_misplanned 21 = .ok (.iconst 1, 1) := by decide +kernel
theorem dX7_misplanned_22 : decode cX7_misplanned 22 = .ok (.invokevirtual 76, 3) := by decide +kernel
theorem dX7_misplanned_25 : decode cX7_misplanned 25 = .ok (.ireturn, 1) := by decide +kernel
theorem dX7_lateMilestones_0 : decode cX7_lateMilestones 0 = .ok (.aload_n 0, 1) := by decide +kernel
theorem dX7_lateMilestones_1 : decode cX7_lateMilestones 1 = .ok (.iconst 0, 1) := by decide +kernel
theorem dX7_lateMilestones_2 : decode cX7_lateMilestones 2 = .ok (.putfield 38, 3) := by decide +kernel
theorem dX7_lateMilestones_5 : decode cX7_lateMilestones 5 = .ok (.iconst 0, 1) := by decide +kernel
theorem dX7_lateMilestones_6 : decode cX7_lateMilestones 6 = .ok (.istore_n 1, 1) := by decide +kernel
theorem dX7_lateMilestones_7 : decode cX7_lateMilestones 7 = .ok (.iconst 0, 1) := by decide +kernel
theorem dX7_lateMilestones_8 : decode cX7_lateMilestones 8 = .ok (.istore_n 2, 1) := by decide +kernel
theorem dX7_lateMilestones_9 : decode cX7_lateMilestones 9 = .ok (.iload_n 2, 1) := by decide +kernel
theorem dX7_lateMilestones_10 : decode cX7_lateMilestones 10 = .ok (.iconst 4, 1) := by decide +kernel
theorem dX7_lateMilestones_11 : decode cX7_lateMilestones 11 = .ok (.if_icmp .ge 25, 3) := by decide +kernel
theorem dX7_lateMilestones_14 : decode cX7_lateMilestones 14 = .ok (.iload_n 1, 1) := by decide +kernel
theorem dX7_lateMilestones_15 : decode cX7_lateMilestones 15 = .ok (.aload_n 0, 1) := by decide +kernel
theorem dX7_lateMilestones_16 : decode cX7_lateMilestones 16 = .ok (.iload_n 2, 1) := by decide +kernel
theorem dX7_lateMilestones_17 : decode cX7_lateMilestones 17 = .ok (.invokevirtual 212, 3) := by decide +kernel
theorem dX7_lateMilestones_20 : decode cX7_lateMilestones 20 = .ok (.ifCond .eq 7, 3) := by decide +kernel
theorem dX7_lateMilestones_23 : decode cX7_lateMilestones 23 = .ok (.iconst 1, 1) := by decide +kernel
theorem dX7_lateMilestones_24 : decode cX7_lateMilestones 24 = .ok (.goto 4, 3) := by decide +kernel
theorem dX7_lateMilestones_27 : decode cX7_lateMilestones 27 = .ok (.iconst 0, 1) := by decide +kernel
theorem dX7_lateMilestones_28 : decode cX7_lateMilestones 28 = .ok (.iadd, 1) := by decide +kernel
theorem dX7_lateMilestones_29 : decode cX7_lateMilestones 29 = .ok (.istore_n 1, 1) := by decide +kernel
theorem dX7_lateMilestones_30 : decode cX7_lateMilestones 30 = .ok (.iinc 2 1, 3) := by decide +kernel
theorem dX7_lateMilestones_33 : decode cX7_lateMilestones 33 = .ok (.goto (-24), 3) := by decide +kernel
theorem dX7_lateMilestones_36 : decode cX7_lateMilestones 36 = .ok (.iload_n 1, 1) := by decide +kernel
theorem dX7_lateMilestones_37 : decode cX7_lateMilestones 37 = .ok (.ireturn, 1) := by decide +kernel
theorem dX7_isAhead_0 : decode cX7_isAhead 0 = .ok (.aload_n 0, 1) := by decide +kernel
theorem dX7_isAhead_1 : decode cX7_isAhead 1 = .ok (.iload_n 1, 1) := by decide +kernel
theorem dX7_isAhead_2 : decode cX7_isAhead 2 = .ok (.iconst 1, 1) := by decide +kernel
theorem dX7_isAhead_3 : decode cX7_isAhead 3 = .ok (.invokevirtual 49, 3) := by decide +kernel
theorem dX7_isAhead_6 : decode cX7_isAhead 6 = .ok (.aload_n 0, 1) := by decide +kernel
theorem dX7_isAhead_7 : decode cX7_isAhead 7 = .ok (.iload_n 2, 1) := by decide +kernel
theorem dX7_isAhead_8 : decode cX7_isAhead 8 = .ok (.iconst 1, 1) := by decide +kernel
theorem dX7_isAhead_9 : decode cX7_isAhead 9 = .ok (.invokevirtual 49, 3) := by decide +kernel
theorem dX7_isAhead_12 : decode cX7_isAhead 12 = .ok (.if_icmp .eq 24, 3) := by decide +kernel
theorem dX7_isAhead_15 : decode cX7_isAhead 15 = .ok (.aload_n 0, 1) := by decide +kernel
theorem dX7_isAhead_16 : decode cX7_isAhead 16 = .ok (.iload_n 1, 1) := by decide +kernel
theorem dX7_isAhead_17 : decode cX7_isAhead 17 = .ok (.iconst 1, 1) := by decide +kernel
theorem dX7_isAhead_18 : decode cX7_isAhead 18 = .ok (.invokevirtual 49, 3) := by decide +kernel
theorem dX7_isAhead_21 : decode cX7_isAhead 21 = .ok (.aload_n 0, 1) := by decide +kernel
theorem dX7_isAhead_22 : decode cX7_isAhead 22 = .ok (.iload_n 2, 1) := by decide +kernel
theorem dX7_isAhead_23 : decode cX7_isAhead 23 = .ok (.iconst 1, 1) := by decide +kernel
theorem dX7_isAhead_24 : decode cX7_isAhead 24 = .ok (.invokevirtual 49, 3) := by decide +kernel
theorem dX7_isAhead_27 : decode cX7_isAhead 27 = .ok (.if_icmp .le 7, 3) := by decide +kernel
theorem dX7_isAhead_30 : decode cX7_isAhead 30 = .ok (.iconst 1, 1) := by decide +kernel
theorem dX7_isAhead_31 : decode cX7_isAhead 31 = .ok (.goto 4, 3) := by decide +kernel
theorem dX7_isAhead_34 : decode cX7_isAhead 34 = .ok (.iconst 0, 1) := by decide +kernel
theorem dX7_isAhead_35 : decode cX7_isAhead 35 = .ok (.ireturn, 1) := by decide +kernel
theorem dX7_isAhead_36 : decode cX7_isAhead 36 = .ok (.aload_n 0, 1) := by decide +kernel
theorem dX7_isAhead_37 : decode cX7_isAhead 37 = .ok (.iload_n 1, 1) := by decide +kernel
theorem dX7_isAhead_38 : decode cX7_isAhead 38 = .ok (.iconst 0, 1) := by decide +kernel
theorem dX7_isAhead_39 : decode cX7_isAhead 39 = .ok (.invokevirtual 49, 3) := by decide +kernel
theorem dX7_isAhead_42 : decode cX7_isAhead 42 = .ok (.aload_n 0, 1) := by decide +kernel
theorem dX7_isAhead_43 : decode cX7_isAhead 43 = .ok (.iload_n 2, 1) := by decide +kernel
theorem dX7_isAhead_44 : decode cX7_isAhead 44 = .ok (.iconst 0, 1) := by decide +kernel
theorem dX7_isAhead_45 : decode cX7_isAhead 45 = .ok (.invokevirtual 49, 3) := by decide +kernel
theorem dX7_isAhead_48 : decode cX7_isAhead 48 = .ok (.if_icmp .ge 7, 3) := by decide +kernel
theorem dX7_isAhead_51 : decode cX7_isAhead 51 = .ok (.iconst 1, 1) := by decide +kernel
theorem dX7_isAhead_52 : decode cX7_isAhead 52 = .ok (.goto 4, 3) := by decide +kernel
theorem dX7_isAhead_55 : decode cX7_isAhead 55 = .ok (.iconst 0, 1) := by decide +kernel
theorem dX7_isAhead_56 : decode cX7_isAhead 56 = .ok (.ireturn, 1) := by decide +kernel
theorem dX7_firstOf_0 : decode cX7_firstOf 0 = .ok (.iconst (-1), 1) := by decide +kernel
theorem dX7_firstOf_1 : decode cX7_firstOf 1 = .ok (.istore_n 2, 1) := by decide +kernel
theorem dX7_firstOf_2 : decode cX7_firstOf 2 = .ok (.iconst 0, 1) := by decide +kernel
theorem dX7_firstOf_3 : decode cX7_firstOf 3 = .ok (.istore_n 3, 1) := by decide +kernel
theorem dX7_firstOf_4 : decode cX7_firstOf 4 = .ok (.iload_n 3, 1) := by decide +kernel
theorem dX7_firstOf_5 : decode cX7_firstOf 5 = .ok (.aload_n 0, 1) := by decide +kernel
theorem dX7_firstOf_6 : decode cX7_firstOf 6 = .ok (.getfield 7, 3) := by decide +kernel
theorem dX7_firstOf_9 : decode cX7_firstOf 9 = .ok (.iconst 0, 1) := by decide +kernel
theorem dX7_firstOf_10 : decode cX7_firstOf 10 = .ok (.iaload, 1) := by decide +kernel
theorem dX7_firstOf_11 : decode cX7_firstOf 11 = .ok (.if_icmp .ge 38, 3) := by decide +kernel
theorem dX7_firstOf_14 : decode cX7_firstOf 14 = .ok (.iload_n 1, 1) := by decide +kernel
theorem dX7_firstOf_15 : decode cX7_firstOf 15 = .ok (.iload_n 3, 1) := by decide +kernel
theorem dX7_firstOf_16 : decode cX7_firstOf 16 = .ok (.ishr, 1) := by decide +kernel
theorem dX7_firstOf_17 : decode cX7_firstOf 17 = .ok (.iconst 1, 1) := by decide +kernel
theorem dX7_firstOf_18 : decode cX7_firstOf 18 = .ok (.iand, 1) := by decide +kernel
theorem dX7_firstOf_19 : decode cX7_firstOf 19 = .ok (.iconst 1, 1) := by decide +kernel
theorem dX7_firstOf_20 : decode cX7_firstOf 20 = .ok (.if_icmp .ne 21, 3) := by decide +kernel
theorem dX7_firstOf_23 : decode cX7_firstOf 23 = .ok (.iload_n 2, 1) := by decide +kernel
theorem dX7_firstOf_24 : decode cX7_firstOf 24 = .ok (.iconst (-1), 1) := by decide +kernel
theorem dX7_firstOf_25 : decode cX7_firstOf 25 = .ok (.if_icmp .eq 12, 3) := by decide +kernel
theorem dX7_firstOf_28 : decode cX7_firstOf 28 = .ok (.aload_n 0, 1) := by decide +kernel
theorem dX7_firstOf_29 : decode cX7_firstOf 29 = .ok (.iload_n 3, 1) := by decide +kernel
theorem dX7_firstOf_30 : decode cX7_firstOf 30 = .ok (.iload_n 2, 1) := by decide +kernel
theorem dX7_firstOf_31 : decode cX7_firstOf 31 = .ok (.invokevirtual 221, 3) := by decide +kernel
theorem dX7_firstOf_34 : decode cX7_firstOf 34 = .ok (.ifCond .eq 7, 3) := by decide +kernel
theorem dX7_firstOf_37 : decode cX7_firstOf 37 = .ok (.iload_n 3, 1) := by decide +kernel
theorem dX7_firstOf_38 : decode cX7_firstOf 38 = .ok (.goto 4, 3) := by decide +kernel
theorem dX7_firstOf_41 : decode cX7_firstOf 41 = .ok (.iload_n 2, 1) := by decide +kernel
theorem dX7_firstOf_42 : decode cX7_firstOf 42 = .ok (.istore_n 2, 1) := by decide +kernel
theorem dX7_firstOf_43 : decode cX7_firstOf 43 = .ok (.iinc 3 1, 3) := by decide +kernel
theorem dX7_firstOf_46 : decode cX7_firstOf 46 = .ok (.goto (-42), 3) := by decide +kernel
theorem dX7_firstOf_49 : decode cX7_firstOf 49 = .ok (.iload_n 2, 1) := by decide +kernel
theorem dX7_firstOf_50 : decode cX7_firstOf 50 = .ok (.ireturn, 1) := by decide +kernel
theorem dX7_next_0 : decode cX7_next 0 = .ok (.iconst 0, 1) := by decide +kernel
theorem dX7_next_1 : decode cX7_next 1 = .ok (.istore_n 1, 1) := by decide +kernel
theorem dX7_next_2 : decode cX7_next 2 = .ok (.iconst 0, 1) := by decide +kernel
theorem dX7_next_3 : decode cX7_next 3 = .ok (.istore_n 2, 1) := by decide +kernel
theorem dX7_next_4 : decode cX7_next 4 = .ok (.iload_n 2, 1) := by decide +kernel
theorem dX7_next_5 : decode cX7_next 5 = .ok (.aload_n 0, 1) := by decide +kernel
theorem dX7_next_6 : decode cX7_next 6 = .ok (.getfield 7, 3) := by decide +kernel
theorem dX7_next_9 : decode cX7_next 9 = .ok (.iconst 0, 1) := by decide +kernel
theorem dX7_next_10 : decode cX7_next 10 = .ok (.iaload, 1) := by decide +kernel
theorem dX7_next_11 : decode cX7_next 11 = .ok (.if_icmp .ge 36, 3) := by decide +kernel
theorem dX7_next_14 : decode cX7_next 14 = .ok (.iload_n 1, 1) := by decide +kernel
theorem dX7_next_15 : decode cX7_next 15 = .ok (.aload_n 0, 1) := by decide +kernel
theorem dX7_next_16 : decode cX7_next 16 = .ok (.iload_n 2, 1) := by decide +kernel
theorem dX7_next_17 : decode cX7_next 17 = .ok (.iconst 2, 1) := by decide +kernel
theorem dX7_next_18 : decode cX7_next 18 = .ok (.invokevirtual 49, 3) := by decide +kernel
theorem dX7_next_21 : decode cX7_next 21 = .ok (.ifCond .ne 17, 3) := by decide +kernel
theorem dX7_next_24 : decode cX7_next 24 = .ok (.aload_n 0, 1) := by decide +kernel
theorem dX7_next_25 : decode cX7_next 25 = .ok (.iload_n 2, 1) := by decide +kernel
theorem dX7_next_26 : decode cX7_next 26 = .ok (.invokevirtual 61, 3) := by decide +kernel
theorem dX7_next_29 : decode cX7_next 29 = .ok (.ifCond .ne 9, 3) := by decide +kernel
theorem dX7_next_32 : decode cX7_next 32 = .ok (.iconst 1, 1) := by decide +kernel
theorem dX7_next_33 : decode cX7_next 33 = .ok (.iload_n 2, 1) := by decide +kernel
theorem dX7_next_34 : decode cX7_next 34 = .ok (.ishl, 1) := by decide +kernel
theorem dX7_next_35 : decode cX7_next 35 = .ok (.goto 4, 3) := by decide +kernel
theorem dX7_next_38 : decode cX7_next 38 = .ok (.iconst 0, 1) := by decide +kernel
theorem dX7_next_39 : decode cX7_next 39 = .ok (.ior, 1) := by decide +kernel
theorem dX7_next_40 : decode cX7_next 40 = .ok (.istore_n 1, 1) := by decide +kernel
theorem dX7_next_41 : decode cX7_next 41 = .ok (.iinc 2 1, 3) := by decide +kernel
theorem dX7_next_44 : decode cX7_next 44 = .ok (.goto (-40), 3) := by decide +kernel
theorem dX7_next_47 : decode cX7_next 47 = .ok (.aload_n 0, 1) := by decide +kernel
theorem dX7_next_48 : decode cX7_next 48 = .ok (.iload_n 1, 1) := by decide +kernel
theorem dX7_next_49 : decode cX7_next 49 = .ok (.invokevirtual 224, 3) := by decide +kernel
theorem dX7_next_52 : decode cX7_next 52 = .ok (.ireturn, 1) := by decide +kernel
theorem dX7_nextToDo_0 : decode cX7_nextToDo 0 = .ok (.aload_n 0, 1) := by decide +kernel
theorem dX7_nextToDo_1 : decode cX7_nextToDo 1 = .ok (.iconst 0, 1) := by decide +kernel
theorem dX7_nextToDo_2 : decode cX7_nextToDo 2 = .ok (.putfield 38, 3) := by decide +kernel
theorem dX7_nextToDo_5 : decode cX7_nextToDo 5 = .ok (.aload_n 0, 1) := by decide +kernel
theorem dX7_nextToDo_6 : decode cX7_nextToDo 6 = .ok (.invokevirtual 227, 3) := by decide +kernel
theorem dX7_nextToDo_9 : decode cX7_nextToDo 9 = .ok (.istore_n 1, 1) := by decide +kernel
theorem dX7_nextToDo_10 : decode cX7_nextToDo 10 = .ok (.iload_n 1, 1) := by decide +kernel
theorem dX7_nextToDo_11 : decode cX7_nextToDo 11 = .ok (.iconst (-1), 1) := by decide +kernel
theorem dX7_nextToDo_12 : decode cX7_nextToDo 12 = .ok (.if_icmp .ne 11, 3) := by decide +kernel
theorem dX7_nextToDo_15 : decode cX7_nextToDo 15 = .ok (.aload_n 0, 1) := by decide +kernel
theorem dX7_nextToDo_16 : decode cX7_nextToDo 16 = .ok (.iconst 1, 1) := by decide +kernel
theorem dX7_nextToDo_17 : decode cX7_nextToDo 17 = .ok (.invokevirtual 76, 3) := by decide +kernel
theorem dX7_nextToDo_20 : decode cX7_nextToDo 20 = .ok (.goto 4, 3) := by decide +kernel
theorem dX7_nextToDo_23 : decode cX7_nextToDo 23 = .ok (.iload_n 1, 1) := by decide +kernel
theorem dX7_nextToDo_24 : decode cX7_nextToDo 24 = .ok (.ireturn, 1) := by decide +kernel
theorem dX7_tellsOrder_0 : decode cX7_tellsOrder 0 = .ok (.aload_n 0, 1) := by decide +kernel
theorem dX7_tellsOrder_1 : decode cX7_tellsOrder 1 = .ok (.invokevirtual 57, 3) := by decide +kernel
theorem dX7_tellsOrder_4 : decode cX7_tellsOrder 4 = .ok (.istore_n 1, 1) := by decide +kernel
theorem dX7_tellsOrder_5 : decode cX7_tellsOrder 5 = .ok (.iconst 0, 1) := by decide +kernel
theorem dX7_tellsOrder_6 : decode cX7_tellsOrder 6 = .ok (.istore_n 2, 1) := by decide +kernel
theorem dX7_tellsOrder_7 : decode cX7_tellsOrder 7 = .ok (.iload_n 1, 1) := by decide +kernel
theorem dX7_tellsOrder_8 : decode cX7_tellsOrder 8 = .ok (.ifCond .eq 89, 3) := by decide +kernel
theorem dX7_tellsOrder_11 : decode cX7_tellsOrder 11 = .ok (.iconst 0, 1) := by decide +kernel
theorem dX7_tellsOrder_12 : decode cX7_tellsOrder 12 = .ok (.istore_n 3, 1) := by decide +kernel
theorem dX7_tellsOrder_13 : decode cX7_tellsOrder 13 = .ok (.iconst 0, 1) := by decide +kernel
theorem dX7_tellsOrder_14 : decode cX7_tellsOrder 14 = .ok (.istore 4, 2) := by decide +kernel
theorem dX7_tellsOrder_16 : decode cX7_tellsOrder 16 = .ok (.iload 4, 2) := by decide +kernel
theorem dX7_tellsOrder_18 : decode cX7_tellsOrder 18 = .ok (.aload_n 0, 1) := by decide +kernel
theorem dX7_tellsOrder_19 : decode cX7_tellsOrder 19 = .ok (.getfield 7, 3) := by decide +kernel
theorem dX7_tellsOrder_22 : decode cX7_tellsOrder 22 = .ok (.iconst 0, 1) := by decide +kernel
theorem dX7_tellsOrder_23 : decode cX7_tellsOrder 23 = .ok (.iaload, 1) := by decide +kernel
theorem dX7_tellsOrder_24 : decode cX7_tellsOrder 24 = .ok (.if_icmp .ge 43, 3) := by decide +kernel
theorem dX7_tellsOrder_27 : decode cX7_tellsOrder 27 = .ok (.iload_n 3, 1) := by decide +kernel
theorem dX7_tellsOrder_28 : decode cX7_tellsOrder 28 = .ok (.iload_n 1, 1) := by decide +kernel
theorem dX7_tellsOrder_29 : decode cX7_tellsOrder 29 = .ok (.iload 4, 2) := by decide +kernel
theorem dX7_tellsOrder_31 : decode cX7_tellsOrder 31 = .ok (.ishr, 1) := by decide +kernel
theorem dX7_tellsOrder_32 : decode cX7_tellsOrder 32 = .ok (.iconst 1, 1) := by decide +kernel
theorem dX7_tellsOrder_33 : decode cX7_tellsOrder 33 = .ok (.iand, 1) := by decide +kernel
theorem dX7_tellsOrder_34 : decode cX7_tellsOrder 34 = .ok (.iconst 1, 1) := by decide +kernel
theorem dX7_tellsOrder_35 : decode cX7_tellsOrder 35 = .ok (.if_icmp .ne 23, 3) := by decide +kernel
theorem dX7_tellsOrder_38 : decode cX7_tellsOrder 38 = .ok (.aload_n 0, 1) := by decide +kernel
theorem dX7_tellsOrder_39 : decode cX7_tellsOrder 39 = .ok (.iload 4, 2) := by decide +kernel
theorem dX7_tellsOrder_41 : decode cX7_tellsOrder 41 = .ok (.bipush 9, 2) := by decide +kernel
theorem dX7_tellsOrder_43 : decode cX7_tellsOrder 43 = .ok (.invokevirtual 49, 3) := by decide +kernel
theorem dX7_tellsOrder_46 : decode cX7_tellsOrder 46 = .ok (.iload_n 1, 1) := by decide +kernel
theorem dX7_tellsOrder_47 : decode cX7_tellsOrder 47 = .ok (.iand, 1) := by decide +kernel
theorem dX7_tellsOrder_48 : decode cX7_tellsOrder 48 = .ok (.ifCond .ne 10, 3) := by decide +kernel
theorem dX7_tellsOrder_51 : decode cX7_tellsOrder 51 = .ok (.iconst 1, 1) := by decide +kernel
theorem dX7_tellsOrder_52 : decode cX7_tellsOrder 52 = .ok (.iload 4, 2) := by decide +kernel
theorem dX7_tellsOrder_54 : decode cX7_tellsOrder 54 = .ok (.ishl, 1) := by decide +kernel
theorem dX7_tellsOrder_55 : decode cX7_tellsOrder 55 = .ok (.goto 4, 3) := by decide +kernel
theorem dX7_tellsOrder_58 : decode cX7_tellsOrder 58 = .ok (.iconst 0, 1) := by decide +kernel
theorem dX7_tellsOrder_59 : decode cX7_tellsOrder 59 = .ok (.ior, 1) := by decide +kernel
theorem dX7_tellsOrder_60 : decode cX7_tellsOrder 60 = .ok (.istore_n 3, 1) := by decide +kernel
theorem dX7_tellsOrder_61 : decode cX7_tellsOrder 61 = .ok (.iinc 4 1, 3) := by decide +kernel
theorem dX7_tellsOrder_64 : decode cX7_tellsOrder 64 = .ok (.goto (-48), 3) := by decide +kernel
theorem dX7_tellsOrder_67 : decode cX7_tellsOrder 67 = .ok (.aload_n 0, 1) := by decide +kernel
theorem dX7_tellsOrder_68 : decode cX7_tellsOrder 68 = .ok (.getfield 32, 3) := by decide +kernel
theorem dX7_tellsOrder_71 : decode cX7_tellsOrder 71 = .ok (.iload_n 2, 1) := by decide +kernel
theorem dX7_tellsOrder_72 : decode cX7_tellsOrder 72 = .ok (.aload_n 0, 1) := by decide +kernel
theorem dX7_tellsOrder_73 : decode cX7_tellsOrder 73 = .ok (.iload_n 3, 1) := by decide +kernel
theorem dX7_tellsOrder_74 : decode cX7_tellsOrder 74 = .ok (.invokevirtual 224, 3) := by decide +kernel
theorem dX7_tellsOrder_77 : decode cX7_tellsOrder 77 = .ok (.iastore, 1) := by decide +kernel
theorem dX7_tellsOrder_78 : decode cX7_tellsOrder 78 = .ok (.iload_n 1, 1) := by decide +kernel
theorem dX7_tellsOrder_79 : decode cX7_tellsOrder 79 = .ok (.iconst 1, 1) := by decide +kernel
theorem dX7_tellsOrder_80 : decode cX7_tellsOrder 80 = .ok (.aload_n 0, 1) := by decide +kernel
theorem dX7_tellsOrder_81 : decode cX7_tellsOrder 81 = .ok (.getfield 32, 3) := by decide +kernel
theorem dX7_tellsOrder_84 : decode cX7_tellsOrder 84 = .ok (.iload_n 2, 1) := by decide +kernel
theorem dX7_tellsOrder_85 : decode cX7_tellsOrder 85 = .ok (.iaload, 1) := by decide +kernel
theorem dX7_tellsOrder_86 : decode cX7_tellsOrder 86 = .ok (.ishl, 1) := by decide +kernel
theorem dX7_tellsOrder_87 : decode cX7_tellsOrder 87 = .ok (.iconst (-1), 1) := by decide +kernel
theorem dX7_tellsOrder_88 : decode cX7_tellsOrder 88 = .ok (.ixor, 1) := by decide +kernel
theorem dX7_tellsOrder_89 : decode cX7_tellsOrder 89 = .ok (.iand, 1) := by decide +kernel
theorem dX7_tellsOrder_90 : decode cX7_tellsOrder 90 = .ok (.istore_n 1, 1) := by decide +kernel
theorem dX7_tellsOrder_91 : decode cX7_tellsOrder 91 = .ok (.iinc 2 1, 3) := by decide +kernel
theorem dX7_tellsOrder_94 : decode cX7_tellsOrder 94 = .ok (.goto (-87), 3) := by decide +kernel
theorem dX7_tellsOrder_97 : decode cX7_tellsOrder 97 = .ok (.iload_n 2, 1) := by decide +kernel
theorem dX7_tellsOrder_98 : decode cX7_tellsOrder 98 = .ok (.ireturn, 1) := by decide +kernel
theorem dX7_closedAt_0 : decode cX7_closedAt 0 = .ok (.aload_n 0, 1) := by decide +kernel
theorem dX7_closedAt_1 : decode cX7_closedAt 1 = .ok (.iconst 0, 1) := by decide +kernel
theorem dX7_closedAt_2 : decode cX7_closedAt 2 = .ok (.putfield 38, 3) := by decide +kernel
theorem dX7_closedAt_5 : decode cX7_closedAt 5 = .ok (.aload_n 0, 1) := by decide +kernel
theorem dX7_closedAt_6 : decode cX7_closedAt 6 = .ok (.invokevirtual 230, 3) := by decide +kernel
theorem dX7_closedAt_9 : decode cX7_closedAt 9 = .ok (.istore_n 2, 1) := by decide +kernel
theorem dX7_closedAt_10 : decode cX7_closedAt 10 = .ok (.iload_n 1, 1) := by decide +kernel
theorem dX7_closedAt_11 : decode cX7_closedAt 11 = .ok (.iconst 0, 1) := by decide +kernel
theorem dX7_closedAt_12 : decode cX7_closedAt 12 = .ok (.iload_n 2, 1) := by decide +kernel
theorem dX7_closedAt_13 : decode cX7_closedAt 13 = .ok (.iconst 1, 1) := by decide +kernel
theorem dX7_closedAt_14 : decode cX7_closedAt 14 = .ok (.isub, 1) := by decide +kernel
theorem dX7_closedAt_15 : decode cX7_closedAt 15 = .ok (.invokestatic 42, 3) := by decide +kernel
theorem dX7_closedAt_18 : decode cX7_closedAt 18 = .ok (.ifCond .eq 12, 3) := by decide +kernel
theorem dX7_closedAt_21 : decode cX7_closedAt 21 = .ok (.aload_n 0, 1) := by decide +kernel
theorem dX7_closedAt_22 : decode cX7_closedAt 22 = .ok (.getfield 32, 3) := by decide +kernel
theorem dX7_closedAt_25 : decode cX7_closedAt 25 = .ok (.iload_n 1, 1) := by decide +kernel
theorem dX7_closedAt_26 : decode cX7_closedAt 26 = .ok (.iaload, 1) := by decide +kernel
theorem dX7_closedAt_27 : decode cX7_closedAt 27 = .ok (.goto 8, 3) := by decide +kernel
theorem dX7_closedAt_30 : decode cX7_closedAt 30 = .ok (.aload_n 0, 1) := by decide +kernel
theorem dX7_closedAt_31 : decode cX7_closedAt 31 = .ok (.iconst 1, 1) := by decide +kernel
theorem dX7_closedAt_32 : decode cX7_closedAt 32 = .ok (.invokevirtual 76, 3) := by decide +kernel
theorem dX7_closedAt_35 : decode cX7_closedAt 35 = .ok (.ireturn, 1) := by decide +kernel
theorem dX7_day_0 : decode cX7_day 0 = .ok (.aload_n 0, 1) := by decide +kernel
theorem dX7_day_1 : decode cX7_day 1 = .ok (.iconst 0, 1) := by decide +kernel
theorem dX7_day_2 : decode cX7_day 2 = .ok (.putfield 38, 3) := by decide +kernel
theorem dX7_day_5 : decode cX7_day 5 = .ok (.aload_n 0, 1) := by decide +kernel
theorem dX7_day_6 : decode cX7_day 6 = .ok (.getfield 7, 3) := by decide +kernel
theorem dX7_day_9 : decode cX7_day 9 = .ok (.iconst 1, 1) := by decide +kernel
theorem dX7_day_10 : decode cX7_day 10 = .ok (.iaload, 1) := by decide +kernel
theorem dX7_day_11 : decode cX7_day 11 = .ok (.ireturn, 1) := by decide +kernel
theorem dX7_sumWith_0 : decode cX7_sumWith 0 = .ok (.iconst 0, 1) := by decide +kernel
theorem dX7_sumWith_1 : decode cX7_sumWith 1 = .ok (.istore_n 3, 1) := by decide +kernel
theorem dX7_sumWith_2 : decode cX7_sumWith 2 = .ok (.iconst 0, 1) := by decide +kernel
theorem dX7_sumWith_3 : decode cX7_sumWith 3 = .ok (.istore 4, 2) := by decide +kernel
theorem dX7_sumWith_5 : decode cX7_sumWith 5 = .ok (.iload 4, 2) := by decide +kernel
theorem dX7_sumWith_7 : decode cX7_sumWith 7 = .ok (.aload_n 0, 1) := by decide +kernel
theorem dX7_sumWith_8 : decode cX7_sumWith 8 = .ok (.getfield 7, 3) := by decide +kernel
theorem dX7_sumWith_11 : decode cX7_sumWith 11 = .ok (.iconst 0, 1) := by decide +kernel
theorem dX7_sumWith_12 : decode cX7_sumWith 12 = .ok (.iaload, 1) := by decide +kernel
theorem dX7_sumWith_13 : decode cX7_sumWith 13 = .ok (.if_icmp .ge 42, 3) := by decide +kernel
theorem dX7_sumWith_16 : decode cX7_sumWith 16 = .ok (.iload_n 3, 1) := by decide +kernel
theorem dX7_sumWith_17 : decode cX7_sumWith 17 = .ok (.aload_n 0, 1) := by decide +kernel
theorem dX7_sumWith_18 : decode cX7_sumWith 18 = .ok (.iload 4, 2) := by decide +kernel
theorem dX7_sumWith_20 : decode cX7_sumWith 20 = .ok (.iconst 2, 1) := by decide +kernel
theorem dX7_sumWith_21 : decode cX7_sumWith 21 = .ok (.invokevirtual 49, 3) := by decide +kernel
theorem dX7_sumWith_24 : decode cX7_sumWith 24 = .ok (.iload_n 1, 1) := by decide +kernel
theorem dX7_sumWith_25 : decode cX7_sumWith 25 = .ok (.if_icmp .ne 21, 3) := by decide +kernel
theorem dX7_sumWith_28 : decode cX7_sumWith 28 = .ok (.iload_n 2, 1) := by decide +kernel
theorem dX7_sumWith_29 : decode cX7_sumWith 29 = .ok (.ifCond .eq 13, 3) := by decide +kernel
theorem dX7_sumWith_32 : decode cX7_sumWith 32 = .ok (.aload_n 0, 1) := by decide +kernel
theorem dX7_sumWith_33 : decode cX7_sumWith 33 = .ok (.iload 4, 2) := by decide +kernel
theorem dX7_sumWith_35 : decode cX7_sumWith 35 = .ok (.iconst 0, 1) := by decide +kernel
theorem dX7_sumWith_36 : decode cX7_sumWith 36 = .ok (.invokevirtual 49, 3) := by decide +kernel
theorem dX7_sumWith_39 : decode cX7_sumWith 39 = .ok (.goto 8, 3) := by decide +kernel
theorem dX7_sumWith_42 : decode cX7_sumWith 42 = .ok (.iconst 1, 1) := by decide +kernel
theorem dX7_sumWith_43 : decode cX7_sumWith 43 = .ok (.goto 4, 3) := by decide +kernel
theorem dX7_sumWith_46 : decode cX7_sumWith 46 = .ok (.iconst 0, 1) := by decide +kernel
theorem dX7_sumWith_47 : decode cX7_sumWith 47 = .ok (.iadd, 1) := by decide +kernel
theorem dX7_sumWith_48 : decode cX7_sumWith 48 = .ok (.istore_n 3, 1) := by decide +kernel
theorem dX7_sumWith_49 : decode cX7_sumWith 49 = .ok (.iinc 4 1, 3) := by decide +kernel
theorem dX7_sumWith_52 : decode cX7_sumWith 52 = .ok (.goto (-47), 3) := by decide +kernel
theorem dX7_sumWith_55 : decode cX7_sumWith 55 = .ok (.iload_n 3, 1) := by decide +kernel
theorem dX7_sumWith_56 : decode cX7_sumWith 56 = .ok (.ireturn, 1) := by decide +kernel
theorem dX7_withState_0 : decode cX7_withState 0 = .ok (.aload_n 0, 1) := by decide +kernel
theorem dX7_withState_1 : decode cX7_withState 1 = .ok (.iconst 0, 1) := by decide +kernel
theorem dX7_withState_2 : decode cX7_withState 2 = .ok (.putfield 38, 3) := by decide +kernel
theorem dX7_withState_5 : decode cX7_withState 5 = .ok (.iload_n 1, 1) := by decide +kernel
theorem dX7_withState_6 : decode cX7_withState 6 = .ok (.iconst 0, 1) := by decide +kernel
theorem dX7_withState_7 : decode cX7_withState 7 = .ok (.iconst 4, 1) := by decide +kernel
theorem dX7_withState_8 : decode cX7_withState 8 = .ok (.invokestatic 42, 3) := by decide +kernel
theorem dX7_withState_11 : decode cX7_withState 11 = .ok (.ifCond .eq 12, 3) := by decide +kernel
theorem dX7_withState_14 : decode cX7_withState 14 = .ok (.aload_n 0, 1) := by decide +kernel
theorem dX7_withState_15 : decode cX7_withState 15 = .ok (.iload_n 1, 1) := by decide +kernel
theorem dX7_withState_16 : decode cX7_withState 16 = .ok (.iconst 0, 1) := by decide +kernel
theorem dX7_withState_17 : decode cX7_withState 17 = .ok (.invokevirtual 233, 3) := by decide +kernel
theorem dX7_withState_20 : decode cX7_withState 20 = .ok (.goto 8, 3) := by decide +kernel
theorem dX7_withState_23 : decode cX7_withState 23 = .ok (.aload_n 0, 1) := by decide +kernel
theorem dX7_withState_24 : decode cX7_withState 24 = .ok (.iconst 1, 1) := by decide +kernel
theorem dX7_withState_25 : decode cX7_withState 25 = .ok (.invokevirtual 76, 3) := by decide +kernel
theorem dX7_withState_28 : decode cX7_withState 28 = .ok (.ireturn, 1) := by decide +kernel
theorem dX7_pointsWith_0 : decode cX7_pointsWith 0 = .ok (.aload_n 0, 1) := by decide +kernel
theorem dX7_pointsWith_1 : decode cX7_pointsWith 1 = .ok (.iconst 0, 1) := by decide +kernel
theorem dX7_pointsWith_2 : decode cX7_pointsWith 2 = .ok (.putfield 38, 3) := by decide +kernel
theorem dX7_pointsWith_5 : decode cX7_pointsWith 5 = .ok (.iload_n 1, 1) := by decide +kernel
theorem dX7_pointsWith_6 : decode cX7_pointsWith 6 = .ok (.iconst 0, 1) := by decide +kernel
theorem dX7_pointsWith_7 : decode cX7_pointsWith 7 = .ok (.iconst 4, 1) := by decide +kernel
theorem dX7_pointsWith_8 : decode cX7_pointsWith 8 = .ok (.invokestatic 42, 3) := by decide +kernel
theorem dX7_pointsWith_11 : decode cX7_pointsWith 11 = .ok (.ifCond .eq 12, 3) := by decide +kernel
theorem dX7_pointsWith_14 : decode cX7_pointsWith 14 = .ok (.aload_n 0, 1) := by decide +kernel
theorem dX7_pointsWith_15 : decode cX7_pointsWith 15 = .ok (.iload_n 1, 1) := by decide +kernel
theorem dX7_pointsWith_16 : decode cX7_pointsWith 16 = .ok (.iconst 1, 1) := by decide +kernel
theorem dX7_pointsWith_17 : decode cX7_pointsWith 17 = .ok (.invokevirtual 233, 3) := by decide +kernel
theorem dX7_pointsWith_20 : decode cX7_pointsWith 20 = .ok (.goto 8, 3) := by decide +kernel
theorem dX7_pointsWith_23 : decode cX7_pointsWith 23 = .ok (.aload_n 0, 1) := by decide +kernel
theorem dX7_pointsWith_24 : decode cX7_pointsWith 24 = .ok (.iconst 1, 1) := by decide +kernel
theorem dX7_pointsWith_25 : decode cX7_pointsWith 25 = .ok (.invokevirtual 76, 3) := by decide +kernel
theorem dX7_pointsWith_28 : decode cX7_pointsWith 28 = .ok (.ireturn, 1) := by decide +kernel
theorem dX7_allPoints_0 : decode cX7_allPoints 0 = .ok (.aload_n 0, 1) := by decide +kernel
theorem dX7_allPoints_1 : decode cX7_allPoints 1 = .ok (.iconst 0, 1) := by decide +kernel
theorem dX7_allPoints_2 : decode cX7_allPoints 2 = .ok (.putfield 38, 3) := by decide +kernel
theorem dX7_allPoints_5 : decode cX7_allPoints 5 = .ok (.iconst 0, 1) := by decide +kernel
theorem dX7_allPoints_6 : decode cX7_allPoints 6 = .ok (.istore_n 1, 1) := by decide +kernel
theorem dX7_allPoints_7 : decode cX7_allPoints 7 = .ok (.iconst 0, 1) := by decide +kernel
theorem dX7_allPoints_8 : decode cX7_allPoints 8 = .ok (.istore_n 2, 1) := by decide +kernel
theorem dX7_allPoints_9 : decode cX7_allPoints 9 = .ok (.iload_n 2, 1) := by decide +kernel
theorem dX7_allPoints_10 : decode cX7_allPoints 10 = .ok (.iconst 5, 1) := by decide +kernel
theorem dX7_allPoints_11 : decode cX7_allPoints 11 = .ok (.if_icmp .ge 18, 3) := by decide +kernel
theorem dX7_allPoints_14 : decode cX7_allPoints 14 = .ok (.iload_n 1, 1) := by decide +kernel
theorem dX7_allPoints_15 : decode cX7_allPoints 15 = .ok (.aload_n 0, 1) := by decide +kernel
theorem dX7_allPoints_16 : decode cX7_allPoints 16 = .ok (.iload_n 2, 1) := by decide +kernel
theorem dX7_allPoints_17 : decode cX7_allPoints 17 = .ok (.iconst 1, 1) := by decide +kernel
theorem dX7_allPoints_18 : decode cX7_allPoints 18 = .ok (.invokevirtual 233, 3) := by decide +kernel
theorem dX7_allPoints_21 : decode cX7_allPoints 21 = .ok (.iadd, 1) := by decide +kernel
theorem dX7_allPoints_22 : decode cX7_allPoints 22 = .ok (.istore_n 1, 1) := by decide +kernel
theorem dX7_allPoints_23 : decode cX7_allPoints 23 = .ok (.iinc 2 1, 3) := by decide +kernel
theorem dX7_allPoints_26 : decode cX7_allPoints 26 = .ok (.goto (-17), 3) := by decide +kernel
theorem dX7_allPoints_29 : decode cX7_allPoints 29 = .ok (.iload_n 1, 1) := by decide +kernel
theorem dX7_allPoints_30 : decode cX7_allPoints 30 = .ok (.ireturn, 1) := by decide +kernel
theorem dX7_blockedMany_0 : decode cX7_blockedMany 0 = .ok (.aload_n 0, 1) := by decide +kernel
theorem dX7_blockedMany_1 : decode cX7_blockedMany 1 = .ok (.invokevirtual 128, 3) := by decide +kernel
theorem dX7_blockedMany_4 : decode cX7_blockedMany 4 = .ok (.aload_n 0, 1) := by decide +kernel
theorem dX7_blockedMany_5 : decode cX7_blockedMany 5 = .ok (.invokevirtual 57, 3) := by decide +kernel
theorem dX7_blockedMany_8 : decode cX7_blockedMany 8 = .ok (.iand, 1) := by decide +kernel
theorem dX7_blockedMany_9 : decode cX7_blockedMany 9 = .ok (.invokestatic 98, 3) := by decide +kernel
theorem dX7_blockedMany_12 : decode cX7_blockedMany 12 = .ok (.ireturn, 1) := by decide +kernel
theorem dX7_blockedTickets_0 : decode cX7_blockedTickets 0 = .ok (.aload_n 0, 1) := by decide +kernel
theorem dX7_blockedTickets_1 : decode cX7_blockedTickets 1 = .ok (.iconst 0, 1) := by decide +kernel
theorem dX7_blockedTickets_2 : decode cX7_blockedTickets 2 = .ok (.putfield 38, 3) := by decide +kernel
theorem dX7_blockedTickets_5 : decode cX7_blockedTickets 5 = .ok (.aload_n 0, 1) := by decide +kernel
theorem dX7_blockedTickets_6 : decode cX7_blockedTickets 6 = .ok (.invokevirtual 237, 3) := by decide +kernel
theorem dX7_blockedTickets_9 : decode cX7_blockedTickets 9 = .ok (.ireturn, 1) := by decide +kernel
theorem dX7_closings_0 : decode cX7_closings 0 = .ok (.aload_n 0, 1) := by decide +kernel
theorem dX7_closings_1 : decode cX7_closings 1 = .ok (.iconst 0, 1) := by decide +kernel
theorem dX7_closings_2 : decode cX7_closings 2 = .ok (.putfield 38, 3) := by decide +kernel
theorem dX7_closings_5 : decode cX7_closings 5 = .ok (.aload_n 0, 1) := by decide +kernel
theorem dX7_closings_6 : decode cX7_closings 6 = .ok (.getfield 7, 3) := by decide +kernel
theorem dX7_closings_9 : decode cX7_closings 9 = .ok (.iconst 2, 1) := by decide +kernel
theorem dX7_closings_10 : decode cX7_closings 10 = .ok (.iaload, 1) := by decide +kernel
theorem dX7_closings_11 : decode cX7_closings 11 = .ok (.ireturn, 1) := by decide +kernel
theorem dX7_reopenings_0 : decode cX7_reopenings 0 = .ok (.aload_n 0, 1) := by decide +kernel
theorem dX7_reopenings_1 : decode cX7_reopenings 1 = .ok (.iconst 0, 1) := by decide +kernel
theorem dX7_reopenings_2 : decode cX7_reopenings 2 = .ok (.putfield 38, 3) := by decide +kernel
theorem dX7_reopenings_5 : decode cX7_reopenings 5 = .ok (.aload_n 0, 1) := by decide +kernel
theorem dX7_reopenings_6 : decode cX7_reopenings 6 = .ok (.getfield 7, 3) := by decide +kernel
theorem dX7_reopenings_9 : decode cX7_reopenings 9 = .ok (.iconst 3, 1) := by decide +kernel
theorem dX7_reopenings_10 : decode cX7_reopenings 10 = .ok (.iaload, 1) := by decide +kernel
theorem dX7_reopenings_11 : decode cX7_reopenings 11 = .ok (.ireturn, 1) := by decide +kernel
theorem dX7_week_0 : decode cX7_week 0 = .ok (.iconst 0, 1) := by decide +kernel
theorem dX7_week_1 : decode cX7_week 1 = .ok (.istore_n 1, 1) := by decide +kernel
theorem dX7_week_2 : decode cX7_week 2 = .ok (.iconst 0, 1) := by decide +kernel
theorem dX7_week_3 : decode cX7_week 3 = .ok (.istore_n 2, 1) := by decide +kernel
theorem dX7_week_4 : decode cX7_week 4 = .ok (.iload_n 2, 1) := by decide +kernel
theorem dX7_week_5 : decode cX7_week 5 = .ok (.aload_n 0, 1) := by decide +kernel
theorem dX7_week_6 : decode cX7_week 6 = .ok (.getfield 7, 3) := by decide +kernel
theorem dX7_week_9 : decode cX7_week 9 = .ok (.iconst 0, 1) := by decide +kernel
theorem dX7_week_10 : decode cX7_week 10 = .ok (.iaload, 1) := by decide +kernel
theorem dX7_week_11 : decode cX7_week 11 = .ok (.if_icmp .ge 51, 3) := by decide +kernel
theorem dX7_week_14 : decode cX7_week 14 = .ok (.iload_n 1, 1) := by decide +kernel
theorem dX7_week_15 : decode cX7_week 15 = .ok (.aload_n 0, 1) := by decide +kernel
theorem dX7_week_16 : decode cX7_week 16 = .ok (.iload_n 2, 1) := by decide +kernel
theorem dX7_week_17 : decode cX7_week 17 = .ok (.iconst 2, 1) := by decide +kernel
theorem dX7_week_18 : decode cX7_week 18 = .ok (.invokevirtual 49, 3) := by decide +kernel
theorem dX7_week_21 : decode cX7_week 21 = .ok (.iconst 3, 1) := by decide +kernel
theorem dX7_week_22 : decode cX7_week 22 = .ok (.if_icmp .ne 31, 3) := by decide +kernel
theorem dX7_week_25 : decode cX7_week 25 = .ok (.aload_n 0, 1) := by decide +kernel
theorem dX7_week_26 : decode cX7_week 26 = .ok (.iload_n 2, 1) := by decide +kernel
theorem dX7_week_27 : decode cX7_week 27 = .ok (.bipush 6, 2) := by decide +kernel
theorem dX7_week_29 : decode cX7_week 29 = .ok (.invokevirtual 49, 3) := by decide +kernel
theorem dX7_week_32 : decode cX7_week 32 = .ok (.aload_n 0, 1) := by decide +kernel
theorem dX7_week_33 : decode cX7_week 33 = .ok (.getfield 7, 3) := by decide +kernel
theorem dX7_week_36 : decode cX7_week 36 = .ok (.iconst 1, 1) := by decide +kernel
theorem dX7_week_37 : decode cX7_week 37 = .ok (.iaload, 1) := by decide +kernel
theorem dX7_week_38 : decode cX7_week 38 = .ok (.bipush 6, 2) := by decide +kernel
theorem dX7_week_40 : decode cX7_week 40 = .ok (.isub, 1) := by decide +kernel
theorem dX7_week_41 : decode cX7_week 41 = .ok (.if_icmp .lt 12, 3) := by decide +kernel
theorem dX7_week_44 : decode cX7_week 44 = .ok (.aload_n 0, 1) := by decide +kernel
theorem dX7_week_45 : decode cX7_week 45 = .ok (.iload_n 2, 1) := by decide +kernel
theorem dX7_week_46 : decode cX7_week 46 = .ok (.iconst 0, 1) := by decide +kernel
theorem dX7_week_47 : decode cX7_week 47 = .ok (.invokevirtual 49, 3) := by decide +kernel
theorem dX7_week_50 : decode cX7_week 50 = .ok (.goto 4, 3) := by decide +kernel
theorem dX7_week_53 : decode cX7_week 53 = .ok (.iconst 0, 1) := by decide +kernel
theorem dX7_week_54 : decode cX7_week 54 = .ok (.iadd, 1) := by decide +kernel
theorem dX7_week_55 : decode cX7_week 55 = .ok (.istore_n 1, 1) := by decide +kernel
theorem dX7_week_56 : decode cX7_week 56 = .ok (.iinc 2 1, 3) := by decide +kernel
theorem dX7_week_59 : decode cX7_week 59 = .ok (.goto (-55), 3) := by decide +kernel
theorem dX7_week_62 : decode cX7_week 62 = .ok (.iload_n 1, 1) := by decide +kernel
theorem dX7_week_63 : decode cX7_week 63 = .ok (.ireturn, 1) := by decide +kernel
theorem dX7_pointsOfWeek_0 : decode cX7_pointsOfWeek 0 = .ok (.aload_n 0, 1) := by decide +kernel
theorem dX7_pointsOfWeek_1 : decode cX7_pointsOfWeek 1 = .ok (.iconst 0, 1) := by decide +kernel
theorem dX7_pointsOfWeek_2 : decode cX7_pointsOfWeek 2 = .ok (.putfield 38, 3) := by decide +kernel
theorem dX7_pointsOfWeek_5 : decode cX7_pointsOfWeek 5 = .ok (.aload_n 0, 1) := by decide +kernel
theorem dX7_pointsOfWeek_6 : decode cX7_pointsOfWeek 6 = .ok (.invokevirtual 240, 3) := by decide +kernel
theorem dX7_pointsOfWeek_9 : decode cX7_pointsOfWeek 9 = .ok (.ireturn, 1) := by decide +kernel
theorem dX7_mean_0 : decode cX7_mean 0 = .ok (.iconst 0, 1) := by decide +kernel
theorem dX7_mean_1 : decode cX7_mean 1 = .ok (.istore_n 1, 1) := by decide +kernel
theorem dX7_mean_2 : decode cX7_mean 2 = .ok (.iconst 0, 1) := by decide +kernel
theorem dX7_mean_3 : decode cX7_mean 3 = .ok (.istore_n 2, 1) := by decide +kernel
theorem dX7_mean_4 : decode cX7_mean 4 = .ok (.iconst 0, 1) := by decide +kernel
theorem dX7_mean_5 : decode cX7_mean 5 = .ok (.istore_n 3, 1) := by decide +kernel
theorem dX7_mean_6 : decode cX7_mean 6 = .ok (.iload_n 3, 1) := by decide +kernel
theorem dX7_mean_7 : decode cX7_mean 7 = .ok (.aload_n 0, 1) := by decide +kernel
theorem dX7_mean_8 : decode cX7_mean 8 = .ok (.getfield 7, 3) := by decide +kernel
theorem dX7_mean_11 : decode cX7_mean 11 = .ok (.iconst 0, 1) := by decide +kernel
theorem dX7_mean_12 : decode cX7_mean 12 = .ok (.iaload, 1) := by decide +kernel
theorem dX7_mean_13 : decode cX7_mean 13 = .ok (.if_icmp .ge 51, 3) := by decide +kernel
theorem dX7_mean_16 : decode cX7_mean 16 = .ok (.iload_n 1, 1) := by decide +kernel
theorem dX7_mean_17 : decode cX7_mean 17 = .ok (.aload_n 0, 1) := by decide +kernel
theorem dX7_mean_18 : decode cX7_mean 18 = .ok (.iload_n 3, 1) := by decide +kernel
theorem dX7_mean_19 : decode cX7_mean 19 = .ok (.iconst 2, 1) := by decide +kernel
theorem dX7_mean_20 : decode cX7_mean 20 = .ok (.invokevirtual 49, 3) := by decide +kernel
theorem dX7_mean_23 : decode cX7_mean 23 = .ok (.iconst 3, 1) := by decide +kernel
theorem dX7_mean_24 : decode cX7_mean 24 = .ok (.if_icmp .ne 13, 3) := by decide +kernel
theorem dX7_mean_27 : decode cX7_mean 27 = .ok (.aload_n 0, 1) := by decide +kernel
theorem dX7_mean_28 : decode cX7_mean 28 = .ok (.iload_n 3, 1) := by decide +kernel
theorem dX7_mean_29 : decode cX7_mean 29 = .ok (.bipush 7, 2) := by decide +kernel
theorem dX7_mean_31 : decode cX7_mean 31 = .ok (.invokevirtual 49, 3) := by decide +kernel
theorem dX7_mean_34 : decode cX7_mean 34 = .ok (.goto 4, 3) := by decide +kernel
theorem dX7_mean_37 : decode cX7_mean 37 = .ok (.iconst 0, 1) := by decide +kernel
theorem dX7_mean_38 : decode cX7_mean 38 = .ok (.iadd, 1) := by decide +kernel
theorem dX7_mean_39 : decode cX7_mean 39 = .ok (.istore_n 1, 1) := by decide +kernel
theorem dX7_mean_40 : decode cX7_mean 40 = .ok (.iload_n 2, 1) := by decide +kernel
theorem dX7_mean_41 : decode cX7_mean 41 = .ok (.aload_n 0, 1) := by decide +kernel
theorem dX7_mean_42 : decode cX7_mean 42 = .ok (.iload_n 3, 1) := by decide +kernel
theorem dX7_mean_43 : decode cX7_mean 43 = .ok (.iconst 2, 1) := by decide +kernel
theorem dX7_mean_44 : decode cX7_mean 44 = .ok (.invokevirtual 49, 3) := by decide +kernel
theorem dX7_mean_47 : decode cX7_mean 47 = .ok (.iconst 3, 1) := by decide +kernel
theorem dX7_mean_48 : decode cX7_mean 48 = .ok (.if_icmp .ne 7, 3) := by decide +kernel
theorem dX7_mean_51 : decode cX7_mean 51 = .ok (.iconst 1, 1) := by decide +kernel
theorem dX7_mean_52 : decode cX7_mean 52 = .ok (.goto 4, 3) := by decide +kernel
theorem dX7_mean_55 : decode cX7_mean 55 = .ok (.iconst 0, 1) := by decide +kernel
theorem dX7_mean_56 : decode cX7_mean 56 = .ok (.iadd, 1) := by decide +kernel
theorem dX7_mean_57 : decode cX7_mean 57 = .ok (.istore_n 2, 1) := by decide +kernel
theorem dX7_mean_58 : decode cX7_mean 58 = .ok (.iinc 3 1, 3) := by decide +kernel
theorem dX7_mean_61 : decode cX7_mean 61 = .ok (.goto (-55), 3) := by decide +kernel
theorem dX7_mean_64 : decode cX7_mean 64 = .ok (.iload_n 2, 1) := by decide +kernel
theorem dX7_mean_65 : decode cX7_mean 65 = .ok (.ifCond .ne 7, 3) := by decide +kernel
theorem dX7_mean_68 : decode cX7_mean 68 = .ok (.dconst 0, 1) := by decide +kernel
theorem dX7_mean_69 : decode cX7_mean 69 = .ok (.goto 8, 3) := by decide +kernel
theorem dX7_mean_72 : decode cX7_mean 72 = .ok (.iload_n 1, 1) := by decide +kernel
theorem dX7_mean_73 : decode cX7_mean 73 = .ok (.i2d, 1) := by decide +kernel
theorem dX7_mean_74 : decode cX7_mean 74 = .ok (.iload_n 2, 1) := by decide +kernel
theorem dX7_mean_75 : decode cX7_mean 75 = .ok (.i2d, 1) := by decide +kernel
theorem dX7_mean_76 : decode cX7_mean 76 = .ok (.ddiv, 1) := by decide +kernel
theorem dX7_mean_77 : decode cX7_mean 77 = .ok (.dreturn, 1) := by decide +kernel
theorem dX7_meanDays_0 : decode cX7_meanDays 0 = .ok (.aload_n 0, 1) := by decide +kernel
theorem dX7_meanDays_1 : decode cX7_meanDays 1 = .ok (.iconst 0, 1) := by decide +kernel
theorem dX7_meanDays_2 : decode cX7_meanDays 2 = .ok (.putfield 38, 3) := by decide +kernel
theorem dX7_meanDays_5 : decode cX7_meanDays 5 = .ok (.aload_n 0, 1) := by decide +kernel
theorem dX7_meanDays_6 : decode cX7_meanDays 6 = .ok (.invokevirtual 243, 3) := by decide +kernel
theorem dX7_meanDays_9 : decode cX7_meanDays 9 = .ok (.dreturn, 1) := by decide +kernel
theorem dX7_digestTicket_0 : decode cX7_digestTicket 0 = .ok (.ldc2_w 247, 3) := by decide +kernel
theorem dX7_digestTicket_3 : decode cX7_digestTicket 3 = .ok (.ldc2_w 247, 3) := by decide +kernel
theorem dX7_digestTicket_6 : decode cX7_digestTicket 6 = .ok (.ldc2_w 247, 3) := by decide +kernel
theorem dX7_digestTicket_9 : decode cX7_digestTicket 9 = .ok (.lload_n 1, 1) := by decide +kernel
theorem dX7_digestTicket_10 : decode cX7_digestTicket 10 = .ok (.lmul, 1) := by decide +kernel
theorem dX7_digestTicket_11 : decode cX7_digestTicket 11 = .ok (.aload_n 0, 1) := by decide +kernel
theorem dX7_digestTicket_12 : decode cX7_digestTicket 12 = .ok (.iload_n 3, 1) := by decide +kernel
theorem dX7_digestTicket_13 : decode cX7_digestTicket 13 = .ok (.iconst 2, 1) := by decide +kernel
theorem dX7_digestTicket_14 : decode cX7_digestTicket 14 = .ok (.invokevirtual 49, 3) := by decide +kernel
theorem dX7_digestTicket_17 : decode cX7_digestTicket 17 = .ok (.i2l, 1) := by decide +kernel
theorem dX7_digestTicket_18 : decode cX7_digestTicket 18 = .ok (.ladd, 1) := by decide +kernel
theorem dX7_digestTicket_19 : decode cX7_digestTicket 19 = .ok (.lmul, 1) := by decide +kernel
theorem dX7_digestTicket_20 : decode cX7_digestTicket 20 = .ok (.aload_n 0, 1) := by decide +kernel
theorem dX7_digestTicket_21 : decode cX7_digestTicket 21 = .ok (.iload_n 3, 1) := by decide +kernel
theorem dX7_digestTicket_22 : decode cX7_digestTicket 22 = .ok (.iconst 0, 1) := by decide +kernel
theorem dX7_digestTicket_23 : decode cX7_digestTicket 23 = .ok (.invokevirtual 49, 3) := by decide +kernel
theorem dX7_digestTicket_26 : decode cX7_digestTicket 26 = .ok (.i2l, 1) := by decide +kernel
theorem dX7_digestTicket_27 : decode cX7_digestTicket 27 = .ok (.ladd, 1) := by decide +kernel
theorem dX7_digestTicket_28 : decode cX7_digestTicket 28 = .ok (.lmul, 1) := by decide +kernel
theorem dX7_digestTicket_29 : decode cX7_digestTicket 29 = .ok (.aload_n 0, 1) := by decide +kernel
theorem dX7_digestTicket_30 : decode cX7_digestTicket 30 = .ok (.iload_n 3, 1) := by decide +kernel
theorem dX7_digestTicket_31 : decode cX7_digestTicket 31 = .ok (.iconst 1, 1) := by decide +kernel
theorem dX7_digestTicket_32 : decode cX7_digestTicket 32 = .ok (.invokevirtual 49, 3) := by decide +kernel
theorem dX7_digestTicket_35 : decode cX7_digestTicket 35 = .ok (.i2l, 1) := by decide +kernel
theorem dX7_digestTicket_36 : decode cX7_digestTicket 36 = .ok (.ladd, 1) := by decide +kernel
theorem dX7_digestTicket_37 : decode cX7_digestTicket 37 = .ok (.lstore 4, 2) := by decide +kernel
theorem dX7_digestTicket_39 : decode cX7_digestTicket 39 = .ok (.ldc2_w 247, 3) := by decide +kernel
theorem dX7_digestTicket_42 : decode cX7_digestTicket 42 = .ok (.ldc2_w 247, 3) := by decide +kernel
theorem dX7_digestTicket_45 : decode cX7_digestTicket 45 = .ok (.ldc2_w 247, 3) := by decide +kernel
theorem dX7_digestTicket_48 : decode cX7_digestTicket 48 = .ok (.lload 4, 2) := by decide +kernel
theorem dX7_digestTicket_50 : decode cX7_digestTicket 50 = .ok (.lmul, 1) := by decide +kernel
theorem dX7_digestTicket_51 : decode cX7_digestTicket 51 = .ok (.aload_n 0, 1) := by decide +kernel
theorem dX7_digestTicket_52 : decode cX7_digestTicket 52 = .ok (.iload_n 3, 1) := by decide +kernel
theorem dX7_digestTicket_53 : decode cX7_digestTicket 53 = .ok (.iconst 3, 1) := by decide +kernel
theorem dX7_digestTicket_54 : decode cX7_digestTicket 54 = .ok (.invokevirtual 49, 3) := by decide +kernel
theorem dX7_digestTicket_57 : decode cX7_digestTicket 57 = .ok (.i2l, 1) := by decide +kernel
theorem dX7_digestTicket_58 : decode cX7_digestTicket 58 = .ok (.ladd, 1) := by decide +kernel
theorem dX7_digestTicket_59 : decode cX7_digestTicket 59 = .ok (.lmul, 1) := by decide +kernel
theorem dX7_digestTicket_60 : decode cX7_digestTicket 60 = .ok (.aload_n 0, 1) := by decide +kernel
theorem dX7_digestTicket_61 : decode cX7_digestTicket 61 = .ok (.iload_n 3, 1) := by decide +kernel
theorem dX7_digestTicket_62 : decode cX7_digestTicket 62 = .ok (.iconst 4, 1) := by decide +kernel
theorem dX7_digestTicket_63 : decode cX7_digestTicket 63 = .ok (.invokevirtual 49, 3) := by decide +kernel
theorem dX7_digestTicket_66 : decode cX7_digestTicket 66 = .ok (.i2l, 1) := by decide +kernel
theorem dX7_digestTicket_67 : decode cX7_digestTicket 67 = .ok (.ladd, 1) := by decide +kernel
theorem dX7_digestTicket_68 : decode cX7_digestTicket 68 = .ok (.lmul, 1) := by decide +kernel
theorem dX7_digestTicket_69 : decode cX7_digestTicket 69 = .ok (.aload_n 0, 1) := by decide +kernel
theorem dX7_digestTicket_70 : decode cX7_digestTicket 70 = .ok (.iload_n 3, 1) := by decide +kernel
theorem dX7_digestTicket_71 : decode cX7_digestTicket 71 = .ok (.iconst 5, 1) := by decide +kernel
theorem dX7_digestTicket_72 : decode cX7_digestTicket 72 = .ok (.invokevirtual 49, 3) := by decide +kernel
theorem dX7_digestTicket_75 : decode cX7_digestTicket 75 = .ok (.i2l, 1) := by decide +kernel
theorem dX7_digestTicket_76 : decode cX7_digestTicket 76 = .ok (.ladd, 1) := by decide +kernel
theorem dX7_digestTicket_77 : decode cX7_digestTicket 77 = .ok (.lstore 4, 2) := by decide +kernel
theorem dX7_digestTicket_79 : decode cX7_digestTicket 79 = .ok (.ldc2_w 247, 3) := by decide +kernel
theorem dX7_digestTicket_82 : decode cX7_digestTicket 82 = .ok (.ldc2_w 247, 3) := by decide +kernel
theorem dX7_digestTicket_85 : decode cX7_digestTicket 85 = .ok (.lload 4, 2) := by decide +kernel
theorem dX7_digestTicket_87 : decode cX7_digestTicket 87 = .ok (.lmul, 1) := by decide +kernel
theorem dX7_digestTicket_88 : decode cX7_digestTicket 88 = .ok (.aload_n 0, 1) := by decide +kernel
theorem dX7_digestTicket_89 : decode cX7_digestTicket 89 = .ok (.iload_n 3, 1) := by decide +kernel
theorem dX7_digestTicket_90 : decode cX7_digestTicket 90 = .ok (.bipush 7, 2) := by decide +kernel
theorem dX7_digestTicket_92 : decode cX7_digestTicket 92 = .ok (.invokevirtual 49, 3) := by decide +kernel
theorem dX7_digestTicket_95 : decode cX7_digestTicket 95 = .ok (.i2l, 1) := by decide +kernel
theorem dX7_digestTicket_96 : decode cX7_digestTicket 96 = .ok (.ladd, 1) := by decide +kernel
theorem dX7_digestTicket_97 : decode cX7_digestTicket 97 = .ok (.lmul, 1) := by decide +kernel
theorem dX7_digestTicket_98 : decode cX7_digestTicket 98 = .ok (.aload_n 0, 1) := by decide +kernel
theorem dX7_digestTicket_99 : decode cX7_digestTicket 99 = .ok (.iload_n 3, 1) := by decide +kernel
theorem dX7_digestTicket_100 : decode cX7_digestTicket 100 = .ok (.bipush 8, 2) := by decide +kernel
theorem dX7_digestTicket_102 : decode cX7_digestTicket 102 = .ok (.invokevirtual 49, 3) := by decide +kernel
theorem dX7_digestTicket_105 : decode cX7_digestTicket 105 = .ok (.i2l, 1) := by decide +kernel
theorem dX7_digestTicket_106 : decode cX7_digestTicket 106 = .ok (.ladd, 1) := by decide +kernel
theorem dX7_digestTicket_107 : decode cX7_digestTicket 107 = .ok (.lstore 4, 2) := by decide +kernel
theorem dX7_digestTicket_109 : decode cX7_digestTicket 109 = .ok (.ldc2_w 247, 3) := by decide +kernel
theorem dX7_digestTicket_112 : decode cX7_digestTicket 112 = .ok (.ldc2_w 247, 3) := by decide +kernel
theorem dX7_digestTicket_115 : decode cX7_digestTicket 115 = .ok (.lload 4, 2) := by decide +kernel
theorem dX7_digestTicket_117 : decode cX7_digestTicket 117 = .ok (.lmul, 1) := by decide +kernel
theorem dX7_digestTicket_118 : decode cX7_digestTicket 118 = .ok (.aload_n 0, 1) := by decide +kernel
theorem dX7_digestTicket_119 : decode cX7_digestTicket 119 = .ok (.iload_n 3, 1) := by decide +kernel
theorem dX7_digestTicket_120 : decode cX7_digestTicket 120 = .ok (.invokevirtual 61, 3) := by decide +kernel
theorem dX7_digestTicket_123 : decode cX7_digestTicket 123 = .ok (.ifCond .eq 7, 3) := by decide +kernel
theorem dX7_digestTicket_126 : decode cX7_digestTicket 126 = .ok (.iconst 1, 1) := by decide +kernel
theorem dX7_digestTicket_127 : decode cX7_digestTicket 127 = .ok (.goto 4, 3) := by decide +kernel
theorem dX7_digestTicket_130 : decode cX7_digestTicket 130 = .ok (.iconst 0, 1) := by decide +kernel
theorem dX7_digestTicket_131 : decode cX7_digestTicket 131 = .ok (.i2l, 1) := by decide +kernel
theorem dX7_digestTicket_132 : decode cX7_digestTicket 132 = .ok (.ladd, 1) := by decide +kernel
theorem dX7_digestTicket_133 : decode cX7_digestTicket 133 = .ok (.lmul, 1) := by decide +kernel
theorem dX7_digestTicket_134 : decode cX7_digestTicket 134 = .ok (.aload_n 0, 1) := by decide +kernel
theorem dX7_digestTicket_135 : decode cX7_digestTicket 135 = .ok (.iload_n 3, 1) := by decide +kernel
theorem dX7_digestTicket_136 : decode cX7_digestTicket 136 = .ok (.invokevirtual 61, 3) := by decide +kernel
theorem dX7_digestTicket_139 : decode cX7_digestTicket 139 = .ok (.invokestatic 98, 3) := by decide +kernel
theorem dX7_digestTicket_142 : decode cX7_digestTicket 142 = .ok (.i2l, 1) := by decide +kernel
theorem dX7_digestTicket_143 : decode cX7_digestTicket 143 = .ok (.ladd, 1) := by decide +kernel
theorem dX7_digestTicket_144 : decode cX7_digestTicket 144 = .ok (.lstore 4, 2) := by decide +kernel
theorem dX7_digestTicket_146 : decode cX7_digestTicket 146 = .ok (.ldc2_w 247, 3) := by decide +kernel
theorem dX7_digestTicket_149 : decode cX7_digestTicket 149 = .ok (.ldc2_w 247, 3) := by decide +kernel
theorem dX7_digestTicket_152 : decode cX7_digestTicket 152 = .ok (.lload 4, 2) := by decide +kernel
theorem dX7_digestTicket_154 : decode cX7_digestTicket 154 = .ok (.lmul, 1) := by decide +kernel
theorem dX7_digestTicket_155 : decode cX7_digestTicket 155 = .ok (.aload_n 0, 1) := by decide +kernel
theorem dX7_digestTicket_156 : decode cX7_digestTicket 156 = .ok (.iload_n 3, 1) := by decide +kernel
theorem dX7_digestTicket_157 : decode cX7_digestTicket 157 = .ok (.invokevirtual 95, 3) := by decide +kernel
theorem dX7_digestTicket_160 : decode cX7_digestTicket 160 = .ok (.invokestatic 98, 3) := by decide +kernel
theorem dX7_digestTicket_163 : decode cX7_digestTicket 163 = .ok (.i2l, 1) := by decide +kernel
theorem dX7_digestTicket_164 : decode cX7_digestTicket 164 = .ok (.ladd, 1) := by decide +kernel
theorem dX7_digestTicket_165 : decode cX7_digestTicket 165 = .ok (.lmul, 1) := by decide +kernel
theorem dX7_digestTicket_166 : decode cX7_digestTicket 166 = .ok (.aload_n 0, 1) := by decide +kernel
theorem dX7_digestTicket_167 : decode cX7_digestTicket 167 = .ok (.iload_n 3, 1) := by decide +kernel
theorem dX7_digestTicket_168 : decode cX7_digestTicket 168 = .ok (.invokevirtual 95, 3) := by decide +kernel
theorem dX7_digestTicket_171 : decode cX7_digestTicket 171 = .ok (.invokestatic 98, 3) := by decide +kernel
theorem dX7_digestTicket_174 : decode cX7_digestTicket 174 = .ok (.i2l, 1) := by decide +kernel
theorem dX7_digestTicket_175 : decode cX7_digestTicket 175 = .ok (.ladd, 1) := by decide +kernel
theorem dX7_digestTicket_176 : decode cX7_digestTicket 176 = .ok (.lstore 4, 2) := by decide +kernel
theorem dX7_digestTicket_178 : decode cX7_digestTicket 178 = .ok (.ldc2_w 247, 3) := by decide +kernel
theorem dX7_digestTicket_181 : decode cX7_digestTicket 181 = .ok (.lload 4, 2) := by decide +kernel
theorem dX7_digestTicket_183 : decode cX7_digestTicket 183 = .ok (.lmul, 1) := by decide +kernel
theorem dX7_digestTicket_184 : decode cX7_digestTicket 184 = .ok (.aload_n 0, 1) := by decide +kernel
theorem dX7_digestTicket_185 : decode cX7_digestTicket 185 = .ok (.iload_n 3, 1) := by decide +kernel
theorem dX7_digestTicket_186 : decode cX7_digestTicket 186 = .ok (.invokevirtual 191, 3) := by decide +kernel
theorem dX7_digestTicket_189 : decode cX7_digestTicket 189 = .ok (.i2l, 1) := by decide +kernel
theorem dX7_digestTicket_190 : decode cX7_digestTicket 190 = .ok (.ladd, 1) := by decide +kernel
theorem dX7_digestTicket_191 : decode cX7_digestTicket 191 = .ok (.lstore 4, 2) := by decide +kernel
theorem dX7_digestTicket_193 : decode cX7_digestTicket 193 = .ok (.iconst 0, 1) := by decide +kernel
theorem dX7_digestTicket_194 : decode cX7_digestTicket 194 = .ok (.istore 6, 2) := by decide +kernel
theorem dX7_digestTicket_196 : decode cX7_digestTicket 196 = .ok (.iload 6, 2) := by decide +kernel
theorem dX7_digestTicket_198 : decode cX7_digestTicket 198 = .ok (.aload_n 0, 1) := by decide +kernel
theorem dX7_digestTicket_199 : decode cX7_digestTicket 199 = .ok (.getfield 7, 3) := by decide +kernel
theorem dX7_digestTicket_202 : decode cX7_digestTicket 202 = .ok (.iconst 0, 1) := by decide +kernel
theorem dX7_digestTicket_203 : decode cX7_digestTicket 203 = .ok (.iaload, 1) := by decide +kernel
theorem dX7_digestTicket_204 : decode cX7_digestTicket 204 = .ok (.if_icmp .ge 34, 3) := by decide +kernel
theorem dX7_digestTicket_207 : decode cX7_digestTicket 207 = .ok (.ldc2_w 247, 3) := by decide +kernel
theorem dX7_digestTicket_210 : decode cX7_digestTicket 210 = .ok (.lload 4, 2) := by decide +kernel
theorem dX7_digestTicket_212 : decode cX7_digestTicket 212 = .ok (.lmul, 1) := by decide +kernel
theorem dX7_digestTicket_213 : decode cX7_digestTicket 213 = .ok (.aload_n 0, 1) := by decide +kernel
theorem dX7_digestTicket_214 : decode cX7_digestTicket 214 = .ok (.iload_n 3, 1) := by decide +kernel
theorem dX7_digestTicket_215 : decode cX7_digestTicket 215 = .ok (.iload 6, 2) := by decide +kernel
theorem dX7_digestTicket_217 : decode cX7_digestTicket 217 = .ok (.invokevirtual 92, 3) := by decide +kernel
theorem dX7_digestTicket_220 : decode cX7_digestTicket 220 = .ok (.ifCond .eq 7, 3) := by decide +kernel
theorem dX7_digestTicket_223 : decode cX7_digestTicket 223 = .ok (.iconst 1, 1) := by decide +kernel
theorem dX7_digestTicket_224 : decode cX7_digestTicket 224 = .ok (.goto 4, 3) := by decide +kernel
theorem dX7_digestTicket_227 : decode cX7_digestTicket 227 = .ok (.iconst 0, 1) := by decide +kernel
theorem dX7_digestTicket_228 : decode cX7_digestTicket 228 = .ok (.i2l, 1) := by decide +kernel
theorem dX7_digestTicket_229 : decode cX7_digestTicket 229 = .ok (.ladd, 1) := by decide +kernel
theorem dX7_digestTicket_230 : decode cX7_digestTicket 230 = .ok (.lstore 4, 2) := by decide +kernel
theorem dX7_digestTicket_232 : decode cX7_digestTicket 232 = .ok (.iinc 6 1, 3) := by decide +kernel
theorem dX7_digestTicket_235 : decode cX7_digestTicket 235 = .ok (.goto (-39), 3) := by decide +kernel
theorem dX7_digestTicket_238 : decode cX7_digestTicket 238 = .ok (.lload 4, 2) := by decide +kernel
theorem dX7_digestTicket_240 : decode cX7_digestTicket 240 = .ok (.lreturn, 1) := by decide +kernel
theorem dX7_digest_0 : decode cX7_digest 0 = .ok (.aload_n 0, 1) := by decide +kernel
theorem dX7_digest_1 : decode cX7_digest 1 = .ok (.iconst 0, 1) := by decide +kernel
theorem dX7_digest_2 : decode cX7_digest 2 = .ok (.putfield 38, 3) := by decide +kernel
theorem dX7_digest_5 : decode cX7_digest 5 = .ok (.ldc2_w 249, 3) := by decide +kernel
theorem dX7_digest_8 : decode cX7_digest 8 = .ok (.lstore_n 1, 1) := by decide +kernel
theorem dX7_digest_9 : decode cX7_digest 9 = .ok (.ldc2_w 247, 3) := by decide +kernel
theorem dX7_digest_12 : decode cX7_digest 12 = .ok (.lload_n 1, 1) := by decide +kernel
theorem dX7_digest_13 : decode cX7_digest 13 = .ok (.lmul, 1) := by decide +kernel
theorem dX7_digest_14 : decode cX7_digest 14 = .ok (.aload_n 0, 1) := by decide +kernel
theorem dX7_digest_15 : decode cX7_digest 15 = .ok (.getfield 7, 3) := by decide +kernel
theorem dX7_digest_18 : decode cX7_digest 18 = .ok (.iconst 0, 1) := by decide +kernel
theorem dX7_digest_19 : decode cX7_digest 19 = .ok (.iaload, 1) := by decide +kernel
theorem dX7_digest_20 : decode cX7_digest 20 = .ok (.i2l, 1) := by decide +kernel
theorem dX7_digest_21 : decode cX7_digest 21 = .ok (.ladd, 1) := by decide +kernel
theorem dX7_digest_22 : decode cX7_digest 22 = .ok (.lstore_n 1, 1) := by decide +kernel
theorem dX7_digest_23 : decode cX7_digest 23 = .ok (.iconst 0, 1) := by decide +kernel
theorem dX7_digest_24 : decode cX7_digest 24 = .ok (.istore_n 3, 1) := by decide +kernel
theorem dX7_digest_25 : decode cX7_digest 25 = .ok (.iload_n 3, 1) := by decide +kernel
theorem dX7_digest_26 : decode cX7_digest 26 = .ok (.aload_n 0, 1) := by decide +kernel
theorem dX7_digest_27 : decode cX7_digest 27 = .ok (.getfield 7, 3) := by decide +kernel
theorem dX7_digest_30 : decode cX7_digest 30 = .ok (.iconst 0, 1) := by decide +kernel
theorem dX7_digest_31 : decode cX7_digest 31 = .ok (.iaload, 1) := by decide +kernel
theorem dX7_digest_32 : decode cX7_digest 32 = .ok (.if_icmp .ge 16, 3) := by decide +kernel
theorem dX7_digest_35 : decode cX7_digest 35 = .ok (.aload_n 0, 1) := by decide +kernel
theorem dX7_digest_36 : decode cX7_digest 36 = .ok (.lload_n 1, 1) := by decide +kernel
theorem dX7_digest_37 : decode cX7_digest 37 = .ok (.iload_n 3, 1) := by decide +kernel
theorem dX7_digest_38 : decode cX7_digest 38 = .ok (.invokevirtual 251, 3) := by decide +kernel
theorem dX7_digest_41 : decode cX7_digest 41 = .ok (.lstore_n 1, 1) := by decide +kernel
theorem dX7_digest_42 : decode cX7_digest 42 = .ok (.iinc 3 1, 3) := by decide +kernel
theorem dX7_digest_45 : decode cX7_digest 45 = .ok (.goto (-20), 3) := by decide +kernel
theorem dX7_digest_48 : decode cX7_digest 48 = .ok (.iconst 0, 1) := by decide +kernel
theorem dX7_digest_49 : decode cX7_digest 49 = .ok (.istore_n 3, 1) := by decide +kernel
theorem dX7_digest_50 : decode cX7_digest 50 = .ok (.iload_n 3, 1) := by decide +kernel
theorem dX7_digest_51 : decode cX7_digest 51 = .ok (.iconst 5, 1) := by decide +kernel
theorem dX7_digest_52 : decode cX7_digest 52 = .ok (.if_icmp .ge 71, 3) := by decide +kernel
theorem dX7_digest_55 : decode cX7_digest 55 = .ok (.ldc2_w 247, 3) := by decide +kernel
theorem dX7_digest_58 : decode cX7_digest 58 = .ok (.ldc2_w 247, 3) := by decide +kernel
theorem dX7_digest_61 : decode cX7_digest 61 = .ok (.ldc2_w 247, 3) := by decide +kernel
theorem dX7_digest_64 : decode cX7_digest 64 = .ok (.lload_n 1, 1) := by decide +kernel
theorem dX7_digest_65 : decode cX7_digest 65 = .ok (.lmul, 1) := by decide +kernel
theorem dX7_digest_66 : decode cX7_digest 66 = .ok (.aload_n 0, 1) := by decide +kernel
theorem dX7_digest_67 : decode cX7_digest 67 = .ok (.getfield 7, 3) := by decide +kernel
theorem dX7_digest_70 : decode cX7_digest 70 = .ok (.iconst 4, 1) := by decide +kernel
theorem dX7_digest_71 : decode cX7_digest 71 = .ok (.iload_n 3, 1) := by decide +kernel
theorem dX7_digest_72 : decode cX7_digest 72 = .ok (.iadd, 1) := by decide +kernel
theorem dX7_digest_73 : decode cX7_digest 73 = .ok (.iaload, 1) := by decide +kernel
theorem dX7_digest_74 : decode cX7_digest 74 = .ok (.i2l, 1) := by decide +kernel
theorem dX7_digest_75 : decode cX7_digest 75 = .ok (.ladd, 1) := by decide +kernel
theorem dX7_digest_76 : decode cX7_digest 76 = .ok (.lmul, 1) := by decide +kernel
theorem dX7_digest_77 : decode cX7_digest 77 = .ok (.aload_n 0, 1) := by decide +kernel
theorem dX7_digest_78 : decode cX7_digest 78 = .ok (.iload_n 3, 1) := by decide +kernel
theorem dX7_digest_79 : decode cX7_digest 79 = .ok (.invokevirtual 69, 3) := by decide +kernel
theorem dX7_digest_82 : decode cX7_digest 82 = .ok (.i2l, 1) := by decide +kernel
theorem dX7_digest_83 : decode cX7_digest 83 = .ok (.ladd, 1) := by decide +kernel
theorem dX7_digest_84 : decode cX7_digest 84 = .ok (.lmul, 1) := by decide +kernel
theorem dX7_digest_85 : decode cX7_digest 85 = .ok (.aload_n 0, 1) := by decide +kernel
theorem dX7_digest_86 : decode cX7_digest 86 = .ok (.iload_n 3, 1) := by decide +kernel
theorem dX7_digest_87 : decode cX7_digest 87 = .ok (.invokevirtual 69, 3) := by decide +kernel
theorem dX7_digest_90 : decode cX7_digest 90 = .ok (.i2l, 1) := by decide +kernel
theorem dX7_digest_91 : decode cX7_digest 91 = .ok (.ladd, 1) := by decide +kernel
theorem dX7_digest_92 : decode cX7_digest 92 = .ok (.lstore_n 1, 1) := by decide +kernel
theorem dX7_digest_93 : decode cX7_digest 93 = .ok (.ldc2_w 247, 3) := by decide +kernel
theorem dX7_digest_96 : decode cX7_digest 96 = .ok (.ldc2_w 247, 3) := by decide +kernel
theorem dX7_digest_99 : decode cX7_digest 99 = .ok (.lload_n 1, 1) := by decide +kernel
theorem dX7_digest_100 : decode cX7_digest 100 = .ok (.lmul, 1) := by decide +kernel
theorem dX7_digest_101 : decode cX7_digest 101 = .ok (.aload_n 0, 1) := by decide +kernel
theorem dX7_digest_102 : decode cX7_digest 102 = .ok (.iload_n 3, 1) := by decide +kernel
theorem dX7_digest_103 : decode cX7_digest 103 = .ok (.invokevirtual 197, 3) := by decide +kernel
theorem dX7_digest_106 : decode cX7_digest 106 = .ok (.i2l, 1) := by decide +kernel
theorem dX7_digest_107 : decode cX7_digest 107 = .ok (.ladd, 1) := by decide +kernel
theorem dX7_digest_108 : decode cX7_digest 108 = .ok (.lmul, 1) := by decide +kernel
theorem dX7_digest_109 : decode cX7_digest 109 = .ok (.aload_n 0, 1) := by decide +kernel
theorem dX7_digest_110 : decode cX7_digest 110 = .ok (.iload_n 3, 1) := by decide +kernel
theorem dX7_digest_111 : decode cX7_digest 111 = .ok (.invokevirtual 200, 3) := by decide +kernel
theorem dX7_digest_114 : decode cX7_digest 114 = .ok (.i2l, 1) := by decide +kernel
theorem dX7_digest_115 : decode cX7_digest 115 = .ok (.ladd, 1) := by decide +kernel
theorem dX7_digest_116 : decode cX7_digest 116 = .ok (.lstore_n 1, 1) := by decide +kernel
theorem dX7_digest_117 : decode cX7_digest 117 = .ok (.iinc 3 1, 3) := by decide +kernel
theorem dX7_digest_120 : decode cX7_digest 120 = .ok (.goto (-70), 3) := by decide +kernel
theorem dX7_digest_123 : decode cX7_digest 123 = .ok (.iconst 0, 1) := by decide +kernel
theorem dX7_digest_124 : decode cX7_digest 124 = .ok (.istore_n 3, 1) := by decide +kernel
theorem dX7_digest_125 : decode cX7_digest 125 = .ok (.iload_n 3, 1) := by decide +kernel
theorem dX7_digest_126 : decode cX7_digest 126 = .ok (.iconst 4, 1) := by decide +kernel
theorem dX7_digest_127 : decode cX7_digest 127 = .ok (.if_icmp .ge 91, 3) := by decide +kernel
theorem dX7_digest_130 : decode cX7_digest 130 = .ok (.ldc2_w 247, 3) := by decide +kernel
theorem dX7_digest_133 : decode cX7_digest 133 = .ok (.ldc2_w 247, 3) := by decide +kernel
theorem dX7_digest_136 : decode cX7_digest 136 = .ok (.ldc2_w 247, 3) := by decide +kernel
theorem dX7_digest_139 : decode cX7_digest 139 = .ok (.lload_n 1, 1) := by decide +kernel
theorem dX7_digest_140 : decode cX7_digest 140 = .ok (.lmul, 1) := by decide +kernel
theorem dX7_digest_141 : decode cX7_digest 141 = .ok (.aload_n 0, 1) := by decide +kernel
theorem dX7_digest_142 : decode cX7_digest 142 = .ok (.getfield 7, 3) := by decide +kernel
theorem dX7_digest_145 : decode cX7_digest 145 = .ok (.bipush 9, 2) := by decide +kernel
theorem dX7_digest_147 : decode cX7_digest 147 = .ok (.iload_n 3, 1) := by decide +kernel
theorem dX7_digest_148 : decode cX7_digest 148 = .ok (.iadd, 1) := by decide +kernel
theorem dX7_digest_149 : decode cX7_digest 149 = .ok (.iaload, 1) := by decide +kernel
theorem dX7_digest_150 : decode cX7_digest 150 = .ok (.i2l, 1) := by decide +kernel
theorem dX7_digest_151 : decode cX7_digest 151 = .ok (.ladd, 1) := by decide +kernel
theorem dX7_digest_152 : decode cX7_digest 152 = .ok (.lmul, 1) := by decide +kernel
theorem dX7_digest_153 : decode cX7_digest 153 = .ok (.aload_n 0, 1) := by decide +kernel
theorem dX7_digest_154 : decode cX7_digest 154 = .ok (.iload_n 3, 1) := by decide +kernel
theorem dX7_digest_155 : decode cX7_digest 155 = .ok (.invokevirtual 119, 3) := by decide +kernel
theorem dX7_digest_158 : decode cX7_digest 158 = .ok (.i2l, 1) := by decide +kernel
theorem dX7_digest_159 : decode cX7_digest 159 = .ok (.ladd, 1) := by decide +kernel
theorem dX7_digest_160 : decode cX7_digest 160 = .ok (.lmul, 1) := by decide +kernel
theorem dX7_digest_161 : decode cX7_digest 161 = .ok (.aload_n 0, 1) := by decide +kernel
theorem dX7_digest_162 : decode cX7_digest 162 = .ok (.iload_n 3, 1) := by decide +kernel
theorem dX7_digest_163 : decode cX7_digest 163 = .ok (.invokevirtual 206, 3) := by decide +kernel
theorem dX7_digest_166 : decode cX7_digest 166 = .ok (.i2l, 1) := by decide +kernel
theorem dX7_digest_167 : decode cX7_digest 167 = .ok (.ladd, 1) := by decide +kernel
theorem dX7_digest_168 : decode cX7_digest 168 = .ok (.lstore_n 1, 1) := by decide +kernel
theorem dX7_digest_169 : decode cX7_digest 169 = .ok (.ldc2_w 247, 3) := by decide +kernel
theorem dX7_digest_172 : decode cX7_digest 172 = .ok (.ldc2_w 247, 3) := by decide +kernel
theorem dX7_digest_175 : decode cX7_digest 175 = .ok (.ldc2_w 247, 3) := by decide +kernel
theorem dX7_digest_178 : decode cX7_digest 178 = .ok (.lload_n 1, 1) := by decide +kernel
theorem dX7_digest_179 : decode cX7_digest 179 = .ok (.lmul, 1) := by decide +kernel
theorem dX7_digest_180 : decode cX7_digest 180 = .ok (.aload_n 0, 1) := by decide +kernel
theorem dX7_digest_181 : decode cX7_digest 181 = .ok (.iload_n 3, 1) := by decide +kernel
theorem dX7_digest_182 : decode cX7_digest 182 = .ok (.invokevirtual 209, 3) := by decide +kernel
theorem dX7_digest_185 : decode cX7_digest 185 = .ok (.i2l, 1) := by decide +kernel
theorem dX7_digest_186 : decode cX7_digest 186 = .ok (.ladd, 1) := by decide +kernel
theorem dX7_digest_187 : decode cX7_digest 187 = .ok (.lmul, 1) := by decide +kernel
theorem dX7_digest_188 : decode cX7_digest 188 = .ok (.aload_n 0, 1) := by decide +kernel
theorem dX7_digest_189 : decode cX7_digest 189 = .ok (.iload_n 3, 1) := by decide +kernel
theorem dX7_digest_190 : decode cX7_digest 190 = .ok (.invokevirtual 212, 3) := by decide +kernel
theorem dX7_digest_193 : decode cX7_digest 193 = .ok (.ifCond .eq 7, 3) := by decide +kernel
theorem dX7_digest_196 : decode cX7_digest 196 = .ok (.iconst 1, 1) := by decide +kernel
theorem dX7_digest_197 : decode cX7_digest 197 = .ok (.goto 4, 3) := by decide +kernel
theorem dX7_digest_200 : decode cX7_digest 200 = .ok (.iconst 0, 1) := by decide +kernel
theorem dX7_digest_201 : decode cX7_digest 201 = .ok (.i2l, 1) := by decide +kernel
theorem dX7_digest_202 : decode cX7_digest 202 = .ok (.ladd, 1) := by decide +kernel
theorem dX7_digest_203 : decode cX7_digest 203 = .ok (.lmul, 1) := by decide +kernel
theorem dX7_digest_204 : decode cX7_digest 204 = .ok (.aload_n 0, 1) := by decide +kernel
theorem dX7_digest_205 : decode cX7_digest 205 = .ok (.iload_n 3, 1) := by decide +kernel
theorem dX7_digest_206 : decode cX7_digest 206 = .ok (.invokevirtual 218, 3) := by decide +kernel
theorem dX7_digest_209 : decode cX7_digest 209 = .ok (.i2l, 1) := by decide +kernel
theorem dX7_digest_210 : decode cX7_digest 210 = .ok (.ladd, 1) := by decide +kernel
theorem dX7_digest_211 : decode cX7_digest 211 = .ok (.lstore_n 1, 1) := by decide +kernel
theorem dX7_digest_212 : decode cX7_digest 212 = .ok (.iinc 3 1, 3) := by decide +kernel
theorem dX7_digest_215 : decode cX7_digest 215 = .ok (.goto (-90), 3) := by decide +kernel
theorem dX7_digest_218 : decode cX7_digest 218 = .ok (.ldc2_w 247, 3) := by decide +kernel
theorem dX7_digest_221 : decode cX7_digest 221 = .ok (.ldc2_w 247, 3) := by decide +kernel
theorem dX7_digest_224 : decode cX7_digest 224 = .ok (.ldc2_w 247, 3) := by decide +kernel
theorem dX7_digest_227 : decode cX7_digest 227 = .ok (.lload_n 1, 1) := by decide +kernel
theorem dX7_digest_228 : decode cX7_digest 228 = .ok (.lmul, 1) := by decide +kernel
theorem dX7_digest_229 : decode cX7_digest 229 = .ok (.aload_n 0, 1) := by decide +kernel
theorem dX7_digest_230 : decode cX7_digest 230 = .ok (.invokevirtual 203, 3) := by decide +kernel
theorem dX7_digest_233 : decode cX7_digest 233 = .ok (.i2l, 1) := by decide +kernel
theorem dX7_digest_234 : decode cX7_digest 234 = .ok (.ladd, 1) := by decide +kernel
theorem dX7_digest_235 : decode cX7_digest 235 = .ok (.lmul, 1) := by decide +kernel
theorem dX7_digest_236 : decode cX7_digest 236 = .ok (.aload_n 0, 1) := by decide +kernel
theorem dX7_digest_237 : decode cX7_digest 237 = .ok (.invokevirtual 194, 3) := by decide +kernel
theorem dX7_digest_240 : decode cX7_digest 240 = .ok (.i2l, 1) := by decide +kernel
theorem dX7_digest_241 : decode cX7_digest 241 = .ok (.ladd, 1) := by decide +kernel
theorem dX7_digest_242 : decode cX7_digest 242 = .ok (.lmul, 1) := by decide +kernel
theorem dX7_digest_243 : decode cX7_digest 243 = .ok (.aload_n 0, 1) := by decide +kernel
theorem dX7_digest_244 : decode cX7_digest 244 = .ok (.invokevirtual 194, 3) := by decide +kernel
theorem dX7_digest_247 : decode cX7_digest 247 = .ok (.i2l, 1) := by decide +kernel
theorem dX7_digest_248 : decode cX7_digest 248 = .ok (.ladd, 1) := by decide +kernel
theorem dX7_digest_249 : decode cX7_digest 249 = .ok (.lstore_n 1, 1) := by decide +kernel
theorem dX7_digest_250 : decode cX7_digest 250 = .ok (.ldc2_w 247, 3) := by decide +kernel
theorem dX7_digest_253 : decode cX7_digest 253 = .ok (.lload_n 1, 1) := by decide +kernel
theorem dX7_digest_254 : decode cX7_digest 254 = .ok (.lmul, 1) := by decide +kernel
theorem dX7_digest_255 : decode cX7_digest 255 = .ok (.aload_n 0, 1) := by decide +kernel
theorem dX7_digest_256 : decode cX7_digest 256 = .ok (.invokevirtual 227, 3) := by decide +kernel
theorem dX7_digest_259 : decode cX7_digest 259 = .ok (.i2l, 1) := by decide +kernel
theorem dX7_digest_260 : decode cX7_digest 260 = .ok (.ladd, 1) := by decide +kernel
theorem dX7_digest_261 : decode cX7_digest 261 = .ok (.lconst 1, 1) := by decide +kernel
theorem dX7_digest_262 : decode cX7_digest 262 = .ok (.ladd, 1) := by decide +kernel
theorem dX7_digest_263 : decode cX7_digest 263 = .ok (.lstore_n 1, 1) := by decide +kernel
theorem dX7_digest_264 : decode cX7_digest 264 = .ok (.aload_n 0, 1) := by decide +kernel
theorem dX7_digest_265 : decode cX7_digest 265 = .ok (.invokevirtual 230, 3) := by decide +kernel
theorem dX7_digest_268 : decode cX7_digest 268 = .ok (.istore_n 3, 1) := by decide +kernel
theorem dX7_digest_269 : decode cX7_digest 269 = .ok (.iconst 0, 1) := by decide +kernel
theorem dX7_digest_270 : decode cX7_digest 270 = .ok (.istore 4, 2) := by decide +kernel
theorem dX7_digest_272 : decode cX7_digest 272 = .ok (.iload 4, 2) := by decide +kernel
theorem dX7_digest_274 : decode cX7_digest 274 = .ok (.iload_n 3, 1) := by decide +kernel
theorem dX7_digest_275 : decode cX7_digest 275 = .ok (.if_icmp .ge 24, 3) := by decide +kernel
theorem dX7_digest_278 : decode cX7_digest 278 = .ok (.ldc2_w 247, 3) := by decide +kernel
theorem dX7_digest_281 : decode cX7_digest 281 = .ok (.lload_n 1, 1) := by decide +kernel
theorem dX7_digest_282 : decode cX7_digest 282 = .ok (.lmul, 1) := by decide +kernel
theorem dX7_digest_283 : decode cX7_digest 283 = .ok (.aload_n 0, 1) := by decide +kernel
theorem dX7_digest_284 : decode cX7_digest 284 = .ok (.getfield 32, 3) := by decide +kernel
theorem dX7_digest_287 : decode cX7_digest 287 = .ok (.iload 4, 2) := by decide +kernel
theorem dX7_digest_289 : decode cX7_digest 289 = .ok (.iaload, 1) := by decide +kernel
theorem dX7_digest_290 : decode cX7_digest 290 = .ok (.i2l, 1) := by decide +kernel
theorem dX7_digest_291 : decode cX7_digest 291 = .ok (.ladd, 1) := by decide +kernel
theorem dX7_digest_292 : decode cX7_digest 292 = .ok (.lstore_n 1, 1) := by decide +kernel
theorem dX7_digest_293 : decode cX7_digest 293 = .ok (.iinc 4 1, 3) := by decide +kernel
theorem dX7_digest_296 : decode cX7_digest 296 = .ok (.goto (-24), 3) := by decide +kernel
theorem dX7_digest_299 : decode cX7_digest 299 = .ok (.ldc2_w 247, 3) := by decide +kernel
theorem dX7_digest_302 : decode cX7_digest 302 = .ok (.ldc2_w 247, 3) := by decide +kernel
theorem dX7_digest_305 : decode cX7_digest 305 = .ok (.ldc2_w 247, 3) := by decide +kernel
theorem dX7_digest_308 : decode cX7_digest 308 = .ok (.lload_n 1, 1) := by decide +kernel
theorem dX7_digest_309 : decode cX7_digest 309 = .ok (.lmul, 1) := by decide +kernel
theorem dX7_digest_310 : decode cX7_digest 310 = .ok (.aload_n 0, 1) := by decide +kernel
theorem dX7_digest_311 : decode cX7_digest 311 = .ok (.getfield 7, 3) := by decide +kernel
theorem dX7_digest_314 : decode cX7_digest 314 = .ok (.iconst 1, 1) := by decide +kernel
theorem dX7_digest_315 : decode cX7_digest 315 = .ok (.iaload, 1) := by decide +kernel
theorem dX7_digest_316 : decode cX7_digest 316 = .ok (.i2l, 1) := by decide +kernel
theorem dX7_digest_317 : decode cX7_digest 317 = .ok (.ladd, 1) := by decide +kernel
theorem dX7_digest_318 : decode cX7_digest 318 = .ok (.lmul, 1) := by decide +kernel
theorem dX7_digest_319 : decode cX7_digest 319 = .ok (.aload_n 0, 1) := by decide +kernel
theorem dX7_digest_320 : decode cX7_digest 320 = .ok (.invokevirtual 237, 3) := by decide +kernel
theorem dX7_digest_323 : decode cX7_digest 323 = .ok (.i2l, 1) := by decide +kernel
theorem dX7_digest_324 : decode cX7_digest 324 = .ok (.ladd, 1) := by decide +kernel
theorem dX7_digest_325 : decode cX7_digest 325 = .ok (.lmul, 1) := by decide +kernel
theorem dX7_digest_326 : decode cX7_digest 326 = .ok (.aload_n 0, 1) := by decide +kernel
theorem dX7_digest_327 : decode cX7_digest 327 = .ok (.getfield 7, 3) := by decide +kernel
theorem dX7_digest_330 : decode cX7_digest 330 = .ok (.iconst 2, 1) := by decide +kernel
theorem dX7_digest_331 : decode cX7_digest 331 = .ok (.iaload, 1) := by decide +kernel
theorem dX7_digest_332 : decode cX7_digest 332 = .ok (.i2l, 1) := by decide +kernel
theorem dX7_digest_333 : decode cX7_digest 333 = .ok (.ladd, 1) := by decide +kernel
theorem dX7_digest_334 : decode cX7_digest 334 = .ok (.lstore_n 1, 1) := by decide +kernel
theorem dX7_digest_335 : decode cX7_digest 335 = .ok (.ldc2_w 247, 3) := by decide +kernel
theorem dX7_digest_338 : decode cX7_digest 338 = .ok (.ldc2_w 247, 3) := by decide +kernel
theorem dX7_digest_341 : decode cX7_digest 341 = .ok (.ldc2_w 247, 3) := by decide +kernel
theorem dX7_digest_344 : decode cX7_digest 344 = .ok (.lload_n 1, 1) := by decide +kernel
theorem dX7_digest_345 : decode cX7_digest 345 = .ok (.lmul, 1) := by decide +kernel
theorem dX7_digest_346 : decode cX7_digest 346 = .ok (.aload_n 0, 1) := by decide +kernel
theorem dX7_digest_347 : decode cX7_digest 347 = .ok (.getfield 7, 3) := by decide +kernel
theorem dX7_digest_350 : decode cX7_digest 350 = .ok (.iconst 3, 1) := by decide +kernel
theorem dX7_digest_351 : decode cX7_digest 351 = .ok (.iaload, 1) := by decide +kernel
theorem dX7_digest_352 : decode cX7_digest 352 = .ok (.i2l, 1) := by decide +kernel
theorem dX7_digest_353 : decode cX7_digest 353 = .ok (.ladd, 1) := by decide +kernel
theorem dX7_digest_354 : decode cX7_digest 354 = .ok (.lmul, 1) := by decide +kernel
theorem dX7_digest_355 : decode cX7_digest 355 = .ok (.aload_n 0, 1) := by decide +kernel
theorem dX7_digest_356 : decode cX7_digest 356 = .ok (.invokevirtual 240, 3) := by decide +kernel
theorem dX7_digest_359 : decode cX7_digest 359 = .ok (.i2l, 1) := by decide +kernel
theorem dX7_digest_360 : decode cX7_digest 360 = .ok (.ladd, 1) := by decide +kernel
theorem dX7_digest_361 : decode cX7_digest 361 = .ok (.lmul, 1) := by decide +kernel
theorem dX7_digest_362 : decode cX7_digest 362 = .ok (.aload_n 0, 1) := by decide +kernel
theorem dX7_digest_363 : decode cX7_digest 363 = .ok (.getfield 46, 3) := by decide +kernel
theorem dX7_digest_366 : decode cX7_digest 366 = .ok (.i2l, 1) := by decide +kernel
theorem dX7_digest_367 : decode cX7_digest 367 = .ok (.ladd, 1) := by decide +kernel
theorem dX7_digest_368 : decode cX7_digest 368 = .ok (.lstore_n 1, 1) := by decide +kernel
theorem dX7_digest_369 : decode cX7_digest 369 = .ok (.ldc2_w 247, 3) := by decide +kernel
theorem dX7_digest_372 : decode cX7_digest 372 = .ok (.lload_n 1, 1) := by decide +kernel
theorem dX7_digest_373 : decode cX7_digest 373 = .ok (.lmul, 1) := by decide +kernel
theorem dX7_digest_374 : decode cX7_digest 374 = .ok (.aload_n 0, 1) := by decide +kernel
theorem dX7_digest_375 : decode cX7_digest 375 = .ok (.invokevirtual 243, 3) := by decide +kernel
theorem dX7_digest_378 : decode cX7_digest 378 = .ok (.invokestatic 255, 3) := by decide +kernel
theorem dX7_digest_381 : decode cX7_digest 381 = .ok (.ladd, 1) := by decide +kernel
theorem dX7_digest_382 : decode cX7_digest 382 = .ok (.lstore_n 1, 1) := by decide +kernel
theorem dX7_digest_383 : decode cX7_digest 383 = .ok (.ldc2_w 247, 3) := by decide +kernel
theorem dX7_digest_386 : decode cX7_digest 386 = .ok (.ldc2_w 247, 3) := by decide +kernel
theorem dX7_digest_389 : decode cX7_digest 389 = .ok (.lload_n 1, 1) := by decide +kernel
theorem dX7_digest_390 : decode cX7_digest 390 = .ok (.lmul, 1) := by decide +kernel
theorem dX7_digest_391 : decode cX7_digest 391 = .ok (.aload_n 0, 1) := by decide +kernel
theorem dX7_digest_392 : decode cX7_digest 392 = .ok (.getfield 22, 3) := by decide +kernel
theorem dX7_digest_395 : decode cX7_digest 395 = .ok (.iconst 0, 1) := by decide +kernel
theorem dX7_digest_396 : decode cX7_digest 396 = .ok (.baload, 1) := by decide +kernel
theorem dX7_digest_397 : decode cX7_digest 397 = .ok (.ifCond .eq 7, 3) := by decide +kernel
theorem dX7_digest_400 : decode cX7_digest 400 = .ok (.iconst 1, 1) := by decide +kernel
theorem dX7_digest_401 : decode cX7_digest 401 = .ok (.goto 4, 3) := by decide +kernel
theorem dX7_digest_404 : decode cX7_digest 404 = .ok (.iconst 0, 1) := by decide +kernel
theorem dX7_digest_405 : decode cX7_digest 405 = .ok (.i2l, 1) := by decide +kernel
theorem dX7_digest_406 : decode cX7_digest 406 = .ok (.ladd, 1) := by decide +kernel
theorem dX7_digest_407 : decode cX7_digest 407 = .ok (.lmul, 1) := by decide +kernel
theorem dX7_digest_408 : decode cX7_digest 408 = .ok (.aload_n 0, 1) := by decide +kernel
theorem dX7_digest_409 : decode cX7_digest 409 = .ok (.getfield 22, 3) := by decide +kernel
theorem dX7_digest_412 : decode cX7_digest 412 = .ok (.iconst 1, 1) := by decide +kernel
theorem dX7_digest_413 : decode cX7_digest 413 = .ok (.baload, 1) := by decide +kernel
theorem dX7_digest_414 : decode cX7_digest 414 = .ok (.ifCond .eq 7, 3) := by decide +kernel
theorem dX7_digest_417 : decode cX7_digest 417 = .ok (.iconst 1, 1) := by decide +kernel
theorem dX7_digest_418 : decode cX7_digest 418 = .ok (.goto 4, 3) := by decide +kernel
theorem dX7_digest_421 : decode cX7_digest 421 = .ok (.iconst 0, 1) := by decide +kernel
theorem dX7_digest_422 : decode cX7_digest 422 = .ok (.i2l, 1) := by decide +kernel
theorem dX7_digest_423 : decode cX7_digest 423 = .ok (.ladd, 1) := by decide +kernel
theorem dX7_digest_424 : decode cX7_digest 424 = .ok (.lstore_n 1, 1) := by decide +kernel
theorem dX7_digest_425 : decode cX7_digest 425 = .ok (.ldc2_w 247, 3) := by decide +kernel
theorem dX7_digest_428 : decode cX7_digest 428 = .ok (.lload_n 1, 1) := by decide +kernel
theorem dX7_digest_429 : decode cX7_digest 429 = .ok (.lmul, 1) := by decide +kernel
theorem dX7_digest_430 : decode cX7_digest 430 = .ok (.aload_n 0, 1) := by decide +kernel
theorem dX7_digest_431 : decode cX7_digest 431 = .ok (.getfield 140, 3) := by decide +kernel
theorem dX7_digest_434 : decode cX7_digest 434 = .ok (.i2l, 1) := by decide +kernel
theorem dX7_digest_435 : decode cX7_digest 435 = .ok (.ladd, 1) := by decide +kernel
theorem dX7_digest_436 : decode cX7_digest 436 = .ok (.lstore_n 1, 1) := by decide +kernel
theorem dX7_digest_437 : decode cX7_digest 437 = .ok (.iconst 0, 1) := by decide +kernel
theorem dX7_digest_438 : decode cX7_digest 438 = .ok (.istore 4, 2) := by decide +kernel
theorem dX7_digest_440 : decode cX7_digest 440 = .ok (.iload 4, 2) := by decide +kernel
theorem dX7_digest_442 : decode cX7_digest 442 = .ok (.aload_n 0, 1) := by decide +kernel
theorem dX7_digest_443 : decode cX7_digest 443 = .ok (.getfield 140, 3) := by decide +kernel
theorem dX7_digest_446 : decode cX7_digest 446 = .ok (.if_icmp .ge 24, 3) := by decide +kernel
theorem dX7_digest_449 : decode cX7_digest 449 = .ok (.ldc2_w 247, 3) := by decide +kernel
theorem dX7_digest_452 : decode cX7_digest 452 = .ok (.lload_n 1, 1) := by decide +kernel
theorem dX7_digest_453 : decode cX7_digest 453 = .ok (.lmul, 1) := by decide +kernel
theorem dX7_digest_454 : decode cX7_digest 454 = .ok (.aload_n 0, 1) := by decide +kernel
theorem dX7_digest_455 : decode cX7_digest 455 = .ok (.getfield 26, 3) := by decide +kernel
theorem dX7_digest_458 : decode cX7_digest 458 = .ok (.iload 4, 2) := by decide +kernel
theorem dX7_digest_460 : decode cX7_digest 460 = .ok (.iaload, 1) := by decide +kernel
theorem dX7_digest_461 : decode cX7_digest 461 = .ok (.i2l, 1) := by decide +kernel
theorem dX7_digest_462 : decode cX7_digest 462 = .ok (.ladd, 1) := by decide +kernel
theorem dX7_digest_463 : decode cX7_digest 463 = .ok (.lstore_n 1, 1) := by decide +kernel
theorem dX7_digest_464 : decode cX7_digest 464 = .ok (.iinc 4 1, 3) := by decide +kernel
theorem dX7_digest_467 : decode cX7_digest 467 = .ok (.goto (-27), 3) := by decide +kernel
theorem dX7_digest_470 : decode cX7_digest 470 = .ok (.lload_n 1, 1) := by decide +kernel
theorem dX7_digest_471 : decode cX7_digest 471 = .ok (.lreturn, 1) := by decide +kernel
