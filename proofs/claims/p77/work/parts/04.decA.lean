theorem dX0_init_0 : decode cX0_init 0 = .ok (.aload_n 0, 1) := by decide +kernel
theorem dX0_init_1 : decode cX0_init 1 = .ok (.invokespecial 3, 3) := by decide +kernel
theorem dX0_init_4 : decode cX0_init 4 = .ok (.aload_n 0, 1) := by decide +kernel
theorem dX0_init_5 : decode cX0_init 5 = .ok (.bipush 20, 2) := by decide +kernel
theorem dX0_init_7 : decode cX0_init 7 = .ok (.newarray .int, 2) := by decide +kernel
theorem dX0_init_9 : decode cX0_init 9 = .ok (.putfield 9, 3) := by decide +kernel
theorem dX0_init_12 : decode cX0_init 12 = .ok (.aload_n 0, 1) := by decide +kernel
theorem dX0_init_13 : decode cX0_init 13 = .ok (.bipush 20, 2) := by decide +kernel
theorem dX0_init_15 : decode cX0_init 15 = .ok (.newarray .int, 2) := by decide +kernel
theorem dX0_init_17 : decode cX0_init 17 = .ok (.putfield 15, 3) := by decide +kernel
theorem dX0_init_20 : decode cX0_init 20 = .ok (.aload_n 0, 1) := by decide +kernel
theorem dX0_init_21 : decode cX0_init 21 = .ok (.bipush 20, 2) := by decide +kernel
theorem dX0_init_23 : decode cX0_init 23 = .ok (.newarray .int, 2) := by decide +kernel
theorem dX0_init_25 : decode cX0_init 25 = .ok (.putfield 18, 3) := by decide +kernel
theorem dX0_init_28 : decode cX0_init 28 = .ok (.aload_n 0, 1) := by decide +kernel
theorem dX0_init_29 : decode cX0_init 29 = .ok (.bipush 20, 2) := by decide +kernel
theorem dX0_init_31 : decode cX0_init 31 = .ok (.newarray .int, 2) := by decide +kernel
theorem dX0_init_33 : decode cX0_init 33 = .ok (.putfield 21, 3) := by decide +kernel
theorem dX0_init_36 : decode cX0_init 36 = .ok (.aload_n 0, 1) := by decide +kernel
theorem dX0_init_37 : decode cX0_init 37 = .ok (.bipush 20, 2) := by decide +kernel
theorem dX0_init_39 : decode cX0_init 39 = .ok (.newarray .int, 2) := by decide +kernel
theorem dX0_init_41 : decode cX0_init 41 = .ok (.putfield 24, 3) := by decide +kernel
theorem dX0_init_44 : decode cX0_init 44 = .ok (.aload_n 0, 1) := by decide +kernel
theorem dX0_init_45 : decode cX0_init 45 = .ok (.bipush 20, 2) := by decide +kernel
theorem dX0_init_47 : decode cX0_init 47 = .ok (.newarray .int, 2) := by decide +kernel
theorem dX0_init_49 : decode cX0_init 49 = .ok (.putfield 27, 3) := by decide +kernel
theorem dX0_init_52 : decode cX0_init 52 = .ok (.aload_n 0, 1) := by decide +kernel
theorem dX0_init_53 : decode cX0_init 53 = .ok (.bipush 20, 2) := by decide +kernel
theorem dX0_init_55 : decode cX0_init 55 = .ok (.newarray .int, 2) := by decide +kernel
theorem dX0_init_57 : decode cX0_init 57 = .ok (.putfield 30, 3) := by decide +kernel
theorem dX0_init_60 : decode cX0_init 60 = .ok (.aload_n 0, 1) := by decide +kernel
theorem dX0_init_61 : decode cX0_init 61 = .ok (.bipush 20, 2) := by decide +kernel
theorem dX0_init_63 : decode cX0_init 63 = .ok (.newarray .int, 2) := by decide +kernel
theorem dX0_init_65 : decode cX0_init 65 = .ok (.putfield 33, 3) := by decide +kernel
theorem dX0_init_68 : decode cX0_init 68 = .ok (.aload_n 0, 1) := by decide +kernel
theorem dX0_init_69 : decode cX0_init 69 = .ok (.bipush 20, 2) := by decide +kernel
theorem dX0_init_71 : decode cX0_init 71 = .ok (.newarray .int, 2) := by decide +kernel
theorem dX0_init_73 : decode cX0_init 73 = .ok (.putfield 36, 3) := by decide +kernel
theorem dX0_init_76 : decode cX0_init 76 = .ok (.aload_n 0, 1) := by decide +kernel
theorem dX0_init_77 : decode cX0_init 77 = .ok (.bipush 20, 2) := by decide +kernel
theorem dX0_init_79 : decode cX0_init 79 = .ok (.newarray .int, 2) := by decide +kernel
theorem dX0_init_81 : decode cX0_init 81 = .ok (.putfield 39, 3) := by decide +kernel
theorem dX0_init_84 : decode cX0_init 84 = .ok (.aload_n 0, 1) := by decide +kernel
theorem dX0_init_85 : decode cX0_init 85 = .ok (.iconst 5, 1) := by decide +kernel
theorem dX0_init_86 : decode cX0_init 86 = .ok (.newarray .int, 2) := by decide +kernel
theorem dX0_init_88 : decode cX0_init 88 = .ok (.putfield 42, 3) := by decide +kernel
theorem dX0_init_91 : decode cX0_init 91 = .ok (.aload_n 0, 1) := by decide +kernel
theorem dX0_init_92 : decode cX0_init 92 = .ok (.iconst 5, 1) := by decide +kernel
theorem dX0_init_93 : decode cX0_init 93 = .ok (.newarray .int, 2) := by decide +kernel
theorem dX0_init_95 : decode cX0_init 95 = .ok (.putfield 45, 3) := by decide +kernel
theorem dX0_init_98 : decode cX0_init 98 = .ok (.aload_n 0, 1) := by decide +kernel
theorem dX0_init_99 : decode cX0_init 99 = .ok (.iconst 4, 1) := by decide +kernel
theorem dX0_init_100 : decode cX0_init 100 = .ok (.newarray .int, 2) := by decide +kernel
theorem dX0_init_102 : decode cX0_init 102 = .ok (.putfield 48, 3) := by decide +kernel
theorem dX0_init_105 : decode cX0_init 105 = .ok (.iconst 0, 1) := by decide +kernel
theorem dX0_init_106 : decode cX0_init 106 = .ok (.istore_n 1, 1) := by decide +kernel
theorem dX0_init_107 : decode cX0_init 107 = .ok (.iload_n 1, 1) := by decide +kernel
theorem dX0_init_108 : decode cX0_init 108 = .ok (.iconst 5, 1) := by decide +kernel
theorem dX0_init_109 : decode cX0_init 109 = .ok (.if_icmp .ge 17, 3) := by decide +kernel
theorem dX0_init_112 : decode cX0_init 112 = .ok (.aload_n 0, 1) := by decide +kernel
theorem dX0_init_113 : decode cX0_init 113 = .ok (.getfield 42, 3) := by decide +kernel
theorem dX0_init_116 : decode cX0_init 116 = .ok (.iload_n 1, 1) := by decide +kernel
theorem dX0_init_117 : decode cX0_init 117 = .ok (.bipush 20, 2) := by decide +kernel
theorem dX0_init_119 : decode cX0_init 119 = .ok (.iastore, 1) := by decide +kernel
theorem dX0_init_120 : decode cX0_init 120 = .ok (.iinc 1 1, 3) := by decide +kernel
theorem dX0_init_123 : decode cX0_init 123 = .ok (.goto (-16), 3) := by decide +kernel
theorem dX0_init_126 : decode cX0_init 126 = .ok (.iconst 0, 1) := by decide +kernel
theorem dX0_init_127 : decode cX0_init 127 = .ok (.istore_n 1, 1) := by decide +kernel
theorem dX0_init_128 : decode cX0_init 128 = .ok (.iload_n 1, 1) := by decide +kernel
theorem dX0_init_129 : decode cX0_init 129 = .ok (.iconst 4, 1) := by decide +kernel
theorem dX0_init_130 : decode cX0_init 130 = .ok (.if_icmp .ge 21, 3) := by decide +kernel
theorem dX0_init_133 : decode cX0_init 133 = .ok (.aload_n 0, 1) := by decide +kernel
theorem dX0_init_134 : decode cX0_init 134 = .ok (.getfield 48, 3) := by decide +kernel
theorem dX0_init_137 : decode cX0_init 137 = .ok (.iload_n 1, 1) := by decide +kernel
theorem dX0_init_138 : decode cX0_init 138 = .ok (.bipush 10, 2) := by decide +kernel
theorem dX0_init_140 : decode cX0_init 140 = .ok (.iload_n 1, 1) := by decide +kernel
theorem dX0_init_141 : decode cX0_init 141 = .ok (.iconst 1, 1) := by decide +kernel
theorem dX0_init_142 : decode cX0_init 142 = .ok (.iadd, 1) := by decide +kernel
theorem dX0_init_143 : decode cX0_init 143 = .ok (.imul, 1) := by decide +kernel
theorem dX0_init_144 : decode cX0_init 144 = .ok (.iastore, 1) := by decide +kernel
theorem dX0_init_145 : decode cX0_init 145 = .ok (.iinc 1 1, 3) := by decide +kernel
theorem dX0_init_148 : decode cX0_init 148 = .ok (.goto (-20), 3) := by decide +kernel
theorem dX0_init_151 : decode cX0_init 151 = .ok (.return_, 1) := by decide +kernel
theorem dX0_copyFrom_0 : decode cX0_copyFrom 0 = .ok (.aload_n 0, 1) := by decide +kernel
theorem dX0_copyFrom_1 : decode cX0_copyFrom 1 = .ok (.aload_n 1, 1) := by decide +kernel
theorem dX0_copyFrom_2 : decode cX0_copyFrom 2 = .ok (.getfield 51, 3) := by decide +kernel
theorem dX0_copyFrom_5 : decode cX0_copyFrom 5 = .ok (.putfield 51, 3) := by decide +kernel
theorem dX0_copyFrom_8 : decode cX0_copyFrom 8 = .ok (.aload_n 0, 1) := by decide +kernel
theorem dX0_copyFrom_9 : decode cX0_copyFrom 9 = .ok (.aload_n 1, 1) := by decide +kernel
theorem dX0_copyFrom_10 : decode cX0_copyFrom 10 = .ok (.getfield 55, 3) := by decide +kernel
theorem dX0_copyFrom_13 : decode cX0_copyFrom 13 = .ok (.putfield 55, 3) := by decide +kernel
theorem dX0_copyFrom_16 : decode cX0_copyFrom 16 = .ok (.aload_n 0, 1) := by decide +kernel
theorem dX0_copyFrom_17 : decode cX0_copyFrom 17 = .ok (.aload_n 1, 1) := by decide +kernel
theorem dX0_copyFrom_18 : decode cX0_copyFrom 18 = .ok (.getfield 58, 3) := by decide +kernel
theorem dX0_copyFrom_21 : decode cX0_copyFrom 21 = .ok (.putfield 58, 3) := by decide +kernel
theorem dX0_copyFrom_24 : decode cX0_copyFrom 24 = .ok (.aload_n 0, 1) := by decide +kernel
theorem dX0_copyFrom_25 : decode cX0_copyFrom 25 = .ok (.aload_n 1, 1) := by decide +kernel
theorem dX0_copyFrom_26 : decode cX0_copyFrom 26 = .ok (.getfield 61, 3) := by decide +kernel
theorem dX0_copyFrom_29 : decode cX0_copyFrom 29 = .ok (.putfield 61, 3) := by decide +kernel
theorem dX0_copyFrom_32 : decode cX0_copyFrom 32 = .ok (.aload_n 1, 1) := by decide +kernel
theorem dX0_copyFrom_33 : decode cX0_copyFrom 33 = .ok (.getfield 9, 3) := by decide +kernel
theorem dX0_copyFrom_36 : decode cX0_copyFrom 36 = .ok (.aload_n 0, 1) := by decide +kernel
theorem dX0_copyFrom_37 : decode cX0_copyFrom 37 = .ok (.getfield 9, 3) := by decide +kernel
theorem dX0_copyFrom_40 : decode cX0_copyFrom 40 = .ok (.invokestatic 64, 3) := by decide +kernel
theorem dX0_copyFrom_43 : decode cX0_copyFrom 43 = .ok (.aload_n 1, 1) := by decide +kernel
theorem dX0_copyFrom_44 : decode cX0_copyFrom 44 = .ok (.getfield 15, 3) := by decide +kernel
theorem dX0_copyFrom_47 : decode cX0_copyFrom 47 = .ok (.aload_n 0, 1) := by decide +kernel
theorem dX0_copyFrom_48 : decode cX0_copyFrom 48 = .ok (.getfield 15, 3) := by decide +kernel
theorem dX0_copyFrom_51 : decode cX0_copyFrom 51 = .ok (.invokestatic 64, 3) := by decide +kernel
theorem dX0_copyFrom_54 : decode cX0_copyFrom 54 = .ok (.aload_n 1, 1) := by decide +kernel
theorem dX0_copyFrom_55 : decode cX0_copyFrom 55 = .ok (.getfield 18, 3) := by decide +kernel
theorem dX0_copyFrom_58 : decode cX0_copyFrom 58 = .ok (.aload_n 0, 1) := by decide +kernel
theorem dX0_copyFrom_59 : decode cX0_copyFrom 59 = .ok (.getfield 18, 3) := by decide +kernel
theorem dX0_copyFrom_62 : decode cX0_copyFrom 62 = .ok (.invokestatic 64, 3) := by decide +kernel
theorem dX0_copyFrom_65 : decode cX0_copyFrom 65 = .ok (.aload_n 1, 1) := by decide +kernel
theorem dX0_copyFrom_66 : decode cX0_copyFrom 66 = .ok (.getfield 21, 3) := by decide +kernel
theorem dX0_copyFrom_69 : decode cX0_copyFrom 69 = .ok (.aload_n 0, 1) := by decide +kernel
theorem dX0_copyFrom_70 : decode cX0_copyFrom 70 = .ok (.getfield 21, 3) := by decide +kernel
theorem dX0_copyFrom_73 : decode cX0_copyFrom 73 = .ok (.invokestatic 64, 3) := by decide +kernel
theorem dX0_copyFrom_76 : decode cX0_copyFrom 76 = .ok (.aload_n 1, 1) := by decide +kernel
theorem dX0_copyFrom_77 : decode cX0_copyFrom 77 = .ok (.getfield 24, 3) := by decide +kernel
theorem dX0_copyFrom_80 : decode cX0_copyFrom 80 = .ok (.aload_n 0, 1) := by decide +kernel
theorem dX0_copyFrom_81 : decode cX0_copyFrom 81 = .ok (.getfield 24, 3) := by decide +kernel
theorem dX0_copyFrom_84 : decode cX0_copyFrom 84 = .ok (.invokestatic 64, 3) := by decide +kernel
theorem dX0_copyFrom_87 : decode cX0_copyFrom 87 = .ok (.aload_n 1, 1) := by decide +kernel
theorem dX0_copyFrom_88 : decode cX0_copyFrom 88 = .ok (.getfield 27, 3) := by decide +kernel
theorem dX0_copyFrom_91 : decode cX0_copyFrom 91 = .ok (.aload_n 0, 1) := by decide +kernel
theorem dX0_copyFrom_92 : decode cX0_copyFrom 92 = .ok (.getfield 27, 3) := by decide +kernel
theorem dX0_copyFrom_95 : decode cX0_copyFrom 95 = .ok (.invokestatic 64, 3) := by decide +kernel
theorem dX0_copyFrom_98 : decode cX0_copyFrom 98 = .ok (.aload_n 1, 1) := by decide +kernel
theorem dX0_copyFrom_99 : decode cX0_copyFrom 99 = .ok (.getfield 30, 3) := by decide +kernel
theorem dX0_copyFrom_102 : decode cX0_copyFrom 102 = .ok (.aload_n 0, 1) := by decide +kernel
theorem dX0_copyFrom_103 : decode cX0_copyFrom 103 = .ok (.getfield 30, 3) := by decide +kernel
theorem dX0_copyFrom_106 : decode cX0_copyFrom 106 = .ok (.invokestatic 64, 3) := by decide +kernel
theorem dX0_copyFrom_109 : decode cX0_copyFrom 109 = .ok (.aload_n 1, 1) := by decide +kernel
theorem dX0_copyFrom_110 : decode cX0_copyFrom 110 = .ok (.getfield 33, 3) := by decide +kernel
theorem dX0_copyFrom_113 : decode cX0_copyFrom 113 = .ok (.aload_n 0, 1) := by decide +kernel
theorem dX0_copyFrom_114 : decode cX0_copyFrom 114 = .ok (.getfield 33, 3) := by decide +kernel
theorem dX0_copyFrom_117 : decode cX0_copyFrom 117 = .ok (.invokestatic 64, 3) := by decide +kernel
theorem dX0_copyFrom_120 : decode cX0_copyFrom 120 = .ok (.aload_n 1, 1) := by decide +kernel
theorem dX0_copyFrom_121 : decode cX0_copyFrom 121 = .ok (.getfield 36, 3) := by decide +kernel
theorem dX0_copyFrom_124 : decode cX0_copyFrom 124 = .ok (.aload_n 0, 1) := by decide +kernel
theorem dX0_copyFrom_125 : decode cX0_copyFrom 125 = .ok (.getfield 36, 3) := by decide +kernel
theorem dX0_copyFrom_128 : decode cX0_copyFrom 128 = .ok (.invokestatic 64, 3) := by decide +kernel
theorem dX0_copyFrom_131 : decode cX0_copyFrom 131 = .ok (.aload_n 1, 1) := by decide +kernel
theorem dX0_copyFrom_132 : decode cX0_copyFrom 132 = .ok (.getfield 39, 3) := by decide +kernel
theorem dX0_copyFrom_135 : decode cX0_copyFrom 135 = .ok (.aload_n 0, 1) := by decide +kernel
theorem dX0_copyFrom_136 : decode cX0_copyFrom 136 = .ok (.getfield 39, 3) := by decide +kernel
theorem dX0_copyFrom_139 : decode cX0_copyFrom 139 = .ok (.invokestatic 64, 3) := by decide +kernel
theorem dX0_copyFrom_142 : decode cX0_copyFrom 142 = .ok (.aload_n 1, 1) := by decide +kernel
theorem dX0_copyFrom_143 : decode cX0_copyFrom 143 = .ok (.getfield 42, 3) := by decide +kernel
theorem dX0_copyFrom_146 : decode cX0_copyFrom 146 = .ok (.aload_n 0, 1) := by decide +kernel
theorem dX0_copyFrom_147 : decode cX0_copyFrom 147 = .ok (.getfield 42, 3) := by decide +kernel
theorem dX0_copyFrom_150 : decode cX0_copyFrom 150 = .ok (.invokestatic 64, 3) := by decide +kernel
theorem dX0_copyFrom_153 : decode cX0_copyFrom 153 = .ok (.aload_n 1, 1) := by decide +kernel
theorem dX0_copyFrom_154 : decode cX0_copyFrom 154 = .ok (.getfield 45, 3) := by decide +kernel
theorem dX0_copyFrom_157 : decode cX0_copyFrom 157 = .ok (.aload_n 0, 1) := by decide +kernel
theorem dX0_copyFrom_158 : decode cX0_copyFrom 158 = .ok (.getfield 45, 3) := by decide +kernel
theorem dX0_copyFrom_161 : decode cX0_copyFrom 161 = .ok (.invokestatic 64, 3) := by decide +kernel
theorem dX0_copyFrom_164 : decode cX0_copyFrom 164 = .ok (.aload_n 1, 1) := by decide +kernel
theorem dX0_copyFrom_165 : decode cX0_copyFrom 165 = .ok (.getfield 48, 3) := by decide +kernel
theorem dX0_copyFrom_168 : decode cX0_copyFrom 168 = .ok (.aload_n 0, 1) := by decide +kernel
theorem dX0_copyFrom_169 : decode cX0_copyFrom 169 = .ok (.getfield 48, 3) := by decide +kernel
theorem dX0_copyFrom_172 : decode cX0_copyFrom 172 = .ok (.invokestatic 64, 3) := by decide +kernel
theorem dX0_copyFrom_175 : decode cX0_copyFrom 175 = .ok (.return_, 1) := by decide +kernel
theorem dX0_copyRow_0 : decode cX0_copyRow 0 = .ok (.aload_n 0, 1) := by decide +kernel
theorem dX0_copyRow_1 : decode cX0_copyRow 1 = .ok (.iconst 0, 1) := by decide +kernel
theorem dX0_copyRow_2 : decode cX0_copyRow 2 = .ok (.aload_n 1, 1) := by decide +kernel
theorem dX0_copyRow_3 : decode cX0_copyRow 3 = .ok (.iconst 0, 1) := by decide +kernel
theorem dX0_copyRow_4 : decode cX0_copyRow 4 = .ok (.aload_n 0, 1) := by decide +kernel
theorem dX0_copyRow_5 : decode cX0_copyRow 5 = .ok (.arraylength, 1) := by decide +kernel
theorem dX0_copyRow_6 : decode cX0_copyRow 6 = .ok (.aload_n 1, 1) := by decide +kernel
theorem dX0_copyRow_7 : decode cX0_copyRow 7 = .ok (.arraylength, 1) := by decide +kernel
theorem dX0_copyRow_8 : decode cX0_copyRow 8 = .ok (.invokestatic 68, 3) := by decide +kernel
theorem dX0_copyRow_11 : decode cX0_copyRow 11 = .ok (.invokestatic 74, 3) := by decide +kernel
theorem dX0_copyRow_14 : decode cX0_copyRow 14 = .ok (.return_, 1) := by decide +kernel
theorem dX0_hasTicket_0 : decode cX0_hasTicket 0 = .ok (.iload_n 1, 1) := by decide +kernel
theorem dX0_hasTicket_1 : decode cX0_hasTicket 1 = .ok (.ifCond .lt 15, 3) := by decide +kernel
theorem dX0_hasTicket_4 : decode cX0_hasTicket 4 = .ok (.iload_n 1, 1) := by decide +kernel
theorem dX0_hasTicket_5 : decode cX0_hasTicket 5 = .ok (.aload_n 0, 1) := by decide +kernel
theorem dX0_hasTicket_6 : decode cX0_hasTicket 6 = .ok (.getfield 51, 3) := by decide +kernel
theorem dX0_hasTicket_9 : decode cX0_hasTicket 9 = .ok (.if_icmp .ge 7, 3) := by decide +kernel
theorem dX0_hasTicket_12 : decode cX0_hasTicket 12 = .ok (.iconst 1, 1) := by decide +kernel
theorem dX0_hasTicket_13 : decode cX0_hasTicket 13 = .ok (.goto 4, 3) := by decide +kernel
theorem dX0_hasTicket_16 : decode cX0_hasTicket 16 = .ok (.iconst 0, 1) := by decide +kernel
theorem dX0_hasTicket_17 : decode cX0_hasTicket 17 = .ok (.ireturn, 1) := by decide +kernel
theorem dX0_hasRoom_0 : decode cX0_hasRoom 0 = .ok (.aload_n 0, 1) := by decide +kernel
theorem dX0_hasRoom_1 : decode cX0_hasRoom 1 = .ok (.getfield 51, 3) := by decide +kernel
theorem dX0_hasRoom_4 : decode cX0_hasRoom 4 = .ok (.bipush 20, 2) := by decide +kernel
theorem dX0_hasRoom_6 : decode cX0_hasRoom 6 = .ok (.if_icmp .ge 7, 3) := by decide +kernel
theorem dX0_hasRoom_9 : decode cX0_hasRoom 9 = .ok (.iconst 1, 1) := by decide +kernel
theorem dX0_hasRoom_10 : decode cX0_hasRoom 10 = .ok (.goto 4, 3) := by decide +kernel
theorem dX0_hasRoom_13 : decode cX0_hasRoom 13 = .ok (.iconst 0, 1) := by decide +kernel
theorem dX0_hasRoom_14 : decode cX0_hasRoom 14 = .ok (.ireturn, 1) := by decide +kernel
theorem dX0_isUnfinished_0 : decode cX0_isUnfinished 0 = .ok (.aload_n 0, 1) := by decide +kernel
theorem dX0_isUnfinished_1 : decode cX0_isUnfinished 1 = .ok (.getfield 9, 3) := by decide +kernel
theorem dX0_isUnfinished_4 : decode cX0_isUnfinished 4 = .ok (.iload_n 1, 1) := by decide +kernel
theorem dX0_isUnfinished_5 : decode cX0_isUnfinished 5 = .ok (.iaload, 1) := by decide +kernel
theorem dX0_isUnfinished_6 : decode cX0_isUnfinished 6 = .ok (.iconst 3, 1) := by decide +kernel
theorem dX0_isUnfinished_7 : decode cX0_isUnfinished 7 = .ok (.if_icmp .eq 17, 3) := by decide +kernel
theorem dX0_isUnfinished_10 : decode cX0_isUnfinished 10 = .ok (.aload_n 0, 1) := by decide +kernel
theorem dX0_isUnfinished_11 : decode cX0_isUnfinished 11 = .ok (.getfield 9, 3) := by decide +kernel
theorem dX0_isUnfinished_14 : decode cX0_isUnfinished 14 = .ok (.iload_n 1, 1) := by decide +kernel
theorem dX0_isUnfinished_15 : decode cX0_isUnfinished 15 = .ok (.iaload, 1) := by decide +kernel
theorem dX0_isUnfinished_16 : decode cX0_isUnfinished 16 = .ok (.iconst 4, 1) := by decide +kernel
theorem dX0_isUnfinished_17 : decode cX0_isUnfinished 17 = .ok (.if_icmp .eq 7, 3) := by decide +kernel
theorem dX0_isUnfinished_20 : decode cX0_isUnfinished 20 = .ok (.iconst 1, 1) := by decide +kernel
theorem dX0_isUnfinished_21 : decode cX0_isUnfinished 21 = .ok (.goto 4, 3) := by decide +kernel
theorem dX0_isUnfinished_24 : decode cX0_isUnfinished 24 = .ok (.iconst 0, 1) := by decide +kernel
theorem dX0_isUnfinished_25 : decode cX0_isUnfinished 25 = .ok (.ireturn, 1) := by decide +kernel
theorem dX0_setWhere_0 : decode cX0_setWhere 0 = .ok (.iconst 0, 1) := by decide +kernel
theorem dX0_setWhere_1 : decode cX0_setWhere 1 = .ok (.istore_n 3, 1) := by decide +kernel
theorem dX0_setWhere_2 : decode cX0_setWhere 2 = .ok (.iconst 0, 1) := by decide +kernel
theorem dX0_setWhere_3 : decode cX0_setWhere 3 = .ok (.istore 4, 2) := by decide +kernel
theorem dX0_setWhere_5 : decode cX0_setWhere 5 = .ok (.iload 4, 2) := by decide +kernel
theorem dX0_setWhere_7 : decode cX0_setWhere 7 = .ok (.aload_n 0, 1) := by decide +kernel
theorem dX0_setWhere_8 : decode cX0_setWhere 8 = .ok (.getfield 51, 3) := by decide +kernel
theorem dX0_setWhere_11 : decode cX0_setWhere 11 = .ok (.if_icmp .ge 25, 3) := by decide +kernel
theorem dX0_setWhere_14 : decode cX0_setWhere 14 = .ok (.aload_n 1, 1) := by decide +kernel
theorem dX0_setWhere_15 : decode cX0_setWhere 15 = .ok (.iload 4, 2) := by decide +kernel
theorem dX0_setWhere_17 : decode cX0_setWhere 17 = .ok (.iaload, 1) := by decide +kernel
theorem dX0_setWhere_18 : decode cX0_setWhere 18 = .ok (.iload_n 2, 1) := by decide +kernel
theorem dX0_setWhere_19 : decode cX0_setWhere 19 = .ok (.if_icmp .ne 11, 3) := by decide +kernel
theorem dX0_setWhere_22 : decode cX0_setWhere 22 = .ok (.iload_n 3, 1) := by decide +kernel
theorem dX0_setWhere_23 : decode cX0_setWhere 23 = .ok (.iload 4, 2) := by decide +kernel
theorem dX0_setWhere_25 : decode cX0_setWhere 25 = .ok (.invokestatic 80, 3) := by decide +kernel
theorem dX0_setWhere_28 : decode cX0_setWhere 28 = .ok (.ior, 1) := by decide +kernel
theorem dX0_setWhere_29 : decode cX0_setWhere 29 = .ok (.istore_n 3, 1) := by decide +kernel
theorem dX0_setWhere_30 : decode cX0_setWhere 30 = .ok (.iinc 4 1, 3) := by decide +kernel
theorem dX0_setWhere_33 : decode cX0_setWhere 33 = .ok (.goto (-28), 3) := by decide +kernel
theorem dX0_setWhere_36 : decode cX0_setWhere 36 = .ok (.iload_n 3, 1) := by decide +kernel
theorem dX0_setWhere_37 : decode cX0_setWhere 37 = .ok (.ireturn, 1) := by decide +kernel
theorem dX0_inState_0 : decode cX0_inState 0 = .ok (.aload_n 0, 1) := by decide +kernel
theorem dX0_inState_1 : decode cX0_inState 1 = .ok (.aload_n 0, 1) := by decide +kernel
theorem dX0_inState_2 : decode cX0_inState 2 = .ok (.getfield 9, 3) := by decide +kernel
theorem dX0_inState_5 : decode cX0_inState 5 = .ok (.iload_n 1, 1) := by decide +kernel
theorem dX0_inState_6 : decode cX0_inState 6 = .ok (.invokevirtual 84, 3) := by decide +kernel
theorem dX0_inState_9 : decode cX0_inState 9 = .ok (.ireturn, 1) := by decide +kernel
theorem dX0_ownedBy_0 : decode cX0_ownedBy 0 = .ok (.aload_n 0, 1) := by decide +kernel
theorem dX0_ownedBy_1 : decode cX0_ownedBy 1 = .ok (.aload_n 0, 1) := by decide +kernel
theorem dX0_ownedBy_2 : decode cX0_ownedBy 2 = .ok (.getfield 21, 3) := by decide +kernel
theorem dX0_ownedBy_5 : decode cX0_ownedBy 5 = .ok (.iload_n 1, 1) := by decide +kernel
theorem dX0_ownedBy_6 : decode cX0_ownedBy 6 = .ok (.invokevirtual 84, 3) := by decide +kernel
theorem dX0_ownedBy_9 : decode cX0_ownedBy 9 = .ok (.ireturn, 1) := by decide +kernel
theorem dX0_plannedFor_0 : decode cX0_plannedFor 0 = .ok (.aload_n 0, 1) := by decide +kernel
theorem dX0_plannedFor_1 : decode cX0_plannedFor 1 = .ok (.aload_n 0, 1) := by decide +kernel
theorem dX0_plannedFor_2 : decode cX0_plannedFor 2 = .ok (.getfield 24, 3) := by decide +kernel
theorem dX0_plannedFor_5 : decode cX0_plannedFor 5 = .ok (.iload_n 1, 1) := by decide +kernel
theorem dX0_plannedFor_6 : decode cX0_plannedFor 6 = .ok (.invokevirtual 84, 3) := by decide +kernel
theorem dX0_plannedFor_9 : decode cX0_plannedFor 9 = .ok (.ireturn, 1) := by decide +kernel
theorem dX0_unfinishedSet_0 : decode cX0_unfinishedSet 0 = .ok (.iconst 0, 1) := by decide +kernel
theorem dX0_unfinishedSet_1 : decode cX0_unfinishedSet 1 = .ok (.istore_n 1, 1) := by decide +kernel
theorem dX0_unfinishedSet_2 : decode cX0_unfinishedSet 2 = .ok (.iconst 0, 1) := by decide +kernel
theorem dX0_unfinishedSet_3 : decode cX0_unfinishedSet 3 = .ok (.istore_n 2, 1) := by decide +kernel
theorem dX0_unfinishedSet_4 : decode cX0_unfinishedSet 4 = .ok (.iload_n 2, 1) := by decide +kernel
theorem dX0_unfinishedSet_5 : decode cX0_unfinishedSet 5 = .ok (.aload_n 0, 1) := by decide +kernel
theorem dX0_unfinishedSet_6 : decode cX0_unfinishedSet 6 = .ok (.getfield 51, 3) := by decide +kernel
theorem dX0_unfinishedSet_9 : decode cX0_unfinishedSet 9 = .ok (.if_icmp .ge 24, 3) := by decide +kernel
theorem dX0_unfinishedSet_12 : decode cX0_unfinishedSet 12 = .ok (.aload_n 0, 1) := by decide +kernel
theorem dX0_unfinishedSet_13 : decode cX0_unfinishedSet 13 = .ok (.iload_n 2, 1) := by decide +kernel
theorem dX0_unfinishedSet_14 : decode cX0_unfinishedSet 14 = .ok (.invokevirtual 88, 3) := by decide +kernel
theorem dX0_unfinishedSet_17 : decode cX0_unfinishedSet 17 = .ok (.ifCond .eq 10, 3) := by decide +kernel
theorem dX0_unfinishedSet_20 : decode cX0_unfinishedSet 20 = .ok (.iload_n 1, 1) := by decide +kernel
theorem dX0_unfinishedSet_21 : decode cX0_unfinishedSet 21 = .ok (.iload_n 2, 1) := by decide +kernel
theorem dX0_unfinishedSet_22 : decode cX0_unfinishedSet 22 = .ok (.invokestatic 80, 3) := by decide +kernel
theorem dX0_unfinishedSet_25 : decode cX0_unfinishedSet 25 = .ok (.ior, 1) := by decide +kernel
theorem dX0_unfinishedSet_26 : decode cX0_unfinishedSet 26 = .ok (.istore_n 1, 1) := by decide +kernel
theorem dX0_unfinishedSet_27 : decode cX0_unfinishedSet 27 = .ok (.iinc 2 1, 3) := by decide +kernel
theorem dX0_unfinishedSet_30 : decode cX0_unfinishedSet 30 = .ok (.goto (-26), 3) := by decide +kernel
theorem dX0_unfinishedSet_33 : decode cX0_unfinishedSet 33 = .ok (.iload_n 1, 1) := by decide +kernel
theorem dX0_unfinishedSet_34 : decode cX0_unfinishedSet 34 = .ok (.ireturn, 1) := by decide +kernel
theorem dX0_pointsOfSet_0 : decode cX0_pointsOfSet 0 = .ok (.iconst 0, 1) := by decide +kernel
theorem dX0_pointsOfSet_1 : decode cX0_pointsOfSet 1 = .ok (.istore_n 2, 1) := by decide +kernel
theorem dX0_pointsOfSet_2 : decode cX0_pointsOfSet 2 = .ok (.iconst 0, 1) := by decide +kernel
theorem dX0_pointsOfSet_3 : decode cX0_pointsOfSet 3 = .ok (.istore_n 3, 1) := by decide +kernel
theorem dX0_pointsOfSet_4 : decode cX0_pointsOfSet 4 = .ok (.iload_n 3, 1) := by decide +kernel
theorem dX0_pointsOfSet_5 : decode cX0_pointsOfSet 5 = .ok (.aload_n 0, 1) := by decide +kernel
theorem dX0_pointsOfSet_6 : decode cX0_pointsOfSet 6 = .ok (.getfield 51, 3) := by decide +kernel
theorem dX0_pointsOfSet_9 : decode cX0_pointsOfSet 9 = .ok (.if_icmp .ge 26, 3) := by decide +kernel
theorem dX0_pointsOfSet_12 : decode cX0_pointsOfSet 12 = .ok (.iload_n 1, 1) := by decide +kernel
theorem dX0_pointsOfSet_13 : decode cX0_pointsOfSet 13 = .ok (.iload_n 3, 1) := by decide +kernel
theorem dX0_pointsOfSet_14 : decode cX0_pointsOfSet 14 = .ok (.invokestatic 92, 3) := by decide +kernel
theorem dX0_pointsOfSet_17 : decode cX0_pointsOfSet 17 = .ok (.ifCond .eq 12, 3) := by decide +kernel
theorem dX0_pointsOfSet_20 : decode cX0_pointsOfSet 20 = .ok (.iload_n 2, 1) := by decide +kernel
theorem dX0_pointsOfSet_21 : decode cX0_pointsOfSet 21 = .ok (.aload_n 0, 1) := by decide +kernel
theorem dX0_pointsOfSet_22 : decode cX0_pointsOfSet 22 = .ok (.getfield 15, 3) := by decide +kernel
theorem dX0_pointsOfSet_25 : decode cX0_pointsOfSet 25 = .ok (.iload_n 3, 1) := by decide +kernel
theorem dX0_pointsOfSet_26 : decode cX0_pointsOfSet 26 = .ok (.iaload, 1) := by decide +kernel
theorem dX0_pointsOfSet_27 : decode cX0_pointsOfSet 27 = .ok (.iadd, 1) := by decide +kernel
theorem dX0_pointsOfSet_28 : decode cX0_pointsOfSet 28 = .ok (.istore_n 2, 1) := by decide +kernel
theorem dX0_pointsOfSet_29 : decode cX0_pointsOfSet 29 = .ok (.iinc 3 1, 3) := by decide +kernel
theorem dX0_pointsOfSet_32 : decode cX0_pointsOfSet 32 = .ok (.goto (-28), 3) := by decide +kernel
theorem dX0_pointsOfSet_35 : decode cX0_pointsOfSet 35 = .ok (.iload_n 2, 1) := by decide +kernel
theorem dX0_pointsOfSet_36 : decode cX0_pointsOfSet 36 = .ok (.ireturn, 1) := by decide +kernel
theorem dX0_needsDirectly_0 : decode cX0_needsDirectly 0 = .ok (.aload_n 0, 1) := by decide +kernel
theorem dX0_needsDirectly_1 : decode cX0_needsDirectly 1 = .ok (.getfield 39, 3) := by decide +kernel
theorem dX0_needsDirectly_4 : decode cX0_needsDirectly 4 = .ok (.iload_n 1, 1) := by decide +kernel
theorem dX0_needsDirectly_5 : decode cX0_needsDirectly 5 = .ok (.iaload, 1) := by decide +kernel
theorem dX0_needsDirectly_6 : decode cX0_needsDirectly 6 = .ok (.iload_n 2, 1) := by decide +kernel
theorem dX0_needsDirectly_7 : decode cX0_needsDirectly 7 = .ok (.invokestatic 92, 3) := by decide +kernel
theorem dX0_needsDirectly_10 : decode cX0_needsDirectly 10 = .ok (.ireturn, 1) := by decide +kernel
theorem dX0_thoseThatNeedAny_0 : decode cX0_thoseThatNeedAny 0 = .ok (.iconst 0, 1) := by decide +kernel
theorem dX0_thoseThatNeedAny_1 : decode cX0_thoseThatNeedAny 1 = .ok (.istore_n 2, 1) := by decide +kernel
theorem dX0_thoseThatNeedAny_2 : decode cX0_thoseThatNeedAny 2 = .ok (.iconst 0, 1) := by decide +kernel
theorem dX0_thoseThatNeedAny_3 : decode cX0_thoseThatNeedAny 3 = .ok (.istore_n 3, 1) := by decide +kernel
theorem dX0_thoseThatNeedAny_4 : decode cX0_thoseThatNeedAny 4 = .ok (.iload_n 3, 1) := by decide +kernel
theorem dX0_thoseThatNeedAny_5 : decode cX0_thoseThatNeedAny 5 = .ok (.aload_n 0, 1) := by decide +kernel
theorem dX0_thoseThatNeedAny_6 : decode cX0_thoseThatNeedAny 6 = .ok (.getfield 51, 3) := by decide +kernel
theorem dX0_thoseThatNeedAny_9 : decode cX0_thoseThatNeedAny 9 = .ok (.if_icmp .ge 27, 3) := by decide +kernel
theorem dX0_thoseThatNeedAny_12 : decode cX0_thoseThatNeedAny 12 = .ok (.aload_n 0, 1) := by decide +kernel
theorem dX0_thoseThatNeedAny_13 : decode cX0_thoseThatNeedAny 13 = .ok (.getfield 39, 3) := by decide +kernel
theorem dX0_thoseThatNeedAny_16 : decode cX0_thoseThatNeedAny 16 = .ok (.iload_n 3, 1) := by decide +kernel
theorem dX0_thoseThatNeedAny_17 : decode cX0_thoseThatNeedAny 17 = .ok (.iaload, 1) := by decide +kernel
theorem dX0_thoseThatNeedAny_18 : decode cX0_thoseThatNeedAny 18 = .ok (.iload_n 1, 1) := by decide +kernel
theorem dX0_thoseThatNeedAny_19 : decode cX0_thoseThatNeedAny 19 = .ok (.iand, 1) := by decide +kernel
theorem dX0_thoseThatNeedAny_20 : decode cX0_thoseThatNeedAny 20 = .ok (.ifCond .eq 10, 3) := by decide +kernel
theorem dX0_thoseThatNeedAny_23 : decode cX0_thoseThatNeedAny 23 = .ok (.iload_n 2, 1) := by decide +kernel
theorem dX0_thoseThatNeedAny_24 : decode cX0_thoseThatNeedAny 24 = .ok (.iload_n 3, 1) := by decide +kernel
theorem dX0_thoseThatNeedAny_25 : decode cX0_thoseThatNeedAny 25 = .ok (.invokestatic 80, 3) := by decide +kernel
theorem dX0_thoseThatNeedAny_28 : decode cX0_thoseThatNeedAny 28 = .ok (.ior, 1) := by decide +kernel
theorem dX0_thoseThatNeedAny_29 : decode cX0_thoseThatNeedAny 29 = .ok (.istore_n 2, 1) := by decide +kernel
theorem dX0_thoseThatNeedAny_30 : decode cX0_thoseThatNeedAny 30 = .ok (.iinc 3 1, 3) := by decide +kernel
theorem dX0_thoseThatNeedAny_33 : decode cX0_thoseThatNeedAny 33 = .ok (.goto (-29), 3) := by decide +kernel
theorem dX0_thoseThatNeedAny_36 : decode cX0_thoseThatNeedAny 36 = .ok (.iload_n 2, 1) := by decide +kernel
theorem dX0_thoseThatNeedAny_37 : decode cX0_thoseThatNeedAny 37 = .ok (.ireturn, 1) := by decide +kernel
theorem dX0_neededByAny_0 : decode cX0_neededByAny 0 = .ok (.iconst 0, 1) := by decide +kernel
theorem dX0_neededByAny_1 : decode cX0_neededByAny 1 = .ok (.istore_n 2, 1) := by decide +kernel
theorem dX0_neededByAny_2 : decode cX0_neededByAny 2 = .ok (.iconst 0, 1) := by decide +kernel
theorem dX0_neededByAny_3 : decode cX0_neededByAny 3 = .ok (.istore_n 3, 1) := by decide +kernel
theorem dX0_neededByAny_4 : decode cX0_neededByAny 4 = .ok (.iload_n 3, 1) := by decide +kernel
theorem dX0_neededByAny_5 : decode cX0_neededByAny 5 = .ok (.aload_n 0, 1) := by decide +kernel
theorem dX0_neededByAny_6 : decode cX0_neededByAny 6 = .ok (.getfield 51, 3) := by decide +kernel
theorem dX0_neededByAny_9 : decode cX0_neededByAny 9 = .ok (.if_icmp .ge 26, 3) := by decide +kernel
theorem dX0_neededByAny_12 : decode cX0_neededByAny 12 = .ok (.iload_n 1, 1) := by decide +kernel
theorem dX0_neededByAny_13 : decode cX0_neededByAny 13 = .ok (.iload_n 3, 1) := by decide +kernel
theorem dX0_neededByAny_14 : decode cX0_neededByAny 14 = .ok (.invokestatic 92, 3) := by decide +kernel
theorem dX0_neededByAny_17 : decode cX0_neededByAny 17 = .ok (.ifCond .eq 12, 3) := by decide +kernel
theorem dX0_neededByAny_20 : decode cX0_neededByAny 20 = .ok (.iload_n 2, 1) := by decide +kernel
theorem dX0_neededByAny_21 : decode cX0_neededByAny 21 = .ok (.aload_n 0, 1) := by decide +kernel
theorem dX0_neededByAny_22 : decode cX0_neededByAny 22 = .ok (.getfield 39, 3) := by decide +kernel
theorem dX0_neededByAny_25 : decode cX0_neededByAny 25 = .ok (.iload_n 3, 1) := by decide +kernel
theorem dX0_neededByAny_26 : decode cX0_neededByAny 26 = .ok (.iaload, 1) := by decide +kernel
theorem dX0_neededByAny_27 : decode cX0_neededByAny 27 = .ok (.ior, 1) := by decide +kernel
theorem dX0_neededByAny_28 : decode cX0_neededByAny 28 = .ok (.istore_n 2, 1) := by decide +kernel
theorem dX0_neededByAny_29 : decode cX0_neededByAny 29 = .ok (.iinc 3 1, 3) := by decide +kernel
theorem dX0_neededByAny_32 : decode cX0_neededByAny 32 = .ok (.goto (-28), 3) := by decide +kernel
theorem dX0_neededByAny_35 : decode cX0_neededByAny 35 = .ok (.iload_n 2, 1) := by decide +kernel
theorem dX0_neededByAny_36 : decode cX0_neededByAny 36 = .ok (.ireturn, 1) := by decide +kernel
theorem dX0_blockerSet_0 : decode cX0_blockerSet 0 = .ok (.aload_n 0, 1) := by decide +kernel
theorem dX0_blockerSet_1 : decode cX0_blockerSet 1 = .ok (.getfield 39, 3) := by decide +kernel
theorem dX0_blockerSet_4 : decode cX0_blockerSet 4 = .ok (.iload_n 1, 1) := by decide +kernel
theorem dX0_blockerSet_5 : decode cX0_blockerSet 5 = .ok (.iaload, 1) := by decide +kernel
theorem dX0_blockerSet_6 : decode cX0_blockerSet 6 = .ok (.aload_n 0, 1) := by decide +kernel
theorem dX0_blockerSet_7 : decode cX0_blockerSet 7 = .ok (.invokevirtual 99, 3) := by decide +kernel
theorem dX0_blockerSet_10 : decode cX0_blockerSet 10 = .ok (.iand, 1) := by decide +kernel
theorem dX0_blockerSet_11 : decode cX0_blockerSet 11 = .ok (.ireturn, 1) := by decide +kernel
theorem dX0_blockedSet_0 : decode cX0_blockedSet 0 = .ok (.aload_n 0, 1) := by decide +kernel
theorem dX0_blockedSet_1 : decode cX0_blockedSet 1 = .ok (.aload_n 0, 1) := by decide +kernel
theorem dX0_blockedSet_2 : decode cX0_blockedSet 2 = .ok (.invokevirtual 99, 3) := by decide +kernel
theorem dX0_blockedSet_5 : decode cX0_blockedSet 5 = .ok (.invokevirtual 96, 3) := by decide +kernel
theorem dX0_blockedSet_8 : decode cX0_blockedSet 8 = .ok (.ireturn, 1) := by decide +kernel
theorem dX0_reachedFrom_0 : decode cX0_reachedFrom 0 = .ok (.aload_n 0, 1) := by decide +kernel
theorem dX0_reachedFrom_1 : decode cX0_reachedFrom 1 = .ok (.getfield 39, 3) := by decide +kernel
theorem dX0_reachedFrom_4 : decode cX0_reachedFrom 4 = .ok (.iload_n 1, 1) := by decide +kernel
theorem dX0_reachedFrom_5 : decode cX0_reachedFrom 5 = .ok (.iaload, 1) := by decide +kernel
theorem dX0_reachedFrom_6 : decode cX0_reachedFrom 6 = .ok (.istore_n 2, 1) := by decide +kernel
theorem dX0_reachedFrom_7 : decode cX0_reachedFrom 7 = .ok (.iconst 0, 1) := by decide +kernel
theorem dX0_reachedFrom_8 : decode cX0_reachedFrom 8 = .ok (.istore_n 3, 1) := by decide +kernel
theorem dX0_reachedFrom_9 : decode cX0_reachedFrom 9 = .ok (.iconst 0, 1) := by decide +kernel
theorem dX0_reachedFrom_10 : decode cX0_reachedFrom 10 = .ok (.istore 4, 2) := by decide +kernel
theorem dX0_reachedFrom_12 : decode cX0_reachedFrom 12 = .ok (.iload 4, 2) := by decide +kernel
theorem dX0_reachedFrom_14 : decode cX0_reachedFrom 14 = .ok (.bipush 20, 2) := by decide +kernel
theorem dX0_reachedFrom_16 : decode cX0_reachedFrom 16 = .ok (.if_icmp .ge 24, 3) := by decide +kernel
theorem dX0_reachedFrom_19 : decode cX0_reachedFrom 19 = .ok (.iload_n 2, 1) := by decide +kernel
theorem dX0_reachedFrom_20 : decode cX0_reachedFrom 20 = .ok (.iload_n 3, 1) := by decide +kernel
theorem dX0_reachedFrom_21 : decode cX0_reachedFrom 21 = .ok (.if_icmp .eq 19, 3) := by decide +kernel
theorem dX0_reachedFrom_24 : decode cX0_reachedFrom 24 = .ok (.iload_n 2, 1) := by decide +kernel
theorem dX0_reachedFrom_25 : decode cX0_reachedFrom 25 = .ok (.istore_n 3, 1) := by decide +kernel
theorem dX0_reachedFrom_26 : decode cX0_reachedFrom 26 = .ok (.iload_n 2, 1) := by decide +kernel
theorem dX0_reachedFrom_27 : decode cX0_reachedFrom 27 = .ok (.aload_n 0, 1) := by decide +kernel
theorem dX0_reachedFrom_28 : decode cX0_reachedFrom 28 = .ok (.iload_n 2, 1) := by decide +kernel
theorem dX0_reachedFrom_29 : decode cX0_reachedFrom 29 = .ok (.invokevirtual 103, 3) := by decide +kernel
theorem dX0_reachedFrom_32 : decode cX0_reachedFrom 32 = .ok (.ior, 1) := by decide +kernel
theorem dX0_reachedFrom_33 : decode cX0_reachedFrom 33 = .ok (.istore_n 2, 1) := by decide +kernel
theorem dX0_reachedFrom_34 : decode cX0_reachedFrom 34 = .ok (.iinc 4 1, 3) := by decide +kernel
theorem dX0_reachedFrom_37 : decode cX0_reachedFrom 37 = .ok (.goto (-25), 3) := by decide +kernel
theorem dX0_reachedFrom_40 : decode cX0_reachedFrom 40 = .ok (.iload_n 2, 1) := by decide +kernel
theorem dX0_reachedFrom_41 : decode cX0_reachedFrom 41 = .ok (.ireturn, 1) := by decide +kernel
theorem dX0_hasCapacity_0 : decode cX0_hasCapacity 0 = .ok (.iload_n 1, 1) := by decide +kernel
theorem dX0_hasCapacity_1 : decode cX0_hasCapacity 1 = .ok (.iconst (-1), 1) := by decide +kernel
theorem dX0_hasCapacity_2 : decode cX0_hasCapacity 2 = .ok (.if_icmp .eq 20, 3) := by decide +kernel
theorem dX0_hasCapacity_5 : decode cX0_hasCapacity 5 = .ok (.aload_n 0, 1) := by decide +kernel
theorem dX0_hasCapacity_6 : decode cX0_hasCapacity 6 = .ok (.getfield 45, 3) := by decide +kernel
theorem dX0_hasCapacity_9 : decode cX0_hasCapacity 9 = .ok (.iload_n 1, 1) := by decide +kernel
theorem dX0_hasCapacity_10 : decode cX0_hasCapacity 10 = .ok (.iaload, 1) := by decide +kernel
theorem dX0_hasCapacity_11 : decode cX0_hasCapacity 11 = .ok (.iload_n 2, 1) := by decide +kernel
theorem dX0_hasCapacity_12 : decode cX0_hasCapacity 12 = .ok (.iadd, 1) := by decide +kernel
theorem dX0_hasCapacity_13 : decode cX0_hasCapacity 13 = .ok (.aload_n 0, 1) := by decide +kernel
theorem dX0_hasCapacity_14 : decode cX0_hasCapacity 14 = .ok (.getfield 42, 3) := by decide +kernel
theorem dX0_hasCapacity_17 : decode cX0_hasCapacity 17 = .ok (.iload_n 1, 1) := by decide +kernel
theorem dX0_hasCapacity_18 : decode cX0_hasCapacity 18 = .ok (.iaload, 1) := by decide +kernel
theorem dX0_hasCapacity_19 : decode cX0_hasCapacity 19 = .ok (.if_icmp .gt 7, 3) := by decide +kernel
theorem dX0_hasCapacity_22 : decode cX0_hasCapacity 22 = .ok (.iconst 1, 1) := by decide +kernel
theorem dX0_hasCapacity_23 : decode cX0_hasCapacity 23 = .ok (.goto 4, 3) := by decide +kernel
theorem dX0_hasCapacity_26 : decode cX0_hasCapacity 26 = .ok (.iconst 0, 1) := by decide +kernel
theorem dX0_hasCapacity_27 : decode cX0_hasCapacity 27 = .ok (.ireturn, 1) := by decide +kernel
theorem dX0_canNeed_0 : decode cX0_canNeed 0 = .ok (.aload_n 0, 1) := by decide +kernel
theorem dX0_canNeed_1 : decode cX0_canNeed 1 = .ok (.iload_n 1, 1) := by decide +kernel
theorem dX0_canNeed_2 : decode cX0_canNeed 2 = .ok (.iload_n 2, 1) := by decide +kernel
theorem dX0_canNeed_3 : decode cX0_canNeed 3 = .ok (.invokevirtual 109, 3) := by decide +kernel
theorem dX0_canNeed_6 : decode cX0_canNeed 6 = .ok (.ifCond .ne 27, 3) := by decide +kernel
theorem dX0_canNeed_9 : decode cX0_canNeed 9 = .ok (.aload_n 0, 1) := by decide +kernel
theorem dX0_canNeed_10 : decode cX0_canNeed 10 = .ok (.iload_n 1, 1) := by decide +kernel
theorem dX0_canNeed_11 : decode cX0_canNeed 11 = .ok (.invokevirtual 88, 3) := by decide +kernel
theorem dX0_canNeed_14 : decode cX0_canNeed 14 = .ok (.ifCond .eq 19, 3) := by decide +kernel
theorem dX0_canNeed_17 : decode cX0_canNeed 17 = .ok (.aload_n 0, 1) := by decide +kernel
theorem dX0_canNeed_18 : decode cX0_canNeed 18 = .ok (.iload_n 2, 1) := by decide +kernel
theorem dX0_canNeed_19 : decode cX0_canNeed 19 = .ok (.invokevirtual 112, 3) := by decide +kernel
theorem dX0_canNeed_22 : decode cX0_canNeed 22 = .ok (.iload_n 1, 1) := by decide +kernel
theorem dX0_canNeed_23 : decode cX0_canNeed 23 = .ok (.invokestatic 92, 3) := by decide +kernel
theorem dX0_canNeed_26 : decode cX0_canNeed 26 = .ok (.ifCond .ne 7, 3) := by decide +kernel
theorem dX0_canNeed_29 : decode cX0_canNeed 29 = .ok (.iconst 1, 1) := by decide +kernel
theorem dX0_canNeed_30 : decode cX0_canNeed 30 = .ok (.goto 4, 3) := by decide +kernel
theorem dX0_canNeed_33 : decode cX0_canNeed 33 = .ok (.iconst 0, 1) := by decide +kernel
theorem dX0_canNeed_34 : decode cX0_canNeed 34 = .ok (.ireturn, 1) := by decide +kernel
theorem dX0_canBeGivenTo_0 : decode cX0_canBeGivenTo 0 = .ok (.aload_n 0, 1) := by decide +kernel
theorem dX0_canBeGivenTo_1 : decode cX0_canBeGivenTo 1 = .ok (.iload_n 1, 1) := by decide +kernel
theorem dX0_canBeGivenTo_2 : decode cX0_canBeGivenTo 2 = .ok (.invokevirtual 88, 3) := by decide +kernel
theorem dX0_canBeGivenTo_5 : decode cX0_canBeGivenTo 5 = .ok (.ifCond .eq 31, 3) := by decide +kernel
theorem dX0_canBeGivenTo_8 : decode cX0_canBeGivenTo 8 = .ok (.aload_n 0, 1) := by decide +kernel
theorem dX0_canBeGivenTo_9 : decode cX0_canBeGivenTo 9 = .ok (.getfield 21, 3) := by decide +kernel
theorem dX0_canBeGivenTo_12 : decode cX0_canBeGivenTo 12 = .ok (.iload_n 1, 1) := by decide +kernel
theorem dX0_canBeGivenTo_13 : decode cX0_canBeGivenTo 13 = .ok (.iaload, 1) := by decide +kernel
theorem dX0_canBeGivenTo_14 : decode cX0_canBeGivenTo 14 = .ok (.iload_n 2, 1) := by decide +kernel
theorem dX0_canBeGivenTo_15 : decode cX0_canBeGivenTo 15 = .ok (.if_icmp .eq 21, 3) := by decide +kernel
theorem dX0_canBeGivenTo_18 : decode cX0_canBeGivenTo 18 = .ok (.aload_n 0, 1) := by decide +kernel
theorem dX0_canBeGivenTo_19 : decode cX0_canBeGivenTo 19 = .ok (.iload_n 2, 1) := by decide +kernel
theorem dX0_canBeGivenTo_20 : decode cX0_canBeGivenTo 20 = .ok (.aload_n 0, 1) := by decide +kernel
theorem dX0_canBeGivenTo_21 : decode cX0_canBeGivenTo 21 = .ok (.getfield 15, 3) := by decide +kernel
theorem dX0_canBeGivenTo_24 : decode cX0_canBeGivenTo 24 = .ok (.iload_n 1, 1) := by decide +kernel
theorem dX0_canBeGivenTo_25 : decode cX0_canBeGivenTo 25 = .ok (.iaload, 1) := by decide +kernel
theorem dX0_canBeGivenTo_26 : decode cX0_canBeGivenTo 26 = .ok (.invokevirtual 106, 3) := by decide +kernel
theorem dX0_canBeGivenTo_29 : decode cX0_canBeGivenTo 29 = .ok (.ifCond .eq 7, 3) := by decide +kernel
theorem dX0_canBeGivenTo_32 : decode cX0_canBeGivenTo 32 = .ok (.iconst 1, 1) := by decide +kernel
theorem dX0_canBeGivenTo_33 : decode cX0_canBeGivenTo 33 = .ok (.goto 4, 3) := by decide +kernel
theorem dX0_canBeGivenTo_36 : decode cX0_canBeGivenTo 36 = .ok (.iconst 0, 1) := by decide +kernel
theorem dX0_canBeGivenTo_37 : decode cX0_canBeGivenTo 37 = .ok (.ireturn, 1) := by decide +kernel
theorem dX0_canPass_0 : decode cX0_canPass 0 = .ok (.aload_n 0, 1) := by decide +kernel
theorem dX0_canPass_1 : decode cX0_canPass 1 = .ok (.getfield 55, 3) := by decide +kernel
theorem dX0_canPass_4 : decode cX0_canPass 4 = .ok (.iload_n 1, 1) := by decide +kernel
theorem dX0_canPass_5 : decode cX0_canPass 5 = .ok (.iadd, 1) := by decide +kernel
theorem dX0_canPass_6 : decode cX0_canPass 6 = .ok (.sipush 999, 3) := by decide +kernel
theorem dX0_canPass_9 : decode cX0_canPass 9 = .ok (.if_icmp .gt 7, 3) := by decide +kernel
theorem dX0_canPass_12 : decode cX0_canPass 12 = .ok (.iconst 1, 1) := by decide +kernel
theorem dX0_canPass_13 : decode cX0_canPass 13 = .ok (.goto 4, 3) := by decide +kernel
theorem dX0_canPass_16 : decode cX0_canPass 16 = .ok (.iconst 0, 1) := by decide +kernel
theorem dX0_canPass_17 : decode cX0_canPass 17 = .ok (.ireturn, 1) := by decide +kernel
theorem dX0_canStart_0 : decode cX0_canStart 0 = .ok (.aload_n 0, 1) := by decide +kernel
theorem dX0_canStart_1 : decode cX0_canStart 1 = .ok (.getfield 9, 3) := by decide +kernel
theorem dX0_canStart_4 : decode cX0_canStart 4 = .ok (.iload_n 1, 1) := by decide +kernel
theorem dX0_canStart_5 : decode cX0_canStart 5 = .ok (.iaload, 1) := by decide +kernel
theorem dX0_canStart_6 : decode cX0_canStart 6 = .ok (.ifCond .ne 17, 3) := by decide +kernel
theorem dX0_canStart_9 : decode cX0_canStart 9 = .ok (.aload_n 0, 1) := by decide +kernel
theorem dX0_canStart_10 : decode cX0_canStart 10 = .ok (.getfield 21, 3) := by decide +kernel
theorem dX0_canStart_13 : decode cX0_canStart 13 = .ok (.iload_n 1, 1) := by decide +kernel
theorem dX0_canStart_14 : decode cX0_canStart 14 = .ok (.iaload, 1) := by decide +kernel
theorem dX0_canStart_15 : decode cX0_canStart 15 = .ok (.iconst (-1), 1) := by decide +kernel
theorem dX0_canStart_16 : decode cX0_canStart 16 = .ok (.if_icmp .eq 7, 3) := by decide +kernel
theorem dX0_canStart_19 : decode cX0_canStart 19 = .ok (.iconst 1, 1) := by decide +kernel
theorem dX0_canStart_20 : decode cX0_canStart 20 = .ok (.goto 4, 3) := by decide +kernel
theorem dX0_canStart_23 : decode cX0_canStart 23 = .ok (.iconst 0, 1) := by decide +kernel
theorem dX0_canStart_24 : decode cX0_canStart 24 = .ok (.ireturn, 1) := by decide +kernel
theorem dX0_canClose_0 : decode cX0_canClose 0 = .ok (.aload_n 0, 1) := by decide +kernel
theorem dX0_canClose_1 : decode cX0_canClose 1 = .ok (.getfield 9, 3) := by decide +kernel
theorem dX0_canClose_4 : decode cX0_canClose 4 = .ok (.iload_n 1, 1) := by decide +kernel
theorem dX0_canClose_5 : decode cX0_canClose 5 = .ok (.iaload, 1) := by decide +kernel
theorem dX0_canClose_6 : decode cX0_canClose 6 = .ok (.iconst 2, 1) := by decide +kernel
theorem dX0_canClose_7 : decode cX0_canClose 7 = .ok (.if_icmp .ne 15, 3) := by decide +kernel
theorem dX0_canClose_10 : decode cX0_canClose 10 = .ok (.aload_n 0, 1) := by decide +kernel
theorem dX0_canClose_11 : decode cX0_canClose 11 = .ok (.iload_n 1, 1) := by decide +kernel
theorem dX0_canClose_12 : decode cX0_canClose 12 = .ok (.invokevirtual 115, 3) := by decide +kernel
theorem dX0_canClose_15 : decode cX0_canClose 15 = .ok (.ifCond .ne 7, 3) := by decide +kernel
theorem dX0_canClose_18 : decode cX0_canClose 18 = .ok (.iconst 1, 1) := by decide +kernel
theorem dX0_canClose_19 : decode cX0_canClose 19 = .ok (.goto 4, 3) := by decide +kernel
theorem dX0_canClose_22 : decode cX0_canClose 22 = .ok (.iconst 0, 1) := by decide +kernel
theorem dX0_canClose_23 : decode cX0_canClose 23 = .ok (.ireturn, 1) := by decide +kernel
theorem dX0_addTicket_0 : decode cX0_addTicket 0 = .ok (.aload_n 0, 1) := by decide +kernel
theorem dX0_addTicket_1 : decode cX0_addTicket 1 = .ok (.getfield 51, 3) := by decide +kernel
theorem dX0_addTicket_4 : decode cX0_addTicket 4 = .ok (.istore_n 3, 1) := by decide +kernel
theorem dX0_addTicket_5 : decode cX0_addTicket 5 = .ok (.aload_n 0, 1) := by decide +kernel
theorem dX0_addTicket_6 : decode cX0_addTicket 6 = .ok (.getfield 9, 3) := by decide +kernel
theorem dX0_addTicket_9 : decode cX0_addTicket 9 = .ok (.iload_n 3, 1) := by decide +kernel
theorem dX0_addTicket_10 : decode cX0_addTicket 10 = .ok (.iconst 0, 1) := by decide +kernel
theorem dX0_addTicket_11 : decode cX0_addTicket 11 = .ok (.iastore, 1) := by decide +kernel
theorem dX0_addTicket_12 : decode cX0_addTicket 12 = .ok (.aload_n 0, 1) := by decide +kernel
theorem dX0_addTicket_13 : decode cX0_addTicket 13 = .ok (.getfield 15, 3) := by decide +kernel
theorem dX0_addTicket_16 : decode cX0_addTicket 16 = .ok (.iload_n 3, 1) := by decide +kernel
theorem dX0_addTicket_17 : decode cX0_addTicket 17 = .ok (.iload_n 1, 1) := by decide +kernel
theorem dX0_addTicket_18 : decode cX0_addTicket 18 = .ok (.iastore, 1) := by decide +kernel
theorem dX0_addTicket_19 : decode cX0_addTicket 19 = .ok (.aload_n 0, 1) := by decide +kernel
theorem dX0_addTicket_20 : decode cX0_addTicket 20 = .ok (.getfield 18, 3) := by decide +kernel
theorem dX0_addTicket_23 : decode cX0_addTicket 23 = .ok (.iload_n 3, 1) := by decide +kernel
theorem dX0_addTicket_24 : decode cX0_addTicket 24 = .ok (.iload_n 2, 1) := by decide +kernel
theorem dX0_addTicket_25 : decode cX0_addTicket 25 = .ok (.iastore, 1) := by decide +kernel
theorem dX0_addTicket_26 : decode cX0_addTicket 26 = .ok (.aload_n 0, 1) := by decide +kernel
theorem dX0_addTicket_27 : decode cX0_addTicket 27 = .ok (.getfield 21, 3) := by decide +kernel
theorem dX0_addTicket_30 : decode cX0_addTicket 30 = .ok (.iload_n 3, 1) := by decide +kernel
theorem dX0_addTicket_31 : decode cX0_addTicket 31 = .ok (.iconst (-1), 1) := by decide +kernel
theorem dX0_addTicket_32 : decode cX0_addTicket 32 = .ok (.iastore, 1) := by decide +kernel
theorem dX0_addTicket_33 : decode cX0_addTicket 33 = .ok (.aload_n 0, 1) := by decide +kernel
theorem dX0_addTicket_34 : decode cX0_addTicket 34 = .ok (.getfield 24, 3) := by decide +kernel
theorem dX0_addTicket_37 : decode cX0_addTicket 37 = .ok (.iload_n 3, 1) := by decide +kernel
theorem dX0_addTicket_38 : decode cX0_addTicket 38 = .ok (.iconst (-1), 1) := by decide +kernel
theorem dX0_addTicket_39 : decode cX0_addTicket 39 = .ok (.iastore, 1) := by decide +kernel
theorem dX0_addTicket_40 : decode cX0_addTicket 40 = .ok (.aload_n 0, 1) := by decide +kernel
theorem dX0_addTicket_41 : decode cX0_addTicket 41 = .ok (.getfield 27, 3) := by decide +kernel
theorem dX0_addTicket_44 : decode cX0_addTicket 44 = .ok (.iload_n 3, 1) := by decide +kernel
theorem dX0_addTicket_45 : decode cX0_addTicket 45 = .ok (.aload_n 0, 1) := by decide +kernel
theorem dX0_addTicket_46 : decode cX0_addTicket 46 = .ok (.getfield 55, 3) := by decide +kernel
theorem dX0_addTicket_49 : decode cX0_addTicket 49 = .ok (.iastore, 1) := by decide +kernel
theorem dX0_addTicket_50 : decode cX0_addTicket 50 = .ok (.aload_n 0, 1) := by decide +kernel
theorem dX0_addTicket_51 : decode cX0_addTicket 51 = .ok (.getfield 30, 3) := by decide +kernel
theorem dX0_addTicket_54 : decode cX0_addTicket 54 = .ok (.iload_n 3, 1) := by decide +kernel
theorem dX0_addTicket_55 : decode cX0_addTicket 55 = .ok (.iconst (-1), 1) := by decide +kernel
theorem dX0_addTicket_56 : decode cX0_addTicket 56 = .ok (.iastore, 1) := by decide +kernel
theorem dX0_addTicket_57 : decode cX0_addTicket 57 = .ok (.aload_n 0, 1) := by decide +kernel
theorem dX0_addTicket_58 : decode cX0_addTicket 58 = .ok (.getfield 33, 3) := by decide +kernel
theorem dX0_addTicket_61 : decode cX0_addTicket 61 = .ok (.iload_n 3, 1) := by decide +kernel
theorem dX0_addTicket_62 : decode cX0_addTicket 62 = .ok (.iconst 0, 1) := by decide +kernel
theorem dX0_addTicket_63 : decode cX0_addTicket 63 = .ok (.iastore, 1) := by decide +kernel
theorem dX0_addTicket_64 : decode cX0_addTicket 64 = .ok (.aload_n 0, 1) := by decide +kernel
theorem dX0_addTicket_65 : decode cX0_addTicket 65 = .ok (.getfield 36, 3) := by decide +kernel
theorem dX0_addTicket_68 : decode cX0_addTicket 68 = .ok (.iload_n 3, 1) := by decide +kernel
theorem dX0_addTicket_69 : decode cX0_addTicket 69 = .ok (.iconst 0, 1) := by decide +kernel
theorem dX0_addTicket_70 : decode cX0_addTicket 70 = .ok (.iastore, 1) := by decide +kernel
theorem dX0_addTicket_71 : decode cX0_addTicket 71 = .ok (.aload_n 0, 1) := by decide +kernel
theorem dX0_addTicket_72 : decode cX0_addTicket 72 = .ok (.getfield 39, 3) := by decide +kernel
theorem dX0_addTicket_75 : decode cX0_addTicket 75 = .ok (.iload_n 3, 1) := by decide +kernel
theorem dX0_addTicket_76 : decode cX0_addTicket 76 = .ok (.iconst 0, 1) := by decide +kernel
theorem dX0_addTicket_77 : decode cX0_addTicket 77 = .ok (.iastore, 1) := by decide +kernel
theorem dX0_addTicket_78 : decode cX0_addTicket 78 = .ok (.aload_n 0, 1) := by decide +kernel
theorem dX0_addTicket_79 : decode cX0_addTicket 79 = .ok (.dup, 1) := by decide +kernel
theorem dX0_addTicket_80 : decode cX0_addTicket 80 = .ok (.getfield 51, 3) := by decide +kernel
theorem dX0_addTicket_83 : decode cX0_addTicket 83 = .ok (.iconst 1, 1) := by decide +kernel
theorem dX0_addTicket_84 : decode cX0_addTicket 84 = .ok (.iadd, 1) := by decide +kernel
theorem dX0_addTicket_85 : decode cX0_addTicket 85 = .ok (.putfield 51, 3) := by decide +kernel
theorem dX0_addTicket_88 : decode cX0_addTicket 88 = .ok (.iload_n 3, 1) := by decide +kernel
theorem dX0_addTicket_89 : decode cX0_addTicket 89 = .ok (.ireturn, 1) := by decide +kernel
theorem dX0_addLoad_0 : decode cX0_addLoad 0 = .ok (.iload_n 1, 1) := by decide +kernel
theorem dX0_addLoad_1 : decode cX0_addLoad 1 = .ok (.iconst (-1), 1) := by decide +kernel
theorem dX0_addLoad_2 : decode cX0_addLoad 2 = .ok (.if_icmp .eq 13, 3) := by decide +kernel
theorem dX0_addLoad_5 : decode cX0_addLoad 5 = .ok (.aload_n 0, 1) := by decide +kernel
theorem dX0_addLoad_6 : decode cX0_addLoad 6 = .ok (.getfield 45, 3) := by decide +kernel
theorem dX0_addLoad_9 : decode cX0_addLoad 9 = .ok (.iload_n 1, 1) := by decide +kernel
theorem dX0_addLoad_10 : decode cX0_addLoad 10 = .ok (.dup2, 1) := by decide +kernel
theorem dX0_addLoad_11 : decode cX0_addLoad 11 = .ok (.iaload, 1) := by decide +kernel
theorem dX0_addLoad_12 : decode cX0_addLoad 12 = .ok (.iload_n 2, 1) := by decide +kernel
theorem dX0_addLoad_13 : decode cX0_addLoad 13 = .ok (.iadd, 1) := by decide +kernel
theorem dX0_addLoad_14 : decode cX0_addLoad 14 = .ok (.iastore, 1) := by decide +kernel
theorem dX0_addLoad_15 : decode cX0_addLoad 15 = .ok (.return_, 1) := by decide +kernel
theorem dX0_addNeed_0 : decode cX0_addNeed 0 = .ok (.aload_n 0, 1) := by decide +kernel
theorem dX0_addNeed_1 : decode cX0_addNeed 1 = .ok (.getfield 39, 3) := by decide +kernel
theorem dX0_addNeed_4 : decode cX0_addNeed 4 = .ok (.iload_n 1, 1) := by decide +kernel
theorem dX0_addNeed_5 : decode cX0_addNeed 5 = .ok (.dup2, 1) := by decide +kernel
theorem dX0_addNeed_6 : decode cX0_addNeed 6 = .ok (.iaload, 1) := by decide +kernel
theorem dX0_addNeed_7 : decode cX0_addNeed 7 = .ok (.iload_n 2, 1) := by decide +kernel
theorem dX0_addNeed_8 : decode cX0_addNeed 8 = .ok (.invokestatic 80, 3) := by decide +kernel
theorem dX0_addNeed_11 : decode cX0_addNeed 11 = .ok (.ior, 1) := by decide +kernel
theorem dX0_addNeed_12 : decode cX0_addNeed 12 = .ok (.iastore, 1) := by decide +kernel
theorem dX0_addNeed_13 : decode cX0_addNeed 13 = .ok (.aload_n 0, 1) := by decide +kernel
theorem dX0_addNeed_14 : decode cX0_addNeed 14 = .ok (.getfield 39, 3) := by decide +kernel
theorem dX0_addNeed_17 : decode cX0_addNeed 17 = .ok (.iload_n 1, 1) := by decide +kernel
theorem dX0_addNeed_18 : decode cX0_addNeed 18 = .ok (.iaload, 1) := by decide +kernel
theorem dX0_addNeed_19 : decode cX0_addNeed 19 = .ok (.invokestatic 128, 3) := by decide +kernel
theorem dX0_addNeed_22 : decode cX0_addNeed 22 = .ok (.ireturn, 1) := by decide +kernel
theorem dX0_giveTo_0 : decode cX0_giveTo 0 = .ok (.aload_n 0, 1) := by decide +kernel
theorem dX0_giveTo_1 : decode cX0_giveTo 1 = .ok (.aload_n 0, 1) := by decide +kernel
theorem dX0_giveTo_2 : decode cX0_giveTo 2 = .ok (.getfield 21, 3) := by decide +kernel
theorem dX0_giveTo_5 : decode cX0_giveTo 5 = .ok (.iload_n 1, 1) := by decide +kernel
theorem dX0_giveTo_6 : decode cX0_giveTo 6 = .ok (.iaload, 1) := by decide +kernel
theorem dX0_giveTo_7 : decode cX0_giveTo 7 = .ok (.aload_n 0, 1) := by decide +kernel
theorem dX0_giveTo_8 : decode cX0_giveTo 8 = .ok (.getfield 15, 3) := by decide +kernel
theorem dX0_giveTo_11 : decode cX0_giveTo 11 = .ok (.iload_n 1, 1) := by decide +kernel
theorem dX0_giveTo_12 : decode cX0_giveTo 12 = .ok (.iaload, 1) := by decide +kernel
theorem dX0_giveTo_13 : decode cX0_giveTo 13 = .ok (.ineg, 1) := by decide +kernel
theorem dX0_giveTo_14 : decode cX0_giveTo 14 = .ok (.invokevirtual 124, 3) := by decide +kernel
theorem dX0_giveTo_17 : decode cX0_giveTo 17 = .ok (.aload_n 0, 1) := by decide +kernel
theorem dX0_giveTo_18 : decode cX0_giveTo 18 = .ok (.getfield 21, 3) := by decide +kernel
theorem dX0_giveTo_21 : decode cX0_giveTo 21 = .ok (.iload_n 1, 1) := by decide +kernel
theorem dX0_giveTo_22 : decode cX0_giveTo 22 = .ok (.iload_n 2, 1) := by decide +kernel
theorem dX0_giveTo_23 : decode cX0_giveTo 23 = .ok (.iastore, 1) := by decide +kernel
theorem dX0_giveTo_24 : decode cX0_giveTo 24 = .ok (.aload_n 0, 1) := by decide +kernel
theorem dX0_giveTo_25 : decode cX0_giveTo 25 = .ok (.iload_n 2, 1) := by decide +kernel
theorem dX0_giveTo_26 : decode cX0_giveTo 26 = .ok (.aload_n 0, 1) := by decide +kernel
theorem dX0_giveTo_27 : decode cX0_giveTo 27 = .ok (.getfield 15, 3) := by decide +kernel
theorem dX0_giveTo_30 : decode cX0_giveTo 30 = .ok (.iload_n 1, 1) := by decide +kernel
theorem dX0_giveTo_31 : decode cX0_giveTo 31 = .ok (.iaload, 1) := by decide +kernel
theorem dX0_giveTo_32 : decode cX0_giveTo 32 = .ok (.invokevirtual 124, 3) := by decide +kernel
theorem dX0_giveTo_35 : decode cX0_giveTo 35 = .ok (.aload_n 0, 1) := by decide +kernel
theorem dX0_giveTo_36 : decode cX0_giveTo 36 = .ok (.getfield 45, 3) := by decide +kernel
theorem dX0_giveTo_39 : decode cX0_giveTo 39 = .ok (.iload_n 2, 1) := by decide +kernel
theorem dX0_giveTo_40 : decode cX0_giveTo 40 = .ok (.iaload, 1) := by decide +kernel
theorem dX0_giveTo_41 : decode cX0_giveTo 41 = .ok (.ireturn, 1) := by decide +kernel
theorem dX0_setDate_0 : decode cX0_setDate 0 = .ok (.aload_n 0, 1) := by decide +kernel
theorem dX0_setDate_1 : decode cX0_setDate 1 = .ok (.getfield 48, 3) := by decide +kernel
theorem dX0_setDate_4 : decode cX0_setDate 4 = .ok (.iload_n 1, 1) := by decide +kernel
theorem dX0_setDate_5 : decode cX0_setDate 5 = .ok (.iaload, 1) := by decide +kernel
theorem dX0_setDate_6 : decode cX0_setDate 6 = .ok (.istore_n 3, 1) := by decide +kernel
theorem dX0_setDate_7 : decode cX0_setDate 7 = .ok (.aload_n 0, 1) := by decide +kernel
theorem dX0_setDate_8 : decode cX0_setDate 8 = .ok (.getfield 48, 3) := by decide +kernel
theorem dX0_setDate_11 : decode cX0_setDate 11 = .ok (.iload_n 1, 1) := by decide +kernel
theorem dX0_setDate_12 : decode cX0_setDate 12 = .ok (.iload_n 2, 1) := by decide +kernel
theorem dX0_setDate_13 : decode cX0_setDate 13 = .ok (.iastore, 1) := by decide +kernel
theorem dX0_setDate_14 : decode cX0_setDate 14 = .ok (.iload_n 3, 1) := by decide +kernel
theorem dX0_setDate_15 : decode cX0_setDate 15 = .ok (.ireturn, 1) := by decide +kernel
theorem dX0_pass_0 : decode cX0_pass 0 = .ok (.aload_n 0, 1) := by decide +kernel
theorem dX0_pass_1 : decode cX0_pass 1 = .ok (.dup, 1) := by decide +kernel
theorem dX0_pass_2 : decode cX0_pass 2 = .ok (.getfield 55, 3) := by decide +kernel
theorem dX0_pass_5 : decode cX0_pass 5 = .ok (.iload_n 1, 1) := by decide +kernel
theorem dX0_pass_6 : decode cX0_pass 6 = .ok (.iadd, 1) := by decide +kernel
theorem dX0_pass_7 : decode cX0_pass 7 = .ok (.putfield 55, 3) := by decide +kernel
theorem dX0_pass_10 : decode cX0_pass 10 = .ok (.iconst 0, 1) := by decide +kernel
theorem dX0_pass_11 : decode cX0_pass 11 = .ok (.istore_n 2, 1) := by decide +kernel
theorem dX0_pass_12 : decode cX0_pass 12 = .ok (.iload_n 2, 1) := by decide +kernel
theorem dX0_pass_13 : decode cX0_pass 13 = .ok (.aload_n 0, 1) := by decide +kernel
theorem dX0_pass_14 : decode cX0_pass 14 = .ok (.getfield 51, 3) := by decide +kernel
theorem dX0_pass_17 : decode cX0_pass 17 = .ok (.if_icmp .ge 29, 3) := by decide +kernel
theorem dX0_pass_20 : decode cX0_pass 20 = .ok (.aload_n 0, 1) := by decide +kernel
theorem dX0_pass_21 : decode cX0_pass 21 = .ok (.getfield 9, 3) := by decide +kernel
theorem dX0_pass_24 : decode cX0_pass 24 = .ok (.iload_n 2, 1) := by decide +kernel
theorem dX0_pass_25 : decode cX0_pass 25 = .ok (.iaload, 1) := by decide +kernel
theorem dX0_pass_26 : decode cX0_pass 26 = .ok (.iconst 1, 1) := by decide +kernel
theorem dX0_pass_27 : decode cX0_pass 27 = .ok (.if_icmp .ne 13, 3) := by decide +kernel
theorem dX0_pass_30 : decode cX0_pass 30 = .ok (.aload_n 0, 1) := by decide +kernel
theorem dX0_pass_31 : decode cX0_pass 31 = .ok (.getfield 33, 3) := by decide +kernel
theorem dX0_pass_34 : decode cX0_pass 34 = .ok (.iload_n 2, 1) := by decide +kernel
theorem dX0_pass_35 : decode cX0_pass 35 = .ok (.dup2, 1) := by decide +kernel
theorem dX0_pass_36 : decode cX0_pass 36 = .ok (.iaload, 1) := by decide +kernel
theorem dX0_pass_37 : decode cX0_pass 37 = .ok (.iload_n 1, 1) := by decide +kernel
theorem dX0_pass_38 : decode cX0_pass 38 = .ok (.iadd, 1) := by decide +kernel
theorem dX0_pass_39 : decode cX0_pass 39 = .ok (.iastore, 1) := by decide +kernel
theorem dX0_pass_40 : decode cX0_pass 40 = .ok (.iinc 2 1, 3) := by decide +kernel
theorem dX0_pass_43 : decode cX0_pass 43 = .ok (.goto (-31), 3) := by decide +kernel
theorem dX0_pass_46 : decode cX0_pass 46 = .ok (.aload_n 0, 1) := by decide +kernel
theorem dX0_pass_47 : decode cX0_pass 47 = .ok (.getfield 55, 3) := by decide +kernel
theorem dX0_pass_50 : decode cX0_pass 50 = .ok (.ireturn, 1) := by decide +kernel
theorem dX0_finish_0 : decode cX0_finish 0 = .ok (.aload_n 0, 1) := by decide +kernel
theorem dX0_finish_1 : decode cX0_finish 1 = .ok (.getfield 30, 3) := by decide +kernel
theorem dX0_finish_4 : decode cX0_finish 4 = .ok (.iload_n 1, 1) := by decide +kernel
theorem dX0_finish_5 : decode cX0_finish 5 = .ok (.aload_n 0, 1) := by decide +kernel
theorem dX0_finish_6 : decode cX0_finish 6 = .ok (.getfield 55, 3) := by decide +kernel
theorem dX0_finish_9 : decode cX0_finish 9 = .ok (.iastore, 1) := by decide +kernel
theorem dX0_finish_10 : decode cX0_finish 10 = .ok (.aload_n 0, 1) := by decide +kernel
theorem dX0_finish_11 : decode cX0_finish 11 = .ok (.dup, 1) := by decide +kernel
theorem dX0_finish_12 : decode cX0_finish 12 = .ok (.getfield 58, 3) := by decide +kernel
theorem dX0_finish_15 : decode cX0_finish 15 = .ok (.iconst 1, 1) := by decide +kernel
theorem dX0_finish_16 : decode cX0_finish 16 = .ok (.iadd, 1) := by decide +kernel
theorem dX0_finish_17 : decode cX0_finish 17 = .ok (.putfield 58, 3) := by decide +kernel
theorem dX0_finish_20 : decode cX0_finish 20 = .ok (.aload_n 0, 1) := by decide +kernel
theorem dX0_finish_21 : decode cX0_finish 21 = .ok (.iload_n 1, 1) := by decide +kernel
theorem dX0_finish_22 : decode cX0_finish 22 = .ok (.iconst 3, 1) := by decide +kernel
theorem dX0_finish_23 : decode cX0_finish 23 = .ok (.invokevirtual 133, 3) := by decide +kernel
theorem dX0_finish_26 : decode cX0_finish 26 = .ok (.return_, 1) := by decide +kernel
theorem dX0_leaveOff_0 : decode cX0_leaveOff 0 = .ok (.aload_n 0, 1) := by decide +kernel
theorem dX0_leaveOff_1 : decode cX0_leaveOff 1 = .ok (.getfield 9, 3) := by decide +kernel
theorem dX0_leaveOff_4 : decode cX0_leaveOff 4 = .ok (.iload_n 1, 1) := by decide +kernel
theorem dX0_leaveOff_5 : decode cX0_leaveOff 5 = .ok (.iload_n 2, 1) := by decide +kernel
theorem dX0_leaveOff_6 : decode cX0_leaveOff 6 = .ok (.iastore, 1) := by decide +kernel
theorem dX0_leaveOff_7 : decode cX0_leaveOff 7 = .ok (.aload_n 0, 1) := by decide +kernel
theorem dX0_leaveOff_8 : decode cX0_leaveOff 8 = .ok (.aload_n 0, 1) := by decide +kernel
theorem dX0_leaveOff_9 : decode cX0_leaveOff 9 = .ok (.getfield 21, 3) := by decide +kernel
theorem dX0_leaveOff_12 : decode cX0_leaveOff 12 = .ok (.iload_n 1, 1) := by decide +kernel
theorem dX0_leaveOff_13 : decode cX0_leaveOff 13 = .ok (.iaload, 1) := by decide +kernel
theorem dX0_leaveOff_14 : decode cX0_leaveOff 14 = .ok (.aload_n 0, 1) := by decide +kernel
theorem dX0_leaveOff_15 : decode cX0_leaveOff 15 = .ok (.getfield 15, 3) := by decide +kernel
theorem dX0_leaveOff_18 : decode cX0_leaveOff 18 = .ok (.iload_n 1, 1) := by decide +kernel
theorem dX0_leaveOff_19 : decode cX0_leaveOff 19 = .ok (.iaload, 1) := by decide +kernel
theorem dX0_leaveOff_20 : decode cX0_leaveOff 20 = .ok (.ineg, 1) := by decide +kernel
theorem dX0_leaveOff_21 : decode cX0_leaveOff 21 = .ok (.invokevirtual 124, 3) := by decide +kernel
theorem dX0_leaveOff_24 : decode cX0_leaveOff 24 = .ok (.return_, 1) := by decide +kernel
theorem dX1_init_0 : decode cX1_init 0 = .ok (.aload_n 0, 1) := by decide +kernel
theorem dX1_init_1 : decode cX1_init 1 = .ok (.invokespecial 3, 3) := by decide +kernel
theorem dX1_init_4 : decode cX1_init 4 = .ok (.aload_n 0, 1) := by decide +kernel
theorem dX1_init_5 : decode cX1_init 5 = .ok (.bipush 20, 2) := by decide +kernel
theorem dX1_init_7 : decode cX1_init 7 = .ok (.newarray .int, 2) := by decide +kernel
theorem dX1_init_9 : decode cX1_init 9 = .ok (.putfield 9, 3) := by decide +kernel
theorem dX1_init_12 : decode cX1_init 12 = .ok (.aload_n 0, 1) := by decide +kernel
theorem dX1_init_13 : decode cX1_init 13 = .ok (.bipush 20, 2) := by decide +kernel
theorem dX1_init_15 : decode cX1_init 15 = .ok (.newarray .int, 2) := by decide +kernel
theorem dX1_init_17 : decode cX1_init 17 = .ok (.putfield 15, 3) := by decide +kernel
theorem dX1_init_20 : decode cX1_init 20 = .ok (.aload_n 0, 1) := by decide +kernel
theorem dX1_init_21 : decode cX1_init 21 = .ok (.bipush 20, 2) := by decide +kernel
theorem dX1_init_23 : decode cX1_init 23 = .ok (.newarray .int, 2) := by decide +kernel
theorem dX1_init_25 : decode cX1_init 25 = .ok (.putfield 18, 3) := by decide +kernel
theorem dX1_init_28 : decode cX1_init 28 = .ok (.aload_n 0, 1) := by decide +kernel
theorem dX1_init_29 : decode cX1_init 29 = .ok (.bipush 20, 2) := by decide +kernel
theorem dX1_init_31 : decode cX1_init 31 = .ok (.newarray .int, 2) := by decide +kernel
theorem dX1_init_33 : decode cX1_init 33 = .ok (.putfield 21, 3) := by decide +kernel
theorem dX1_init_36 : decode cX1_init 36 = .ok (.return_, 1) := by decide +kernel
theorem dX1_countByTable_0 : decode cX1_countByTable 0 = .ok (.aload_n 1, 1) := by decide +kernel
theorem dX1_countByTable_1 : decode cX1_countByTable 1 = .ok (.getfield 24, 3) := by decide +kernel
theorem dX1_countByTable_4 : decode cX1_countByTable 4 = .ok (.istore_n 3, 1) := by decide +kernel
theorem dX1_countByTable_5 : decode cX1_countByTable 5 = .ok (.iconst 0, 1) := by decide +kernel
theorem dX1_countByTable_6 : decode cX1_countByTable 6 = .ok (.istore 4, 2) := by decide +kernel
theorem dX1_countByTable_8 : decode cX1_countByTable 8 = .ok (.iload 4, 2) := by decide +kernel
theorem dX1_countByTable_10 : decode cX1_countByTable 10 = .ok (.iload_n 3, 1) := by decide +kernel
theorem dX1_countByTable_11 : decode cX1_countByTable 11 = .ok (.if_icmp .ge 23, 3) := by decide +kernel
theorem dX1_countByTable_14 : decode cX1_countByTable 14 = .ok (.aload_n 0, 1) := by decide +kernel
theorem dX1_countByTable_15 : decode cX1_countByTable 15 = .ok (.getfield 9, 3) := by decide +kernel
theorem dX1_countByTable_18 : decode cX1_countByTable 18 = .ok (.iload 4, 2) := by decide +kernel
theorem dX1_countByTable_20 : decode cX1_countByTable 20 = .ok (.aload_n 1, 1) := by decide +kernel
theorem dX1_countByTable_21 : decode cX1_countByTable 21 = .ok (.getfield 30, 3) := by decide +kernel
theorem dX1_countByTable_24 : decode cX1_countByTable 24 = .ok (.iload 4, 2) := by decide +kernel
theorem dX1_countByTable_26 : decode cX1_countByTable 26 = .ok (.iaload, 1) := by decide +kernel
theorem dX1_countByTable_27 : decode cX1_countByTable 27 = .ok (.iastore, 1) := by decide +kernel
theorem dX1_countByTable_28 : decode cX1_countByTable 28 = .ok (.iinc 4 1, 3) := by decide +kernel
theorem dX1_countByTable_31 : decode cX1_countByTable 31 = .ok (.goto (-23), 3) := by decide +kernel
theorem dX1_countByTable_34 : decode cX1_countByTable 34 = .ok (.iconst 0, 1) := by decide +kernel
theorem dX1_countByTable_35 : decode cX1_countByTable 35 = .ok (.istore 4, 2) := by decide +kernel
theorem dX1_countByTable_37 : decode cX1_countByTable 37 = .ok (.iload 4, 2) := by decide +kernel
theorem dX1_countByTable_39 : decode cX1_countByTable 39 = .ok (.iload_n 3, 1) := by decide +kernel
theorem dX1_countByTable_40 : decode cX1_countByTable 40 = .ok (.if_icmp .ge 56, 3) := by decide +kernel
theorem dX1_countByTable_43 : decode cX1_countByTable 43 = .ok (.iconst 0, 1) := by decide +kernel
theorem dX1_countByTable_44 : decode cX1_countByTable 44 = .ok (.istore 5, 2) := by decide +kernel
theorem dX1_countByTable_46 : decode cX1_countByTable 46 = .ok (.iload 5, 2) := by decide +kernel
theorem dX1_countByTable_48 : decode cX1_countByTable 48 = .ok (.iload_n 3, 1) := by decide +kernel
theorem dX1_countByTable_49 : decode cX1_countByTable 49 = .ok (.if_icmp .ge 41, 3) := by decide +kernel
theorem dX1_countByTable_52 : decode cX1_countByTable 52 = .ok (.aload_n 0, 1) := by decide +kernel
theorem dX1_countByTable_53 : decode cX1_countByTable 53 = .ok (.getfield 9, 3) := by decide +kernel
theorem dX1_countByTable_56 : decode cX1_countByTable 56 = .ok (.iload 5, 2) := by decide +kernel
theorem dX1_countByTable_58 : decode cX1_countByTable 58 = .ok (.iaload, 1) := by decide +kernel
theorem dX1_countByTable_59 : decode cX1_countByTable 59 = .ok (.iload 4, 2) := by decide +kernel
theorem dX1_countByTable_61 : decode cX1_countByTable 61 = .ok (.invokestatic 33, 3) := by decide +kernel
theorem dX1_countByTable_64 : decode cX1_countByTable 64 = .ok (.ifCond .eq 20, 3) := by decide +kernel
theorem dX1_countByTable_67 : decode cX1_countByTable 67 = .ok (.aload_n 0, 1) := by decide +kernel
theorem dX1_countByTable_68 : decode cX1_countByTable 68 = .ok (.getfield 9, 3) := by decide +kernel
theorem dX1_countByTable_71 : decode cX1_countByTable 71 = .ok (.iload 5, 2) := by decide +kernel
theorem dX1_countByTable_73 : decode cX1_countByTable 73 = .ok (.dup2, 1) := by decide +kernel
theorem dX1_countByTable_74 : decode cX1_countByTable 74 = .ok (.iaload, 1) := by decide +kernel
theorem dX1_countByTable_75 : decode cX1_countByTable 75 = .ok (.aload_n 0, 1) := by decide +kernel
theorem dX1_countByTable_76 : decode cX1_countByTable 76 = .ok (.getfield 9, 3) := by decide +kernel
theorem dX1_countByTable_79 : decode cX1_countByTable 79 = .ok (.iload 4, 2) := by decide +kernel
theorem dX1_countByTable_81 : decode cX1_countByTable 81 = .ok (.iaload, 1) := by decide +kernel
theorem dX1_countByTable_82 : decode cX1_countByTable 82 = .ok (.ior, 1) := by decide +kernel
theorem dX1_countByTable_83 : decode cX1_countByTable 83 = .ok (.iastore, 1) := by decide +kernel
theorem dX1_countByTable_84 : decode cX1_countByTable 84 = .ok (.iinc 5 1, 3) := by decide +kernel
theorem dX1_countByTable_87 : decode cX1_countByTable 87 = .ok (.goto (-41), 3) := by decide +kernel
theorem dX1_countByTable_90 : decode cX1_countByTable 90 = .ok (.iinc 4 1, 3) := by decide +kernel
theorem dX1_countByTable_93 : decode cX1_countByTable 93 = .ok (.goto (-56), 3) := by decide +kernel
theorem dX1_countByTable_96 : decode cX1_countByTable 96 = .ok (.aload_n 0, 1) := by decide +kernel
theorem dX1_countByTable_97 : decode cX1_countByTable 97 = .ok (.getfield 9, 3) := by decide +kernel
theorem dX1_countByTable_100 : decode cX1_countByTable 100 = .ok (.iload_n 2, 1) := by decide +kernel
theorem dX1_countByTable_101 : decode cX1_countByTable 101 = .ok (.iaload, 1) := by decide +kernel
theorem dX1_countByTable_102 : decode cX1_countByTable 102 = .ok (.invokestatic 37, 3) := by decide +kernel
theorem dX1_countByTable_105 : decode cX1_countByTable 105 = .ok (.ireturn, 1) := by decide +kernel
theorem dX1_longestFrom_0 : decode cX1_longestFrom 0 = .ok (.iload_n 1, 1) := by decide +kernel
theorem dX1_longestFrom_1 : decode cX1_longestFrom 1 = .ok (.invokestatic 43, 3) := by decide +kernel
theorem dX1_longestFrom_4 : decode cX1_longestFrom 4 = .ok (.istore_n 2, 1) := by decide +kernel
theorem dX1_longestFrom_5 : decode cX1_longestFrom 5 = .ok (.iconst 0, 1) := by decide +kernel
theorem dX1_longestFrom_6 : decode cX1_longestFrom 6 = .ok (.istore_n 3, 1) := by decide +kernel
theorem dX1_longestFrom_7 : decode cX1_longestFrom 7 = .ok (.iload_n 2, 1) := by decide +kernel
theorem dX1_longestFrom_8 : decode cX1_longestFrom 8 = .ok (.ifCond .eq 21, 3) := by decide +kernel
theorem dX1_longestFrom_11 : decode cX1_longestFrom 11 = .ok (.iload_n 3, 1) := by decide +kernel
theorem dX1_longestFrom_12 : decode cX1_longestFrom 12 = .ok (.bipush 20, 2) := by decide +kernel
theorem dX1_longestFrom_14 : decode cX1_longestFrom 14 = .ok (.if_icmp .ge 15, 3) := by decide +kernel
theorem dX1_longestFrom_17 : decode cX1_longestFrom 17 = .ok (.iinc 3 1, 3) := by decide +kernel
theorem dX1_longestFrom_20 : decode cX1_longestFrom 20 = .ok (.aload_n 0, 1) := by decide +kernel
theorem dX1_longestFrom_21 : decode cX1_longestFrom 21 = .ok (.iload_n 2, 1) := by decide +kernel
theorem dX1_longestFrom_22 : decode cX1_longestFrom 22 = .ok (.invokevirtual 46, 3) := by decide +kernel
theorem dX1_longestFrom_25 : decode cX1_longestFrom 25 = .ok (.istore_n 2, 1) := by decide +kernel
theorem dX1_longestFrom_26 : decode cX1_longestFrom 26 = .ok (.goto (-19), 3) := by decide +kernel
theorem dX1_longestFrom_29 : decode cX1_longestFrom 29 = .ok (.iload_n 3, 1) := by decide +kernel
theorem dX1_longestFrom_30 : decode cX1_longestFrom 30 = .ok (.ireturn, 1) := by decide +kernel
theorem dX1_countedPoints_0 : decode cX1_countedPoints 0 = .ok (.aload_n 0, 1) := by decide +kernel
theorem dX1_countedPoints_1 : decode cX1_countedPoints 1 = .ok (.iload_n 1, 1) := by decide +kernel
theorem dX1_countedPoints_2 : decode cX1_countedPoints 2 = .ok (.invokevirtual 49, 3) := by decide +kernel
theorem dX1_countedPoints_5 : decode cX1_countedPoints 5 = .ok (.ifCond .eq 12, 3) := by decide +kernel
theorem dX1_countedPoints_8 : decode cX1_countedPoints 8 = .ok (.aload_n 0, 1) := by decide +kernel
theorem dX1_countedPoints_9 : decode cX1_countedPoints 9 = .ok (.getfield 53, 3) := by decide +kernel
theorem dX1_countedPoints_12 : decode cX1_countedPoints 12 = .ok (.iload_n 1, 1) := by decide +kernel
theorem dX1_countedPoints_13 : decode cX1_countedPoints 13 = .ok (.iaload, 1) := by decide +kernel
theorem dX1_countedPoints_14 : decode cX1_countedPoints 14 = .ok (.goto 4, 3) := by decide +kernel
theorem dX1_countedPoints_17 : decode cX1_countedPoints 17 = .ok (.iconst 0, 1) := by decide +kernel
theorem dX1_countedPoints_18 : decode cX1_countedPoints 18 = .ok (.ireturn, 1) := by decide +kernel
theorem dX1_mostPointsByTrying_0 : decode cX1_mostPointsByTrying 0 = .ok (.iconst 0, 1) := by decide +kernel
theorem dX1_mostPointsByTrying_1 : decode cX1_mostPointsByTrying 1 = .ok (.istore_n 2, 1) := by decide +kernel
theorem dX1_mostPointsByTrying_2 : decode cX1_mostPointsByTrying 2 = .ok (.iload_n 2, 1) := by decide +kernel
theorem dX1_mostPointsByTrying_3 : decode cX1_mostPointsByTrying 3 = .ok (.aload_n 1, 1) := by decide +kernel
theorem dX1_mostPointsByTrying_4 : decode cX1_mostPointsByTrying 4 = .ok (.getfield 24, 3) := by decide +kernel
theorem dX1_mostPointsByTrying_7 : decode cX1_mostPointsByTrying 7 = .ok (.if_icmp .ge 16, 3) := by decide +kernel
theorem dX1_mostPointsByTrying_10 : decode cX1_mostPointsByTrying 10 = .ok (.aload_n 0, 1) := by decide +kernel
theorem dX1_mostPointsByTrying_11 : decode cX1_mostPointsByTrying 11 = .ok (.getfield 15, 3) := by decide +kernel
theorem dX1_mostPointsByTrying_14 : decode cX1_mostPointsByTrying 14 = .ok (.iload_n 2, 1) := by decide +kernel
theorem dX1_mostPointsByTrying_15 : decode cX1_mostPointsByTrying 15 = .ok (.iconst (-1), 1) := by decide +kernel
theorem dX1_mostPointsByTrying_16 : decode cX1_mostPointsByTrying 16 = .ok (.iastore, 1) := by decide +kernel
theorem dX1_mostPointsByTrying_17 : decode cX1_mostPointsByTrying 17 = .ok (.iinc 2 1, 3) := by decide +kernel
theorem dX1_mostPointsByTrying_20 : decode cX1_mostPointsByTrying 20 = .ok (.goto (-18), 3) := by decide +kernel
theorem dX1_mostPointsByTrying_23 : decode cX1_mostPointsByTrying 23 = .ok (.iconst 0, 1) := by decide +kernel
theorem dX1_mostPointsByTrying_24 : decode cX1_mostPointsByTrying 24 = .ok (.istore_n 2, 1) := by decide +kernel
theorem dX1_mostPointsByTrying_25 : decode cX1_mostPointsByTrying 25 = .ok (.iconst 0, 1) := by decide +kernel
theorem dX1_mostPointsByTrying_26 : decode cX1_mostPointsByTrying 26 = .ok (.istore_n 3, 1) := by decide +kernel
theorem dX1_mostPointsByTrying_27 : decode cX1_mostPointsByTrying 27 = .ok (.iload_n 3, 1) := by decide +kernel
theorem dX1_mostPointsByTrying_28 : decode cX1_mostPointsByTrying 28 = .ok (.aload_n 1, 1) := by decide +kernel
theorem dX1_mostPointsByTrying_29 : decode cX1_mostPointsByTrying 29 = .ok (.getfield 24, 3) := by decide +kernel
theorem dX1_mostPointsByTrying_32 : decode cX1_mostPointsByTrying 32 = .ok (.if_icmp .ge 24, 3) := by decide +kernel
theorem dX1_mostPointsByTrying_35 : decode cX1_mostPointsByTrying 35 = .ok (.iload_n 2, 1) := by decide +kernel
theorem dX1_mostPointsByTrying_36 : decode cX1_mostPointsByTrying 36 = .ok (.aload_n 1, 1) := by decide +kernel
theorem dX1_mostPointsByTrying_37 : decode cX1_mostPointsByTrying 37 = .ok (.iload_n 3, 1) := by decide +kernel
theorem dX1_mostPointsByTrying_38 : decode cX1_mostPointsByTrying 38 = .ok (.aload_n 0, 1) := by decide +kernel
theorem dX1_mostPointsByTrying_39 : decode cX1_mostPointsByTrying 39 = .ok (.getfield 15, 3) := by decide +kernel
theorem dX1_mostPointsByTrying_42 : decode cX1_mostPointsByTrying 42 = .ok (.iconst 1, 1) := by decide +kernel
theorem dX1_mostPointsByTrying_43 : decode cX1_mostPointsByTrying 43 = .ok (.invokestatic 56, 3) := by decide +kernel
theorem dX1_mostPointsByTrying_46 : decode cX1_mostPointsByTrying 46 = .ok (.invokestatic 60, 3) := by decide +kernel
theorem dX1_mostPointsByTrying_49 : decode cX1_mostPointsByTrying 49 = .ok (.istore_n 2, 1) := by decide +kernel
theorem dX1_mostPointsByTrying_50 : decode cX1_mostPointsByTrying 50 = .ok (.iinc 3 1, 3) := by decide +kernel
theorem dX1_mostPointsByTrying_53 : decode cX1_mostPointsByTrying 53 = .ok (.goto (-26), 3) := by decide +kernel
theorem dX1_mostPointsByTrying_56 : decode cX1_mostPointsByTrying 56 = .ok (.iload_n 2, 1) := by decide +kernel
theorem dX1_mostPointsByTrying_57 : decode cX1_mostPointsByTrying 57 = .ok (.ireturn, 1) := by decide +kernel
theorem dX1_tryFrom_0 : decode cX1_tryFrom 0 = .ok (.aload_n 2, 1) := by decide +kernel
theorem dX1_tryFrom_1 : decode cX1_tryFrom 1 = .ok (.iload_n 1, 1) := by decide +kernel
theorem dX1_tryFrom_2 : decode cX1_tryFrom 2 = .ok (.iaload, 1) := by decide +kernel
theorem dX1_tryFrom_3 : decode cX1_tryFrom 3 = .ok (.iconst (-1), 1) := by decide +kernel
theorem dX1_tryFrom_4 : decode cX1_tryFrom 4 = .ok (.if_icmp .eq 7, 3) := by decide +kernel
theorem dX1_tryFrom_7 : decode cX1_tryFrom 7 = .ok (.aload_n 2, 1) := by decide +kernel
theorem dX1_tryFrom_8 : decode cX1_tryFrom 8 = .ok (.iload_n 1, 1) := by decide +kernel
theorem dX1_tryFrom_9 : decode cX1_tryFrom 9 = .ok (.iaload, 1) := by decide +kernel
theorem dX1_tryFrom_10 : decode cX1_tryFrom 10 = .ok (.ireturn, 1) := by decide +kernel
theorem dX1_tryFrom_11 : decode cX1_tryFrom 11 = .ok (.iconst 0, 1) := by decide +kernel
theorem dX1_tryFrom_12 : decode cX1_tryFrom 12 = .ok (.istore 4, 2) := by decide +kernel
theorem dX1_tryFrom_14 : decode cX1_tryFrom 14 = .ok (.iconst 0, 1) := by decide +kernel
theorem dX1_tryFrom_15 : decode cX1_tryFrom 15 = .ok (.istore 5, 2) := by decide +kernel
theorem dX1_tryFrom_17 : decode cX1_tryFrom 17 = .ok (.iload 5, 2) := by decide +kernel
theorem dX1_tryFrom_19 : decode cX1_tryFrom 19 = .ok (.aload_n 0, 1) := by decide +kernel
theorem dX1_tryFrom_20 : decode cX1_tryFrom 20 = .ok (.getfield 24, 3) := by decide +kernel
theorem dX1_tryFrom_23 : decode cX1_tryFrom 23 = .ok (.if_icmp .ge 42, 3) := by decide +kernel
theorem dX1_tryFrom_26 : decode cX1_tryFrom 26 = .ok (.iload_n 3, 1) := by decide +kernel
theorem dX1_tryFrom_27 : decode cX1_tryFrom 27 = .ok (.bipush 20, 2) := by decide +kernel
theorem dX1_tryFrom_29 : decode cX1_tryFrom 29 = .ok (.if_icmp .ge 36, 3) := by decide +kernel
theorem dX1_tryFrom_32 : decode cX1_tryFrom 32 = .ok (.aload_n 0, 1) := by decide +kernel
theorem dX1_tryFrom_33 : decode cX1_tryFrom 33 = .ok (.iload_n 1, 1) := by decide +kernel
theorem dX1_tryFrom_34 : decode cX1_tryFrom 34 = .ok (.iload 5, 2) := by decide +kernel
theorem dX1_tryFrom_36 : decode cX1_tryFrom 36 = .ok (.invokevirtual 66, 3) := by decide +kernel
theorem dX1_tryFrom_39 : decode cX1_tryFrom 39 = .ok (.ifCond .eq 20, 3) := by decide +kernel
theorem dX1_tryFrom_42 : decode cX1_tryFrom 42 = .ok (.iload 4, 2) := by decide +kernel
theorem dX1_tryFrom_44 : decode cX1_tryFrom 44 = .ok (.aload_n 0, 1) := by decide +kernel
theorem dX1_tryFrom_45 : decode cX1_tryFrom 45 = .ok (.iload 5, 2) := by decide +kernel
theorem dX1_tryFrom_47 : decode cX1_tryFrom 47 = .ok (.aload_n 2, 1) := by decide +kernel
theorem dX1_tryFrom_48 : decode cX1_tryFrom 48 = .ok (.iload_n 3, 1) := by decide +kernel
theorem dX1_tryFrom_49 : decode cX1_tryFrom 49 = .ok (.iconst 1, 1) := by decide +kernel
theorem dX1_tryFrom_50 : decode cX1_tryFrom 50 = .ok (.iadd, 1) := by decide +kernel
theorem dX1_tryFrom_51 : decode cX1_tryFrom 51 = .ok (.invokestatic 56, 3) := by decide +kernel
theorem dX1_tryFrom_54 : decode cX1_tryFrom 54 = .ok (.invokestatic 60, 3) := by decide +kernel
theorem dX1_tryFrom_57 : decode cX1_tryFrom 57 = .ok (.istore 4, 2) := by decide +kernel
theorem dX1_tryFrom_59 : decode cX1_tryFrom 59 = .ok (.iinc 5 1, 3) := by decide +kernel
theorem dX1_tryFrom_62 : decode cX1_tryFrom 62 = .ok (.goto (-45), 3) := by decide +kernel
theorem dX1_tryFrom_65 : decode cX1_tryFrom 65 = .ok (.aload_n 2, 1) := by decide +kernel
theorem dX1_tryFrom_66 : decode cX1_tryFrom 66 = .ok (.iload_n 1, 1) := by decide +kernel
theorem dX1_tryFrom_67 : decode cX1_tryFrom 67 = .ok (.aload_n 0, 1) := by decide +kernel
theorem dX1_tryFrom_68 : decode cX1_tryFrom 68 = .ok (.iload_n 1, 1) := by decide +kernel
theorem dX1_tryFrom_69 : decode cX1_tryFrom 69 = .ok (.invokestatic 69, 3) := by decide +kernel
theorem dX1_tryFrom_72 : decode cX1_tryFrom 72 = .ok (.iload 4, 2) := by decide +kernel
theorem dX1_tryFrom_74 : decode cX1_tryFrom 74 = .ok (.iadd, 1) := by decide +kernel
theorem dX1_tryFrom_75 : decode cX1_tryFrom 75 = .ok (.iastore, 1) := by decide +kernel
theorem dX1_tryFrom_76 : decode cX1_tryFrom 76 = .ok (.aload_n 2, 1) := by decide +kernel
theorem dX1_tryFrom_77 : decode cX1_tryFrom 77 = .ok (.iload_n 1, 1) := by decide +kernel
theorem dX1_tryFrom_78 : decode cX1_tryFrom 78 = .ok (.iaload, 1) := by decide +kernel
theorem dX1_tryFrom_79 : decode cX1_tryFrom 79 = .ok (.ireturn, 1) := by decide +kernel
theorem dX1_mostPointsByOrder_0 : decode cX1_mostPointsByOrder 0 = .ok (.iconst 0, 1) := by decide +kernel
theorem dX1_mostPointsByOrder_1 : decode cX1_mostPointsByOrder 1 = .ok (.istore_n 2, 1) := by decide +kernel
theorem dX1_mostPointsByOrder_2 : decode cX1_mostPointsByOrder 2 = .ok (.iconst 0, 1) := by decide +kernel
theorem dX1_mostPointsByOrder_3 : decode cX1_mostPointsByOrder 3 = .ok (.istore_n 3, 1) := by decide +kernel
theorem dX1_mostPointsByOrder_4 : decode cX1_mostPointsByOrder 4 = .ok (.iconst 0, 1) := by decide +kernel
theorem dX1_mostPointsByOrder_5 : decode cX1_mostPointsByOrder 5 = .ok (.istore 4, 2) := by decide +kernel
theorem dX1_mostPointsByOrder_7 : decode cX1_mostPointsByOrder 7 = .ok (.iload 4, 2) := by decide +kernel
theorem dX1_mostPointsByOrder_9 : decode cX1_mostPointsByOrder 9 = .ok (.aload_n 1, 1) := by decide +kernel
theorem dX1_mostPointsByOrder_10 : decode cX1_mostPointsByOrder 10 = .ok (.getfield 24, 3) := by decide +kernel
theorem dX1_mostPointsByOrder_13 : decode cX1_mostPointsByOrder 13 = .ok (.if_icmp .ge 65, 3) := by decide +kernel
theorem dX1_mostPointsByOrder_16 : decode cX1_mostPointsByOrder 16 = .ok (.aload_n 1, 1) := by decide +kernel
theorem dX1_mostPointsByOrder_17 : decode cX1_mostPointsByOrder 17 = .ok (.iload_n 3, 1) := by decide +kernel
theorem dX1_mostPointsByOrder_18 : decode cX1_mostPointsByOrder 18 = .ok (.invokestatic 73, 3) := by decide +kernel
theorem dX1_mostPointsByOrder_21 : decode cX1_mostPointsByOrder 21 = .ok (.istore 5, 2) := by decide +kernel
theorem dX1_mostPointsByOrder_23 : decode cX1_mostPointsByOrder 23 = .ok (.iload 5, 2) := by decide +kernel
theorem dX1_mostPointsByOrder_25 : decode cX1_mostPointsByOrder 25 = .ok (.iconst (-1), 1) := by decide +kernel
theorem dX1_mostPointsByOrder_26 : decode cX1_mostPointsByOrder 26 = .ok (.if_icmp .ne 5, 3) := by decide +kernel
theorem dX1_mostPointsByOrder_29 : decode cX1_mostPointsByOrder 29 = .ok (.iload_n 2, 1) := by decide +kernel
theorem dX1_mostPointsByOrder_30 : decode cX1_mostPointsByOrder 30 = .ok (.ireturn, 1) := by decide +kernel
theorem dX1_mostPointsByOrder_31 : decode cX1_mostPointsByOrder 31 = .ok (.aload_n 0, 1) := by decide +kernel
theorem dX1_mostPointsByOrder_32 : decode cX1_mostPointsByOrder 32 = .ok (.getfield 18, 3) := by decide +kernel
theorem dX1_mostPointsByOrder_35 : decode cX1_mostPointsByOrder 35 = .ok (.iload 5, 2) := by decide +kernel
theorem dX1_mostPointsByOrder_37 : decode cX1_mostPointsByOrder 37 = .ok (.aload_n 1, 1) := by decide +kernel
theorem dX1_mostPointsByOrder_38 : decode cX1_mostPointsByOrder 38 = .ok (.iload 5, 2) := by decide +kernel
theorem dX1_mostPointsByOrder_40 : decode cX1_mostPointsByOrder 40 = .ok (.invokestatic 69, 3) := by decide +kernel
theorem dX1_mostPointsByOrder_43 : decode cX1_mostPointsByOrder 43 = .ok (.aload_n 0, 1) := by decide +kernel
theorem dX1_mostPointsByOrder_44 : decode cX1_mostPointsByOrder 44 = .ok (.aload_n 1, 1) := by decide +kernel
theorem dX1_mostPointsByOrder_45 : decode cX1_mostPointsByOrder 45 = .ok (.iload 5, 2) := by decide +kernel
theorem dX1_mostPointsByOrder_47 : decode cX1_mostPointsByOrder 47 = .ok (.invokevirtual 76, 3) := by decide +kernel
theorem dX1_mostPointsByOrder_50 : decode cX1_mostPointsByOrder 50 = .ok (.iadd, 1) := by decide +kernel
theorem dX1_mostPointsByOrder_51 : decode cX1_mostPointsByOrder 51 = .ok (.iastore, 1) := by decide +kernel
theorem dX1_mostPointsByOrder_52 : decode cX1_mostPointsByOrder 52 = .ok (.iload_n 2, 1) := by decide +kernel
theorem dX1_mostPointsByOrder_53 : decode cX1_mostPointsByOrder 53 = .ok (.aload_n 0, 1) := by decide +kernel
theorem dX1_mostPointsByOrder_54 : decode cX1_mostPointsByOrder 54 = .ok (.getfield 18, 3) := by decide +kernel
theorem dX1_mostPointsByOrder_57 : decode cX1_mostPointsByOrder 57 = .ok (.iload 5, 2) := by decide +kernel
theorem dX1_mostPointsByOrder_59 : decode cX1_mostPointsByOrder 59 = .ok (.iaload, 1) := by decide +kernel
theorem dX1_mostPointsByOrder_60 : decode cX1_mostPointsByOrder 60 = .ok (.invokestatic 60, 3) := by decide +kernel
theorem dX1_mostPointsByOrder_63 : decode cX1_mostPointsByOrder 63 = .ok (.istore_n 2, 1) := by decide +kernel
theorem dX1_mostPointsByOrder_64 : decode cX1_mostPointsByOrder 64 = .ok (.iload_n 3, 1) := by decide +kernel
theorem dX1_mostPointsByOrder_65 : decode cX1_mostPointsByOrder 65 = .ok (.iload 5, 2) := by decide +kernel
theorem dX1_mostPointsByOrder_67 : decode cX1_mostPointsByOrder 67 = .ok (.invokestatic 43, 3) := by decide +kernel
theorem dX1_mostPointsByOrder_70 : decode cX1_mostPointsByOrder 70 = .ok (.ior, 1) := by decide +kernel
theorem dX1_mostPointsByOrder_71 : decode cX1_mostPointsByOrder 71 = .ok (.istore_n 3, 1) := by decide +kernel
theorem dX1_mostPointsByOrder_72 : decode cX1_mostPointsByOrder 72 = .ok (.iinc 4 1, 3) := by decide +kernel
theorem dX1_mostPointsByOrder_75 : decode cX1_mostPointsByOrder 75 = .ok (.goto (-68), 3) := by decide +kernel
theorem dX1_mostPointsByOrder_78 : decode cX1_mostPointsByOrder 78 = .ok (.iload_n 2, 1) := by decide +kernel
theorem dX1_mostPointsByOrder_79 : decode cX1_mostPointsByOrder 79 = .ok (.ireturn, 1) := by decide +kernel
theorem dX1_placeable_0 : decode cX1_placeable 0 = .ok (.iconst 0, 1) := by decide +kernel
theorem dX1_placeable_1 : decode cX1_placeable 1 = .ok (.istore_n 2, 1) := by decide +kernel
theorem dX1_placeable_2 : decode cX1_placeable 2 = .ok (.iload_n 2, 1) := by decide +kernel
theorem dX1_placeable_3 : decode cX1_placeable 3 = .ok (.aload_n 0, 1) := by decide +kernel
theorem dX1_placeable_4 : decode cX1_placeable 4 = .ok (.getfield 24, 3) := by decide +kernel
theorem dX1_placeable_7 : decode cX1_placeable 7 = .ok (.if_icmp .ge 32, 3) := by decide +kernel
theorem dX1_placeable_10 : decode cX1_placeable 10 = .ok (.iload_n 1, 1) := by decide +kernel
theorem dX1_placeable_11 : decode cX1_placeable 11 = .ok (.iload_n 2, 1) := by decide +kernel
theorem dX1_placeable_12 : decode cX1_placeable 12 = .ok (.invokestatic 33, 3) := by decide +kernel
theorem dX1_placeable_15 : decode cX1_placeable 15 = .ok (.ifCond .ne 18, 3) := by decide +kernel
theorem dX1_placeable_18 : decode cX1_placeable 18 = .ok (.aload_n 0, 1) := by decide +kernel
theorem dX1_placeable_19 : decode cX1_placeable 19 = .ok (.getfield 30, 3) := by decide +kernel
theorem dX1_placeable_22 : decode cX1_placeable 22 = .ok (.iload_n 2, 1) := by decide +kernel
theorem dX1_placeable_23 : decode cX1_placeable 23 = .ok (.iaload, 1) := by decide +kernel
theorem dX1_placeable_24 : decode cX1_placeable 24 = .ok (.iload_n 1, 1) := by decide +kernel
theorem dX1_placeable_25 : decode cX1_placeable 25 = .ok (.iconst (-1), 1) := by decide +kernel
theorem dX1_placeable_26 : decode cX1_placeable 26 = .ok (.ixor, 1) := by decide +kernel
theorem dX1_placeable_27 : decode cX1_placeable 27 = .ok (.iand, 1) := by decide +kernel
theorem dX1_placeable_28 : decode cX1_placeable 28 = .ok (.ifCond .ne 5, 3) := by decide +kernel
theorem dX1_placeable_31 : decode cX1_placeable 31 = .ok (.iload_n 2, 1) := by decide +kernel
theorem dX1_placeable_32 : decode cX1_placeable 32 = .ok (.ireturn, 1) := by decide +kernel
theorem dX1_placeable_33 : decode cX1_placeable 33 = .ok (.iinc 2 1, 3) := by decide +kernel
theorem dX1_placeable_36 : decode cX1_placeable 36 = .ok (.goto (-34), 3) := by decide +kernel
theorem dX1_placeable_39 : decode cX1_placeable 39 = .ok (.iconst (-1), 1) := by decide +kernel
theorem dX1_placeable_40 : decode cX1_placeable 40 = .ok (.ireturn, 1) := by decide +kernel
theorem dX1_bestNeeded_0 : decode cX1_bestNeeded 0 = .ok (.iconst 0, 1) := by decide +kernel
theorem dX1_bestNeeded_1 : decode cX1_bestNeeded 1 = .ok (.istore_n 3, 1) := by decide +kernel
theorem dX1_bestNeeded_2 : decode cX1_bestNeeded 2 = .ok (.iconst 0, 1) := by decide +kernel
theorem dX1_bestNeeded_3 : decode cX1_bestNeeded 3 = .ok (.istore 4, 2) := by decide +kernel
theorem dX1_bestNeeded_5 : decode cX1_bestNeeded 5 = .ok (.iload 4, 2) := by decide +kernel
theorem dX1_bestNeeded_7 : decode cX1_bestNeeded 7 = .ok (.aload_n 1, 1) := by decide +kernel
theorem dX1_bestNeeded_8 : decode cX1_bestNeeded 8 = .ok (.getfield 24, 3) := by decide +kernel
theorem dX1_bestNeeded_11 : decode cX1_bestNeeded 11 = .ok (.if_icmp .ge 31, 3) := by decide +kernel
theorem dX1_bestNeeded_14 : decode cX1_bestNeeded 14 = .ok (.aload_n 1, 1) := by decide +kernel
theorem dX1_bestNeeded_15 : decode cX1_bestNeeded 15 = .ok (.iload_n 2, 1) := by decide +kernel
theorem dX1_bestNeeded_16 : decode cX1_bestNeeded 16 = .ok (.iload 4, 2) := by decide +kernel
theorem dX1_bestNeeded_18 : decode cX1_bestNeeded 18 = .ok (.invokevirtual 66, 3) := by decide +kernel
theorem dX1_bestNeeded_21 : decode cX1_bestNeeded 21 = .ok (.ifCond .eq 15, 3) := by decide +kernel
theorem dX1_bestNeeded_24 : decode cX1_bestNeeded 24 = .ok (.iload_n 3, 1) := by decide +kernel
theorem dX1_bestNeeded_25 : decode cX1_bestNeeded 25 = .ok (.aload_n 0, 1) := by decide +kernel
theorem dX1_bestNeeded_26 : decode cX1_bestNeeded 26 = .ok (.getfield 18, 3) := by decide +kernel
theorem dX1_bestNeeded_29 : decode cX1_bestNeeded 29 = .ok (.iload 4, 2) := by decide +kernel
theorem dX1_bestNeeded_31 : decode cX1_bestNeeded 31 = .ok (.iaload, 1) := by decide +kernel
theorem dX1_bestNeeded_32 : decode cX1_bestNeeded 32 = .ok (.invokestatic 60, 3) := by decide +kernel
theorem dX1_bestNeeded_35 : decode cX1_bestNeeded 35 = .ok (.istore_n 3, 1) := by decide +kernel
theorem dX1_bestNeeded_36 : decode cX1_bestNeeded 36 = .ok (.iinc 4 1, 3) := by decide +kernel
theorem dX1_bestNeeded_39 : decode cX1_bestNeeded 39 = .ok (.goto (-34), 3) := by decide +kernel
theorem dX1_bestNeeded_42 : decode cX1_bestNeeded 42 = .ok (.iload_n 3, 1) := by decide +kernel
theorem dX1_bestNeeded_43 : decode cX1_bestNeeded 43 = .ok (.ireturn, 1) := by decide +kernel
theorem dX3_init_0 : decode cX3_init 0 = .ok (.aload_n 0, 1) := by decide +kernel
theorem dX3_init_1 : decode cX3_init 1 = .ok (.invokespecial 3, 3) := by decide +kernel
theorem dX3_init_4 : decode cX3_init 4 = .ok (.aload_n 0, 1) := by decide +kernel
theorem dX3_init_5 : decode cX3_init 5 = .ok (.bipush 6, 2) := by decide +kernel
theorem dX3_init_7 : decode cX3_init 7 = .ok (.anewarray 9, 3) := by decide +kernel
theorem dX3_init_10 : decode cX3_init 10 = .ok (.putfield 11, 3) := by decide +kernel
theorem dX3_init_13 : decode cX3_init 13 = .ok (.aload_n 0, 1) := by decide +kernel
theorem dX3_init_14 : decode cX3_init 14 = .ok (.iconst 2, 1) := by decide +kernel
theorem dX3_init_15 : decode cX3_init 15 = .ok (.anewarray 9, 3) := by decide +kernel
theorem dX3_init_18 : decode cX3_init 18 = .ok (.putfield 17, 3) := by decide +kernel
theorem dX3_init_21 : decode cX3_init 21 = .ok (.aload_n 0, 1) := by decide +kernel
theorem dX3_init_22 : decode cX3_init 22 = .ok (.iconst 2, 1) := by decide +kernel
theorem dX3_init_23 : decode cX3_init 23 = .ok (.newarray .boolean, 2) := by decide +kernel
theorem dX3_init_25 : decode cX3_init 25 = .ok (.putfield 20, 3) := by decide +kernel
theorem dX3_init_28 : decode cX3_init 28 = .ok (.iconst 0, 1) := by decide +kernel
theorem dX3_init_29 : decode cX3_init 29 = .ok (.istore_n 1, 1) := by decide +kernel
theorem dX3_init_30 : decode cX3_init 30 = .ok (.iload_n 1, 1) := by decide +kernel
theorem dX3_init_31 : decode cX3_init 31 = .ok (.bipush 6, 2) := by decide +kernel
theorem dX3_init_33 : decode cX3_init 33 = .ok (.if_icmp .ge 22, 3) := by decide +kernel
theorem dX3_init_36 : decode cX3_init 36 = .ok (.aload_n 0, 1) := by decide +kernel
theorem dX3_init_37 : decode cX3_init 37 = .ok (.getfield 11, 3) := by decide +kernel
theorem dX3_init_40 : decode cX3_init 40 = .ok (.iload_n 1, 1) := by decide +kernel
theorem dX3_init_41 : decode cX3_init 41 = .ok (.new 9, 3) := by decide +kernel
theorem dX3_init_44 : decode cX3_init 44 = .ok (.dup, 1) := by decide +kernel
theorem dX3_init_45 : decode cX3_init 45 = .ok (.invokespecial 24, 3) := by decide +kernel
theorem dX3_init_48 : decode cX3_init 48 = .ok (.aastore, 1) := by decide +kernel
theorem dX3_init_49 : decode cX3_init 49 = .ok (.iinc 1 1, 3) := by decide +kernel
theorem dX3_init_52 : decode cX3_init 52 = .ok (.goto (-22), 3) := by decide +kernel
theorem dX3_init_55 : decode cX3_init 55 = .ok (.iconst 0, 1) := by decide +kernel
theorem dX3_init_56 : decode cX3_init 56 = .ok (.istore_n 1, 1) := by decide +kernel
theorem dX3_init_57 : decode cX3_init 57 = .ok (.iload_n 1, 1) := by decide +kernel
theorem dX3_init_58 : decode cX3_init 58 = .ok (.iconst 2, 1) := by decide +kernel
theorem dX3_init_59 : decode cX3_init 59 = .ok (.if_icmp .ge 22, 3) := by decide +kernel
theorem dX3_init_62 : decode cX3_init 62 = .ok (.aload_n 0, 1) := by decide +kernel
theorem dX3_init_63 : decode cX3_init 63 = .ok (.getfield 17, 3) := by decide +kernel
theorem dX3_init_66 : decode cX3_init 66 = .ok (.iload_n 1, 1) := by decide +kernel
theorem dX3_init_67 : decode cX3_init 67 = .ok (.new 9, 3) := by decide +kernel
theorem dX3_init_70 : decode cX3_init 70 = .ok (.dup, 1) := by decide +kernel
theorem dX3_init_71 : decode cX3_init 71 = .ok (.invokespecial 24, 3) := by decide +kernel
theorem dX3_init_74 : decode cX3_init 74 = .ok (.aastore, 1) := by decide +kernel
theorem dX3_init_75 : decode cX3_init 75 = .ok (.iinc 1 1, 3) := by decide +kernel
theorem dX3_init_78 : decode cX3_init 78 = .ok (.goto (-21), 3) := by decide +kernel
theorem dX3_init_81 : decode cX3_init 81 = .ok (.return_, 1) := by decide +kernel
theorem dX3_savedCount_0 : decode cX3_savedCount 0 = .ok (.aload_n 0, 1) := by decide +kernel
theorem dX3_savedCount_1 : decode cX3_savedCount 1 = .ok (.getfield 25, 3) := by decide +kernel
theorem dX3_savedCount_4 : decode cX3_savedCount 4 = .ok (.ireturn, 1) := by decide +kernel
theorem dX3_save_0 : decode cX3_save 0 = .ok (.aload_n 0, 1) := by decide +kernel
theorem dX3_save_1 : decode cX3_save 1 = .ok (.getfield 25, 3) := by decide +kernel
theorem dX3_save_4 : decode cX3_save 4 = .ok (.bipush 6, 2) := by decide +kernel
theorem dX3_save_6 : decode cX3_save 6 = .ok (.if_icmp .ne 26, 3) := by decide +kernel
theorem dX3_save_9 : decode cX3_save 9 = .ok (.aload_n 0, 1) := by decide +kernel
theorem dX3_save_10 : decode cX3_save 10 = .ok (.aload_n 0, 1) := by decide +kernel
theorem dX3_save_11 : decode cX3_save 11 = .ok (.getfield 29, 3) := by decide +kernel
theorem dX3_save_14 : decode cX3_save 14 = .ok (.iconst 1, 1) := by decide +kernel
theorem dX3_save_15 : decode cX3_save 15 = .ok (.iadd, 1) := by decide +kernel
theorem dX3_save_16 : decode cX3_save 16 = .ok (.bipush 6, 2) := by decide +kernel
theorem dX3_save_18 : decode cX3_save 18 = .ok (.irem, 1) := by decide +kernel
theorem dX3_save_19 : decode cX3_save 19 = .ok (.putfield 29, 3) := by decide +kernel
theorem dX3_save_22 : decode cX3_save 22 = .ok (.aload_n 0, 1) := by decide +kernel
theorem dX3_save_23 : decode cX3_save 23 = .ok (.dup, 1) := by decide +kernel
theorem dX3_save_24 : decode cX3_save 24 = .ok (.getfield 25, 3) := by decide +kernel
theorem dX3_save_27 : decode cX3_save 27 = .ok (.iconst 1, 1) := by decide +kernel
theorem dX3_save_28 : decode cX3_save 28 = .ok (.isub, 1) := by decide +kernel
theorem dX3_save_29 : decode cX3_save 29 = .ok (.putfield 25, 3) := by decide +kernel
theorem dX3_save_32 : decode cX3_save 32 = .ok (.aload_n 0, 1) := by decide +kernel
theorem dX3_save_33 : decode cX3_save 33 = .ok (.getfield 11, 3) := by decide +kernel
theorem dX3_save_36 : decode cX3_save 36 = .ok (.aload_n 0, 1) := by decide +kernel
theorem dX3_save_37 : decode cX3_save 37 = .ok (.getfield 29, 3) := by decide +kernel
theorem dX3_save_40 : decode cX3_save 40 = .ok (.aload_n 0, 1) := by decide +kernel
theorem dX3_save_41 : decode cX3_save 41 = .ok (.getfield 25, 3) := by decide +kernel
theorem dX3_save_44 : decode cX3_save 44 = .ok (.iadd, 1) := by decide +kernel
theorem dX3_save_45 : decode cX3_save 45 = .ok (.bipush 6, 2) := by decide +kernel
theorem dX3_save_47 : decode cX3_save 47 = .ok (.irem, 1) := by decide +kernel
theorem dX3_save_48 : decode cX3_save 48 = .ok (.aaload, 1) := by decide +kernel
theorem dX3_save_49 : decode cX3_save 49 = .ok (.aload_n 1, 1) := by decide +kernel
theorem dX3_save_50 : decode cX3_save 50 = .ok (.invokevirtual 32, 3) := by decide +kernel
theorem dX3_save_53 : decode cX3_save 53 = .ok (.aload_n 0, 1) := by decide +kernel
theorem dX3_save_54 : decode cX3_save 54 = .ok (.dup, 1) := by decide +kernel
theorem dX3_save_55 : decode cX3_save 55 = .ok (.getfield 25, 3) := by decide +kernel
theorem dX3_save_58 : decode cX3_save 58 = .ok (.iconst 1, 1) := by decide +kernel
theorem dX3_save_59 : decode cX3_save 59 = .ok (.iadd, 1) := by decide +kernel
theorem dX3_save_60 : decode cX3_save 60 = .ok (.putfield 25, 3) := by decide +kernel
theorem dX3_save_63 : decode cX3_save 63 = .ok (.return_, 1) := by decide +kernel
theorem dX3_restoreSaved_0 : decode cX3_restoreSaved 0 = .ok (.aload_n 0, 1) := by decide +kernel
theorem dX3_restoreSaved_1 : decode cX3_restoreSaved 1 = .ok (.dup, 1) := by decide +kernel
theorem dX3_restoreSaved_2 : decode cX3_restoreSaved 2 = .ok (.getfield 25, 3) := by decide +kernel
theorem dX3_restoreSaved_5 : decode cX3_restoreSaved 5 = .ok (.iconst 1, 1) := by decide +kernel
theorem dX3_restoreSaved_6 : decode cX3_restoreSaved 6 = .ok (.isub, 1) := by decide +kernel
theorem dX3_restoreSaved_7 : decode cX3_restoreSaved 7 = .ok (.putfield 25, 3) := by decide +kernel
theorem dX3_restoreSaved_10 : decode cX3_restoreSaved 10 = .ok (.aload_n 1, 1) := by decide +kernel
theorem dX3_restoreSaved_11 : decode cX3_restoreSaved 11 = .ok (.aload_n 0, 1) := by decide +kernel
theorem dX3_restoreSaved_12 : decode cX3_restoreSaved 12 = .ok (.getfield 11, 3) := by decide +kernel
theorem dX3_restoreSaved_15 : decode cX3_restoreSaved 15 = .ok (.aload_n 0, 1) := by decide +kernel
theorem dX3_restoreSaved_16 : decode cX3_restoreSaved 16 = .ok (.getfield 29, 3) := by decide +kernel
theorem dX3_restoreSaved_19 : decode cX3_restoreSaved 19 = .ok (.aload_n 0, 1) := by decide +kernel
theorem dX3_restoreSaved_20 : decode cX3_restoreSaved 20 = .ok (.getfield 25, 3) := by decide +kernel
theorem dX3_restoreSaved_23 : decode cX3_restoreSaved 23 = .ok (.iadd, 1) := by decide +kernel
theorem dX3_restoreSaved_24 : decode cX3_restoreSaved 24 = .ok (.bipush 6, 2) := by decide +kernel
theorem dX3_restoreSaved_26 : decode cX3_restoreSaved 26 = .ok (.irem, 1) := by decide +kernel
theorem dX3_restoreSaved_27 : decode cX3_restoreSaved 27 = .ok (.aaload, 1) := by decide +kernel
theorem dX3_restoreSaved_28 : decode cX3_restoreSaved 28 = .ok (.invokevirtual 32, 3) := by decide +kernel
theorem dX3_restoreSaved_31 : decode cX3_restoreSaved 31 = .ok (.return_, 1) := by decide +kernel
theorem dX4_init_0 : decode cX4_init 0 = .ok (.aload_n 0, 1) := by decide +kernel
theorem dX4_init_1 : decode cX4_init 1 = .ok (.invokespecial 3, 3) := by decide +kernel
theorem dX4_init_4 : decode cX4_init 4 = .ok (.aload_n 0, 1) := by decide +kernel
theorem dX4_init_5 : decode cX4_init 5 = .ok (.bipush 60, 2) := by decide +kernel
theorem dX4_init_7 : decode cX4_init 7 = .ok (.newarray .char, 2) := by decide +kernel
theorem dX4_init_9 : decode cX4_init 9 = .ok (.putfield 9, 3) := by decide +kernel
theorem dX4_init_12 : decode cX4_init 12 = .ok (.aload_n 0, 1) := by decide +kernel
theorem dX4_init_13 : decode cX4_init 13 = .ok (.bipush 20, 2) := by decide +kernel
theorem dX4_init_15 : decode cX4_init 15 = .ok (.newarray .char, 2) := by decide +kernel
theorem dX4_init_17 : decode cX4_init 17 = .ok (.putfield 15, 3) := by decide +kernel
theorem dX4_init_20 : decode cX4_init 20 = .ok (.aload_n 0, 1) := by decide +kernel
theorem dX4_init_21 : decode cX4_init 21 = .ok (.bipush 20, 2) := by decide +kernel
theorem dX4_init_23 : decode cX4_init 23 = .ok (.newarray .int, 2) := by decide +kernel
theorem dX4_init_25 : decode cX4_init 25 = .ok (.putfield 18, 3) := by decide +kernel
theorem dX4_init_28 : decode cX4_init 28 = .ok (.aload_n 0, 1) := by decide +kernel
theorem dX4_init_29 : decode cX4_init 29 = .ok (.bipush 20, 2) := by decide +kernel
theorem dX4_init_31 : decode cX4_init 31 = .ok (.newarray .int, 2) := by decide +kernel
theorem dX4_init_33 : decode cX4_init 33 = .ok (.putfield 22, 3) := by decide +kernel
theorem dX4_init_36 : decode cX4_init 36 = .ok (.return_, 1) := by decide +kernel
theorem dX5_loadOf_0 : decode cX5_loadOf 0 = .ok (.aload_n 0, 1) := by decide +kernel
theorem dX5_loadOf_1 : decode cX5_loadOf 1 = .ok (.aload_n 0, 1) := by decide +kernel
theorem dX5_loadOf_2 : decode cX5_loadOf 2 = .ok (.iload_n 1, 1) := by decide +kernel
theorem dX5_loadOf_3 : decode cX5_loadOf 3 = .ok (.invokevirtual 9, 3) := by decide +kernel
theorem dX5_loadOf_6 : decode cX5_loadOf 6 = .ok (.aload_n 0, 1) := by decide +kernel
theorem dX5_loadOf_7 : decode cX5_loadOf 7 = .ok (.invokevirtual 15, 3) := by decide +kernel
theorem dX5_loadOf_10 : decode cX5_loadOf 10 = .ok (.iand, 1) := by decide +kernel
theorem dX5_loadOf_11 : decode cX5_loadOf 11 = .ok (.invokevirtual 19, 3) := by decide +kernel
theorem dX5_loadOf_14 : decode cX5_loadOf 14 = .ok (.ireturn, 1) := by decide +kernel
theorem dX5_leftFor_0 : decode cX5_leftFor 0 = .ok (.aload_n 0, 1) := by decide +kernel
theorem dX5_leftFor_1 : decode cX5_leftFor 1 = .ok (.aload_n 0, 1) := by decide +kernel
theorem dX5_leftFor_2 : decode cX5_leftFor 2 = .ok (.iload_n 1, 1) := by decide +kernel
theorem dX5_leftFor_3 : decode cX5_leftFor 3 = .ok (.invokevirtual 43, 3) := by decide +kernel
theorem dX5_leftFor_6 : decode cX5_leftFor 6 = .ok (.aload_n 0, 1) := by decide +kernel
theorem dX5_leftFor_7 : decode cX5_leftFor 7 = .ok (.invokevirtual 15, 3) := by decide +kernel
theorem dX5_leftFor_10 : decode cX5_leftFor 10 = .ok (.iand, 1) := by decide +kernel
theorem dX5_leftFor_11 : decode cX5_leftFor 11 = .ok (.invokevirtual 19, 3) := by decide +kernel
theorem dX5_leftFor_14 : decode cX5_leftFor 14 = .ok (.ireturn, 1) := by decide +kernel
theorem dX5_doneFor_0 : decode cX5_doneFor 0 = .ok (.aload_n 0, 1) := by decide +kernel
theorem dX5_doneFor_1 : decode cX5_doneFor 1 = .ok (.aload_n 0, 1) := by decide +kernel
theorem dX5_doneFor_2 : decode cX5_doneFor 2 = .ok (.iload_n 1, 1) := by decide +kernel
theorem dX5_doneFor_3 : decode cX5_doneFor 3 = .ok (.invokevirtual 43, 3) := by decide +kernel
theorem dX5_doneFor_6 : decode cX5_doneFor 6 = .ok (.aload_n 0, 1) := by decide +kernel
theorem dX5_doneFor_7 : decode cX5_doneFor 7 = .ok (.iconst 3, 1) := by decide +kernel
theorem dX5_doneFor_8 : decode cX5_doneFor 8 = .ok (.invokevirtual 22, 3) := by decide +kernel
theorem dX5_doneFor_11 : decode cX5_doneFor 11 = .ok (.iand, 1) := by decide +kernel
theorem dX5_doneFor_12 : decode cX5_doneFor 12 = .ok (.invokevirtual 19, 3) := by decide +kernel
theorem dX5_doneFor_15 : decode cX5_doneFor 15 = .ok (.ireturn, 1) := by decide +kernel
theorem dX5_hundredthsFor_0 : decode cX5_hundredthsFor 0 = .ok (.aload_n 0, 1) := by decide +kernel
theorem dX5_hundredthsFor_1 : decode cX5_hundredthsFor 1 = .ok (.iload_n 1, 1) := by decide +kernel
theorem dX5_hundredthsFor_2 : decode cX5_hundredthsFor 2 = .ok (.invokestatic 46, 3) := by decide +kernel
theorem dX5_hundredthsFor_5 : decode cX5_hundredthsFor 5 = .ok (.istore_n 2, 1) := by decide +kernel
theorem dX5_hundredthsFor_6 : decode cX5_hundredthsFor 6 = .ok (.iload_n 2, 1) := by decide +kernel
theorem dX5_hundredthsFor_7 : decode cX5_hundredthsFor 7 = .ok (.aload_n 0, 1) := by decide +kernel
theorem dX5_hundredthsFor_8 : decode cX5_hundredthsFor 8 = .ok (.iload_n 1, 1) := by decide +kernel
theorem dX5_hundredthsFor_9 : decode cX5_hundredthsFor 9 = .ok (.invokestatic 49, 3) := by decide +kernel
theorem dX5_hundredthsFor_12 : decode cX5_hundredthsFor 12 = .ok (.iadd, 1) := by decide +kernel
theorem dX5_hundredthsFor_13 : decode cX5_hundredthsFor 13 = .ok (.istore_n 3, 1) := by decide +kernel
theorem dX5_hundredthsFor_14 : decode cX5_hundredthsFor 14 = .ok (.iload_n 3, 1) := by decide +kernel
theorem dX5_hundredthsFor_15 : decode cX5_hundredthsFor 15 = .ok (.ifCond .ne 8, 3) := by decide +kernel
theorem dX5_hundredthsFor_18 : decode cX5_hundredthsFor 18 = .ok (.bipush 100, 2) := by decide +kernel
theorem dX5_hundredthsFor_20 : decode cX5_hundredthsFor 20 = .ok (.goto 9, 3) := by decide +kernel
theorem dX5_hundredthsFor_23 : decode cX5_hundredthsFor 23 = .ok (.iload_n 2, 1) := by decide +kernel
theorem dX5_hundredthsFor_24 : decode cX5_hundredthsFor 24 = .ok (.bipush 100, 2) := by decide +kernel
theorem dX5_hundredthsFor_26 : decode cX5_hundredthsFor 26 = .ok (.imul, 1) := by decide +kernel
theorem dX5_hundredthsFor_27 : decode cX5_hundredthsFor 27 = .ok (.iload_n 3, 1) := by decide +kernel
theorem dX5_hundredthsFor_28 : decode cX5_hundredthsFor 28 = .ok (.idiv, 1) := by decide +kernel
theorem dX5_hundredthsFor_29 : decode cX5_hundredthsFor 29 = .ok (.ireturn, 1) := by decide +kernel
theorem dX5_isOverdue_0 : decode cX5_isOverdue 0 = .ok (.aload_n 0, 1) := by decide +kernel
theorem dX5_isOverdue_1 : decode cX5_isOverdue 1 = .ok (.getfield 52, 3) := by decide +kernel
theorem dX5_isOverdue_4 : decode cX5_isOverdue 4 = .ok (.aload_n 0, 1) := by decide +kernel
theorem dX5_isOverdue_5 : decode cX5_isOverdue 5 = .ok (.getfield 56, 3) := by decide +kernel
theorem dX5_isOverdue_8 : decode cX5_isOverdue 8 = .ok (.iload_n 1, 1) := by decide +kernel
theorem dX5_isOverdue_9 : decode cX5_isOverdue 9 = .ok (.iaload, 1) := by decide +kernel
theorem dX5_isOverdue_10 : decode cX5_isOverdue 10 = .ok (.if_icmp .le 15, 3) := by decide +kernel
theorem dX5_isOverdue_13 : decode cX5_isOverdue 13 = .ok (.aload_n 0, 1) := by decide +kernel
theorem dX5_isOverdue_14 : decode cX5_isOverdue 14 = .ok (.iload_n 1, 1) := by decide +kernel
theorem dX5_isOverdue_15 : decode cX5_isOverdue 15 = .ok (.invokestatic 49, 3) := by decide +kernel
theorem dX5_isOverdue_18 : decode cX5_isOverdue 18 = .ok (.ifCond .le 7, 3) := by decide +kernel
theorem dX5_isOverdue_21 : decode cX5_isOverdue 21 = .ok (.iconst 1, 1) := by decide +kernel
theorem dX5_isOverdue_22 : decode cX5_isOverdue 22 = .ok (.goto 4, 3) := by decide +kernel
theorem dX5_isOverdue_25 : decode cX5_isOverdue 25 = .ok (.iconst 0, 1) := by decide +kernel
theorem dX5_isOverdue_26 : decode cX5_isOverdue 26 = .ok (.ireturn, 1) := by decide +kernel
theorem dX5_overdueMilestones_0 : decode cX5_overdueMilestones 0 = .ok (.iconst 0, 1) := by decide +kernel
theorem dX5_overdueMilestones_1 : decode cX5_overdueMilestones 1 = .ok (.istore_n 1, 1) := by decide +kernel
theorem dX5_overdueMilestones_2 : decode cX5_overdueMilestones 2 = .ok (.iconst 0, 1) := by decide +kernel
theorem dX5_overdueMilestones_3 : decode cX5_overdueMilestones 3 = .ok (.istore_n 2, 1) := by decide +kernel
theorem dX5_overdueMilestones_4 : decode cX5_overdueMilestones 4 = .ok (.iload_n 2, 1) := by decide +kernel
theorem dX5_overdueMilestones_5 : decode cX5_overdueMilestones 5 = .ok (.iconst 4, 1) := by decide +kernel
theorem dX5_overdueMilestones_6 : decode cX5_overdueMilestones 6 = .ok (.if_icmp .ge 20, 3) := by decide +kernel
theorem dX5_overdueMilestones_9 : decode cX5_overdueMilestones 9 = .ok (.aload_n 0, 1) := by decide +kernel
theorem dX5_overdueMilestones_10 : decode cX5_overdueMilestones 10 = .ok (.iload_n 2, 1) := by decide +kernel
theorem dX5_overdueMilestones_11 : decode cX5_overdueMilestones 11 = .ok (.invokestatic 59, 3) := by decide +kernel
theorem dX5_overdueMilestones_14 : decode cX5_overdueMilestones 14 = .ok (.ifCond .eq 6, 3) := by decide +kernel
theorem dX5_overdueMilestones_17 : decode cX5_overdueMilestones 17 = .ok (.iinc 1 1, 3) := by decide +kernel
theorem dX5_overdueMilestones_20 : decode cX5_overdueMilestones 20 = .ok (.iinc 2 1, 3) := by decide +kernel
theorem dX5_overdueMilestones_23 : decode cX5_overdueMilestones 23 = .ok (.goto (-19), 3) := by decide +kernel
theorem dX5_overdueMilestones_26 : decode cX5_overdueMilestones 26 = .ok (.iload_n 1, 1) := by decide +kernel
theorem dX5_overdueMilestones_27 : decode cX5_overdueMilestones 27 = .ok (.ireturn, 1) := by decide +kernel
theorem dX5_blockedAndUnfinished_0 : decode cX5_blockedAndUnfinished 0 = .ok (.aload_n 0, 1) := by decide +kernel
theorem dX5_blockedAndUnfinished_1 : decode cX5_blockedAndUnfinished 1 = .ok (.invokevirtual 69, 3) := by decide +kernel
theorem dX5_blockedAndUnfinished_4 : decode cX5_blockedAndUnfinished 4 = .ok (.aload_n 0, 1) := by decide +kernel
theorem dX5_blockedAndUnfinished_5 : decode cX5_blockedAndUnfinished 5 = .ok (.invokevirtual 15, 3) := by decide +kernel
theorem dX5_blockedAndUnfinished_8 : decode cX5_blockedAndUnfinished 8 = .ok (.iand, 1) := by decide +kernel
theorem dX5_blockedAndUnfinished_9 : decode cX5_blockedAndUnfinished 9 = .ok (.invokestatic 25, 3) := by decide +kernel
theorem dX5_blockedAndUnfinished_12 : decode cX5_blockedAndUnfinished 12 = .ok (.ireturn, 1) := by decide +kernel
theorem dX5_closedInWeek_0 : decode cX5_closedInWeek 0 = .ok (.iconst 0, 1) := by decide +kernel
theorem dX5_closedInWeek_1 : decode cX5_closedInWeek 1 = .ok (.istore_n 1, 1) := by decide +kernel
theorem dX5_closedInWeek_2 : decode cX5_closedInWeek 2 = .ok (.iconst 0, 1) := by decide +kernel
theorem dX5_closedInWeek_3 : decode cX5_closedInWeek 3 = .ok (.istore_n 2, 1) := by decide +kernel
theorem dX5_closedInWeek_4 : decode cX5_closedInWeek 4 = .ok (.iload_n 2, 1) := by decide +kernel
theorem dX5_closedInWeek_5 : decode cX5_closedInWeek 5 = .ok (.aload_n 0, 1) := by decide +kernel
theorem dX5_closedInWeek_6 : decode cX5_closedInWeek 6 = .ok (.getfield 72, 3) := by decide +kernel
theorem dX5_closedInWeek_9 : decode cX5_closedInWeek 9 = .ok (.if_icmp .ge 44, 3) := by decide +kernel
theorem dX5_closedInWeek_12 : decode cX5_closedInWeek 12 = .ok (.aload_n 0, 1) := by decide +kernel
theorem dX5_closedInWeek_13 : decode cX5_closedInWeek 13 = .ok (.getfield 75, 3) := by decide +kernel
theorem dX5_closedInWeek_16 : decode cX5_closedInWeek 16 = .ok (.iload_n 2, 1) := by decide +kernel
theorem dX5_closedInWeek_17 : decode cX5_closedInWeek 17 = .ok (.iaload, 1) := by decide +kernel
theorem dX5_closedInWeek_18 : decode cX5_closedInWeek 18 = .ok (.iconst 3, 1) := by decide +kernel
theorem dX5_closedInWeek_19 : decode cX5_closedInWeek 19 = .ok (.if_icmp .ne 28, 3) := by decide +kernel
theorem dX5_closedInWeek_22 : decode cX5_closedInWeek 22 = .ok (.aload_n 0, 1) := by decide +kernel
theorem dX5_closedInWeek_23 : decode cX5_closedInWeek 23 = .ok (.getfield 78, 3) := by decide +kernel
theorem dX5_closedInWeek_26 : decode cX5_closedInWeek 26 = .ok (.iload_n 2, 1) := by decide +kernel
theorem dX5_closedInWeek_27 : decode cX5_closedInWeek 27 = .ok (.iaload, 1) := by decide +kernel
theorem dX5_closedInWeek_28 : decode cX5_closedInWeek 28 = .ok (.aload_n 0, 1) := by decide +kernel
theorem dX5_closedInWeek_29 : decode cX5_closedInWeek 29 = .ok (.getfield 52, 3) := by decide +kernel
theorem dX5_closedInWeek_32 : decode cX5_closedInWeek 32 = .ok (.bipush 6, 2) := by decide +kernel
theorem dX5_closedInWeek_34 : decode cX5_closedInWeek 34 = .ok (.isub, 1) := by decide +kernel
theorem dX5_closedInWeek_35 : decode cX5_closedInWeek 35 = .ok (.if_icmp .lt 12, 3) := by decide +kernel
theorem dX5_closedInWeek_38 : decode cX5_closedInWeek 38 = .ok (.iload_n 1, 1) := by decide +kernel
theorem dX5_closedInWeek_39 : decode cX5_closedInWeek 39 = .ok (.aload_n 0, 1) := by decide +kernel
theorem dX5_closedInWeek_40 : decode cX5_closedInWeek 40 = .ok (.getfield 81, 3) := by decide +kernel
theorem dX5_closedInWeek_43 : decode cX5_closedInWeek 43 = .ok (.iload_n 2, 1) := by decide +kernel
theorem dX5_closedInWeek_44 : decode cX5_closedInWeek 44 = .ok (.iaload, 1) := by decide +kernel
theorem dX5_closedInWeek_45 : decode cX5_closedInWeek 45 = .ok (.iadd, 1) := by decide +kernel
theorem dX5_closedInWeek_46 : decode cX5_closedInWeek 46 = .ok (.istore_n 1, 1) := by decide +kernel
theorem dX5_closedInWeek_47 : decode cX5_closedInWeek 47 = .ok (.iinc 2 1, 3) := by decide +kernel
theorem dX5_closedInWeek_50 : decode cX5_closedInWeek 50 = .ok (.goto (-46), 3) := by decide +kernel
theorem dX5_closedInWeek_53 : decode cX5_closedInWeek 53 = .ok (.iload_n 1, 1) := by decide +kernel
theorem dX5_closedInWeek_54 : decode cX5_closedInWeek 54 = .ok (.ireturn, 1) := by decide +kernel
theorem dX5_meanProgress_0 : decode cX5_meanProgress 0 = .ok (.iconst 0, 1) := by decide +kernel
theorem dX5_meanProgress_1 : decode cX5_meanProgress 1 = .ok (.istore_n 1, 1) := by decide +kernel
theorem dX5_meanProgress_2 : decode cX5_meanProgress 2 = .ok (.iconst 0, 1) := by decide +kernel
theorem dX5_meanProgress_3 : decode cX5_meanProgress 3 = .ok (.istore_n 2, 1) := by decide +kernel
theorem dX5_meanProgress_4 : decode cX5_meanProgress 4 = .ok (.iconst 0, 1) := by decide +kernel
theorem dX5_meanProgress_5 : decode cX5_meanProgress 5 = .ok (.istore_n 3, 1) := by decide +kernel
theorem dX5_meanProgress_6 : decode cX5_meanProgress 6 = .ok (.iload_n 3, 1) := by decide +kernel
theorem dX5_meanProgress_7 : decode cX5_meanProgress 7 = .ok (.aload_n 0, 1) := by decide +kernel
theorem dX5_meanProgress_8 : decode cX5_meanProgress 8 = .ok (.getfield 72, 3) := by decide +kernel
theorem dX5_meanProgress_11 : decode cX5_meanProgress 11 = .ok (.if_icmp .ge 31, 3) := by decide +kernel
theorem dX5_meanProgress_14 : decode cX5_meanProgress 14 = .ok (.aload_n 0, 1) := by decide +kernel
theorem dX5_meanProgress_15 : decode cX5_meanProgress 15 = .ok (.getfield 75, 3) := by decide +kernel
theorem dX5_meanProgress_18 : decode cX5_meanProgress 18 = .ok (.iload_n 3, 1) := by decide +kernel
theorem dX5_meanProgress_19 : decode cX5_meanProgress 19 = .ok (.iaload, 1) := by decide +kernel
theorem dX5_meanProgress_20 : decode cX5_meanProgress 20 = .ok (.iconst 3, 1) := by decide +kernel
theorem dX5_meanProgress_21 : decode cX5_meanProgress 21 = .ok (.if_icmp .ne 15, 3) := by decide +kernel
theorem dX5_meanProgress_24 : decode cX5_meanProgress 24 = .ok (.iinc 1 1, 3) := by decide +kernel
theorem dX5_meanProgress_27 : decode cX5_meanProgress 27 = .ok (.iload_n 2, 1) := by decide +kernel
theorem dX5_meanProgress_28 : decode cX5_meanProgress 28 = .ok (.aload_n 0, 1) := by decide +kernel
theorem dX5_meanProgress_29 : decode cX5_meanProgress 29 = .ok (.getfield 84, 3) := by decide +kernel
theorem dX5_meanProgress_32 : decode cX5_meanProgress 32 = .ok (.iload_n 3, 1) := by decide +kernel
theorem dX5_meanProgress_33 : decode cX5_meanProgress 33 = .ok (.iaload, 1) := by decide +kernel
theorem dX5_meanProgress_34 : decode cX5_meanProgress 34 = .ok (.iadd, 1) := by decide +kernel
theorem dX5_meanProgress_35 : decode cX5_meanProgress 35 = .ok (.istore_n 2, 1) := by decide +kernel
theorem dX5_meanProgress_36 : decode cX5_meanProgress 36 = .ok (.iinc 3 1, 3) := by decide +kernel
theorem dX5_meanProgress_39 : decode cX5_meanProgress 39 = .ok (.goto (-33), 3) := by decide +kernel
theorem dX5_meanProgress_42 : decode cX5_meanProgress 42 = .ok (.iload_n 1, 1) := by decide +kernel
theorem dX5_meanProgress_43 : decode cX5_meanProgress 43 = .ok (.ifCond .ne 7, 3) := by decide +kernel
theorem dX5_meanProgress_46 : decode cX5_meanProgress 46 = .ok (.dconst 0, 1) := by decide +kernel
theorem dX5_meanProgress_47 : decode cX5_meanProgress 47 = .ok (.goto 8, 3) := by decide +kernel
theorem dX5_meanProgress_50 : decode cX5_meanProgress 50 = .ok (.iload_n 2, 1) := by decide +kernel
theorem dX5_meanProgress_51 : decode cX5_meanProgress 51 = .ok (.i2d, 1) := by decide +kernel
theorem dX5_meanProgress_52 : decode cX5_meanProgress 52 = .ok (.iload_n 1, 1) := by decide +kernel
theorem dX5_meanProgress_53 : decode cX5_meanProgress 53 = .ok (.i2d, 1) := by decide +kernel
theorem dX5_meanProgress_54 : decode cX5_meanProgress 54 = .ok (.ddiv, 1) := by decide +kernel
theorem dX5_meanProgress_55 : decode cX5_meanProgress 55 = .ok (.dreturn, 1) := by decide +kernel
theorem dJ6_bitCount_0f7a4_0 : decode cJ6_bitCount_0f7a4 0 = .ok (.iload_n 0, 1) := by decide +kernel
theorem dJ6_bitCount_0f7a4_1 : decode cJ6_bitCount_0f7a4 1 = .ok (.iload_n 0, 1) := by decide +kernel
theorem dJ6_bitCount_0f7a4_2 : decode cJ6_bitCount_0f7a4 2 = .ok (.iconst 1, 1) := by decide +kernel
theorem dJ6_bitCount_0f7a4_3 : decode cJ6_bitCount_0f7a4 3 = .ok (.iushr, 1) := by decide +kernel
theorem dJ6_bitCount_0f7a4_4 : decode cJ6_bitCount_0f7a4 4 = .ok (.ldc_w 265, 3) := by decide +kernel
theorem dJ6_bitCount_0f7a4_7 : decode cJ6_bitCount_0f7a4 7 = .ok (.iand, 1) := by decide +kernel
theorem dJ6_bitCount_0f7a4_8 : decode cJ6_bitCount_0f7a4 8 = .ok (.isub, 1) := by decide +kernel
theorem dJ6_bitCount_0f7a4_9 : decode cJ6_bitCount_0f7a4 9 = .ok (.istore_n 0, 1) := by decide +kernel
theorem dJ6_bitCount_0f7a4_10 : decode cJ6_bitCount_0f7a4 10 = .ok (.iload_n 0, 1) := by decide +kernel
theorem dJ6_bitCount_0f7a4_11 : decode cJ6_bitCount_0f7a4 11 = .ok (.ldc_w 266, 3) := by decide +kernel
theorem dJ6_bitCount_0f7a4_14 : decode cJ6_bitCount_0f7a4 14 = .ok (.iand, 1) := by decide +kernel
theorem dJ6_bitCount_0f7a4_15 : decode cJ6_bitCount_0f7a4 15 = .ok (.iload_n 0, 1) := by decide +kernel
theorem dJ6_bitCount_0f7a4_16 : decode cJ6_bitCount_0f7a4 16 = .ok (.iconst 2, 1) := by decide +kernel
theorem dJ6_bitCount_0f7a4_17 : decode cJ6_bitCount_0f7a4 17 = .ok (.iushr, 1) := by decide +kernel
theorem dJ6_bitCount_0f7a4_18 : decode cJ6_bitCount_0f7a4 18 = .ok (.ldc_w 266, 3) := by decide +kernel
theorem dJ6_bitCount_0f7a4_21 : decode cJ6_bitCount_0f7a4 21 = .ok (.iand, 1) := by decide +kernel
theorem dJ6_bitCount_0f7a4_22 : decode cJ6_bitCount_0f7a4 22 = .ok (.iadd, 1) := by decide +kernel
theorem dJ6_bitCount_0f7a4_23 : decode cJ6_bitCount_0f7a4 23 = .ok (.istore_n 0, 1) := by decide +kernel
theorem dJ6_bitCount_0f7a4_24 : decode cJ6_bitCount_0f7a4 24 = .ok (.iload_n 0, 1) := by decide +kernel
theorem dJ6_bitCount_0f7a4_25 : decode cJ6_bitCount_0f7a4 25 = .ok (.iload_n 0, 1) := by decide +kernel
theorem dJ6_bitCount_0f7a4_26 : decode cJ6_bitCount_0f7a4 26 = .ok (.iconst 4, 1) := by decide +kernel
theorem dJ6_bitCount_0f7a4_27 : decode cJ6_bitCount_0f7a4 27 = .ok (.iushr, 1) := by decide +kernel
theorem dJ6_bitCount_0f7a4_28 : decode cJ6_bitCount_0f7a4 28 = .ok (.iadd, 1) := by decide +kernel
theorem dJ6_bitCount_0f7a4_29 : decode cJ6_bitCount_0f7a4 29 = .ok (.ldc_w 267, 3) := by decide +kernel
theorem dJ6_bitCount_0f7a4_32 : decode cJ6_bitCount_0f7a4 32 = .ok (.iand, 1) := by decide +kernel
theorem dJ6_bitCount_0f7a4_33 : decode cJ6_bitCount_0f7a4 33 = .ok (.istore_n 0, 1) := by decide +kernel
theorem dJ6_bitCount_0f7a4_34 : decode cJ6_bitCount_0f7a4 34 = .ok (.iload_n 0, 1) := by decide +kernel
theorem dJ6_bitCount_0f7a4_35 : decode cJ6_bitCount_0f7a4 35 = .ok (.iload_n 0, 1) := by decide +kernel
theorem dJ6_bitCount_0f7a4_36 : decode cJ6_bitCount_0f7a4 36 = .ok (.bipush 8, 2) := by decide +kernel
theorem dJ6_bitCount_0f7a4_38 : decode cJ6_bitCount_0f7a4 38 = .ok (.iushr, 1) := by decide +kernel
theorem dJ6_bitCount_0f7a4_39 : decode cJ6_bitCount_0f7a4 39 = .ok (.iadd, 1) := by decide +kernel
theorem dJ6_bitCount_0f7a4_40 : decode cJ6_bitCount_0f7a4 40 = .ok (.istore_n 0, 1) := by decide +kernel
theorem dJ6_bitCount_0f7a4_41 : decode cJ6_bitCount_0f7a4 41 = .ok (.iload_n 0, 1) := by decide +kernel
theorem dJ6_bitCount_0f7a4_42 : decode cJ6_bitCount_0f7a4 42 = .ok (.iload_n 0, 1) := by decide +kernel
theorem dJ6_bitCount_0f7a4_43 : decode cJ6_bitCount_0f7a4 43 = .ok (.bipush 16, 2) := by decide +kernel
theorem dJ6_bitCount_0f7a4_45 : decode cJ6_bitCount_0f7a4 45 = .ok (.iushr, 1) := by decide +kernel
theorem dJ6_bitCount_0f7a4_46 : decode cJ6_bitCount_0f7a4 46 = .ok (.iadd, 1) := by decide +kernel
theorem dJ6_bitCount_0f7a4_47 : decode cJ6_bitCount_0f7a4 47 = .ok (.istore_n 0, 1) := by decide +kernel
theorem dJ6_bitCount_0f7a4_48 : decode cJ6_bitCount_0f7a4 48 = .ok (.iload_n 0, 1) := by decide +kernel
theorem dJ6_bitCount_0f7a4_49 : decode cJ6_bitCount_0f7a4 49 = .ok (.bipush 63, 2) := by decide +kernel
theorem dJ6_bitCount_0f7a4_51 : decode cJ6_bitCount_0f7a4 51 = .ok (.iand, 1) := by decide +kernel
theorem dJ6_bitCount_0f7a4_52 : decode cJ6_bitCount_0f7a4 52 = .ok (.ireturn, 1) := by decide +kernel
theorem dJ9_max_7cf53_0 : decode cJ9_max_7cf53 0 = .ok (.iload_n 0, 1) := by decide +kernel
theorem dJ9_max_7cf53_1 : decode cJ9_max_7cf53 1 = .ok (.iload_n 1, 1) := by decide +kernel
theorem dJ9_max_7cf53_2 : decode cJ9_max_7cf53 2 = .ok (.if_icmp .lt 7, 3) := by decide +kernel
theorem dJ9_max_7cf53_5 : decode cJ9_max_7cf53 5 = .ok (.iload_n 0, 1) := by decide +kernel
theorem dJ9_max_7cf53_6 : decode cJ9_max_7cf53 6 = .ok (.goto 4, 3) := by decide +kernel
theorem dJ9_max_7cf53_9 : decode cJ9_max_7cf53 9 = .ok (.iload_n 1, 1) := by decide +kernel
theorem dJ9_max_7cf53_10 : decode cJ9_max_7cf53 10 = .ok (.ireturn, 1) := by decide +kernel
theorem dJ9_min_7cf53_0 : decode cJ9_min_7cf53 0 = .ok (.iload_n 0, 1) := by decide +kernel
theorem dJ9_min_7cf53_1 : decode cJ9_min_7cf53 1 = .ok (.iload_n 1, 1) := by decide +kernel
theorem dJ9_min_7cf53_2 : decode cJ9_min_7cf53 2 = .ok (.if_icmp .gt 7, 3) := by decide +kernel
theorem dJ9_min_7cf53_5 : decode cJ9_min_7cf53 5 = .ok (.iload_n 0, 1) := by decide +kernel
theorem dJ9_min_7cf53_6 : decode cJ9_min_7cf53 6 = .ok (.goto 4, 3) := by decide +kernel
theorem dJ9_min_7cf53_9 : decode cJ9_min_7cf53 9 = .ok (.iload_n 1, 1) := by decide +kernel
theorem dJ9_min_7cf53_10 : decode cJ9_min_7cf53 10 = .ok (.ireturn, 1) := by decide +kernel
