theorem dL_law_0 : decode cL_law 0 = .ok (.new 8, 3) := by decide +kernel
theorem dL_law_3 : decode cL_law 3 = .ok (.dup, 1) := by decide +kernel
theorem dL_law_4 : decode cL_law 4 = .ok (.invokespecial 195, 3) := by decide +kernel
theorem dL_law_7 : decode cL_law 7 = .ok (.astore_n 1, 1) := by decide +kernel
theorem dL_law_8 : decode cL_law 8 = .ok (.new 196, 3) := by decide +kernel
theorem dL_law_11 : decode cL_law 11 = .ok (.dup, 1) := by decide +kernel
theorem dL_law_12 : decode cL_law 12 = .ok (.invokespecial 198, 3) := by decide +kernel
theorem dL_law_15 : decode cL_law 15 = .ok (.astore_n 2, 1) := by decide +kernel
theorem dL_law_16 : decode cL_law 16 = .ok (.iconst 1, 1) := by decide +kernel
theorem dL_law_17 : decode cL_law 17 = .ok (.newarray .long, 2) := by decide +kernel
theorem dL_law_19 : decode cL_law 19 = .ok (.astore_n 3, 1) := by decide +kernel
theorem dL_law_20 : decode cL_law 20 = .ok (.iconst 0, 1) := by decide +kernel
theorem dL_law_21 : decode cL_law 21 = .ok (.istore 4, 2) := by decide +kernel
theorem dL_law_23 : decode cL_law 23 = .ok (.iload 4, 2) := by decide +kernel
theorem dL_law_25 : decode cL_law 25 = .ok (.aload_n 0, 1) := by decide +kernel
theorem dL_law_26 : decode cL_law 26 = .ok (.arraylength, 1) := by decide +kernel
theorem dL_law_27 : decode cL_law 27 = .ok (.iconst 3, 1) := by decide +kernel
theorem dL_law_28 : decode cL_law 28 = .ok (.isub, 1) := by decide +kernel
theorem dL_law_29 : decode cL_law 29 = .ok (.if_icmp .gt 3817, 3) := by decide +kernel
theorem dL_law_32 : decode cL_law 32 = .ok (.aload_n 0, 1) := by decide +kernel
theorem dL_law_33 : decode cL_law 33 = .ok (.iload 4, 2) := by decide +kernel
theorem dL_law_35 : decode cL_law 35 = .ok (.iaload, 1) := by decide +kernel
theorem dL_law_36 : decode cL_law 36 = .ok (.bipush 127, 2) := by decide +kernel
theorem dL_law_38 : decode cL_law 38 = .ok (.iand, 1) := by decide +kernel
theorem dL_law_39 : decode cL_law 39 = .ok (.tableswitch 3801 0 73 #[309, 377, 445, 513, 581, 649, 717, 773, 841, 909, 965, 1033, 1089, 1125, 1161, 1217, 1273, 1329, 1385, 1441, 1454, 1467, 1511, 1555, 1591, 1627, 1651, 1664, 1677, 1733, 1789, 1845, 1908, 1964, 2027, 2083, 2139, 2195, 2251, 2307, 2382, 2438, 2494, 2557, 2613, 2669, 2725, 2781, 2794, 2807, 2863, 2919, 2975, 3031, 3087, 3100, 3156, 3212, 3268, 3324, 3387, 3443, 3456, 3500, 3556, 3569, 3625, 3681, 3694, 3707, 3720, 3733, 3746, 3787], 309) := by decide +kernel
theorem dL_law_3840 : decode cL_law 3840 = .ok (.iinc 4 3, 3) := by decide +kernel
theorem dL_law_3843 : decode cL_law 3843 = .ok (.goto (-3820), 3) := by decide +kernel
theorem dL_law_3846 : decode cL_law 3846 = .ok (.iconst 1, 1) := by decide +kernel
theorem dL_law_3847 : decode cL_law 3847 = .ok (.ireturn, 1) := by decide +kernel
