theorem dX7_init_0 : decode cX7_init 0 = .ok (.aload_n 0, 1) := by decide +kernel
theorem dX7_init_1 : decode cX7_init 1 = .ok (.invokespecial 1, 3) := by decide +kernel
theorem dX7_init_4 : decode cX7_init 4 = .ok (.aload_n 0, 1) := by decide +kernel
theorem dX7_init_5 : decode cX7_init 5 = .ok (.sipush 1560, 3) := by decide +kernel
theorem dX7_init_8 : decode cX7_init 8 = .ok (.newarray .int, 2) := by decide +kernel
theorem dX7_init_10 : decode cX7_init 10 = .ok (.putfield 7, 3) := by decide +kernel
theorem dX7_init_13 : decode cX7_init 13 = .ok (.aload_n 0, 1) := by decide +kernel
theorem dX7_init_14 : decode cX7_init 14 = .ok (.iconst 2, 1) := by decide +kernel
theorem dX7_init_15 : decode cX7_init 15 = .ok (.newarray .boolean, 2) := by decide +kernel
theorem dX7_init_17 : decode cX7_init 17 = .ok (.putfield 13, 3) := by decide +kernel
theorem dX7_init_20 : decode cX7_init 20 = .ok (.aload_n 0, 1) := by decide +kernel
theorem dX7_init_21 : decode cX7_init 21 = .ok (.bipush 60, 2) := by decide +kernel
theorem dX7_init_23 : decode cX7_init 23 = .ok (.newarray .int, 2) := by decide +kernel
theorem dX7_init_25 : decode cX7_init 25 = .ok (.putfield 17, 3) := by decide +kernel
theorem dX7_init_28 : decode cX7_init 28 = .ok (.aload_n 0, 1) := by decide +kernel
theorem dX7_init_29 : decode cX7_init 29 = .ok (.bipush 6, 2) := by decide +kernel
theorem dX7_init_31 : decode cX7_init 31 = .ok (.newarray .int, 2) := by decide +kernel
theorem dX7_init_33 : decode cX7_init 33 = .ok (.putfield 20, 3) := by decide +kernel
theorem dX7_init_36 : decode cX7_init 36 = .ok (.aload_n 0, 1) := by decide +kernel
theorem dX7_init_37 : decode cX7_init 37 = .ok (.getfield 7, 3) := by decide +kernel
theorem dX7_init_40 : decode cX7_init 40 = .ok (.bipush 24, 2) := by decide +kernel
theorem dX7_init_42 : decode cX7_init 42 = .ok (.iconst 1, 1) := by decide +kernel
theorem dX7_init_43 : decode cX7_init 43 = .ok (.iastore, 1) := by decide +kernel
theorem dX7_init_44 : decode cX7_init 44 = .ok (.iconst 0, 1) := by decide +kernel
theorem dX7_init_45 : decode cX7_init 45 = .ok (.istore_n 1, 1) := by decide +kernel
theorem dX7_init_46 : decode cX7_init 46 = .ok (.iload_n 1, 1) := by decide +kernel
theorem dX7_init_47 : decode cX7_init 47 = .ok (.iconst 4, 1) := by decide +kernel
theorem dX7_init_48 : decode cX7_init 48 = .ok (.if_icmp .ge 41, 3) := by decide +kernel
theorem dX7_init_51 : decode cX7_init 51 = .ok (.aload_n 0, 1) := by decide +kernel
theorem dX7_init_52 : decode cX7_init 52 = .ok (.getfield 7, 3) := by decide +kernel
theorem dX7_init_55 : decode cX7_init 55 = .ok (.bipush 8, 2) := by decide +kernel
theorem dX7_init_57 : decode cX7_init 57 = .ok (.iload_n 1, 1) := by decide +kernel
theorem dX7_init_58 : decode cX7_init 58 = .ok (.iadd, 1) := by decide +kernel
theorem dX7_init_59 : decode cX7_init 59 = .ok (.bipush 100, 2) := by decide +kernel
theorem dX7_init_61 : decode cX7_init 61 = .ok (.iastore, 1) := by decide +kernel
theorem dX7_init_62 : decode cX7_init 62 = .ok (.aload_n 0, 1) := by decide +kernel
theorem dX7_init_63 : decode cX7_init 63 = .ok (.getfield 7, 3) := by decide +kernel
theorem dX7_init_66 : decode cX7_init 66 = .ok (.bipush 12, 2) := by decide +kernel
theorem dX7_init_68 : decode cX7_init 68 = .ok (.iload_n 1, 1) := by decide +kernel
theorem dX7_init_69 : decode cX7_init 69 = .ok (.iadd, 1) := by decide +kernel
theorem dX7_init_70 : decode cX7_init 70 = .ok (.bipush 100, 2) := by decide +kernel
theorem dX7_init_72 : decode cX7_init 72 = .ok (.iastore, 1) := by decide +kernel
theorem dX7_init_73 : decode cX7_init 73 = .ok (.aload_n 0, 1) := by decide +kernel
theorem dX7_init_74 : decode cX7_init 74 = .ok (.iload_n 1, 1) := by decide +kernel
theorem dX7_init_75 : decode cX7_init 75 = .ok (.iload_n 1, 1) := by decide +kernel
theorem dX7_init_76 : decode cX7_init 76 = .ok (.bipush 100, 2) := by decide +kernel
theorem dX7_init_78 : decode cX7_init 78 = .ok (.iconst 0, 1) := by decide +kernel
theorem dX7_init_79 : decode cX7_init 79 = .ok (.iconst 0, 1) := by decide +kernel
theorem dX7_init_80 : decode cX7_init 80 = .ok (.invokevirtual 23, 3) := by decide +kernel
theorem dX7_init_83 : decode cX7_init 83 = .ok (.iinc 1 1, 3) := by decide +kernel
theorem dX7_init_86 : decode cX7_init 86 = .ok (.goto (-40), 3) := by decide +kernel
theorem dX7_init_89 : decode cX7_init 89 = .ok (.iconst 0, 1) := by decide +kernel
theorem dX7_init_90 : decode cX7_init 90 = .ok (.istore_n 1, 1) := by decide +kernel
theorem dX7_init_91 : decode cX7_init 91 = .ok (.iload_n 1, 1) := by decide +kernel
theorem dX7_init_92 : decode cX7_init 92 = .ok (.bipush 6, 2) := by decide +kernel
theorem dX7_init_94 : decode cX7_init 94 = .ok (.if_icmp .ge 37, 3) := by decide +kernel
theorem dX7_init_97 : decode cX7_init 97 = .ok (.aload_n 0, 1) := by decide +kernel
theorem dX7_init_98 : decode cX7_init 98 = .ok (.iconst 0, 1) := by decide +kernel
theorem dX7_init_99 : decode cX7_init 99 = .ok (.iload_n 1, 1) := by decide +kernel
theorem dX7_init_100 : decode cX7_init 100 = .ok (.iconst 2, 1) := by decide +kernel
theorem dX7_init_101 : decode cX7_init 101 = .ok (.bipush (-100), 2) := by decide +kernel
theorem dX7_init_103 : decode cX7_init 103 = .ok (.invokevirtual 27, 3) := by decide +kernel
theorem dX7_init_106 : decode cX7_init 106 = .ok (.aload_n 0, 1) := by decide +kernel
theorem dX7_init_107 : decode cX7_init 107 = .ok (.iconst 0, 1) := by decide +kernel
theorem dX7_init_108 : decode cX7_init 108 = .ok (.iload_n 1, 1) := by decide +kernel
theorem dX7_init_109 : decode cX7_init 109 = .ok (.iconst 3, 1) := by decide +kernel
theorem dX7_init_110 : decode cX7_init 110 = .ok (.bipush 100, 2) := by decide +kernel
theorem dX7_init_112 : decode cX7_init 112 = .ok (.invokevirtual 27, 3) := by decide +kernel
theorem dX7_init_115 : decode cX7_init 115 = .ok (.aload_n 0, 1) := by decide +kernel
theorem dX7_init_116 : decode cX7_init 116 = .ok (.iconst 0, 1) := by decide +kernel
theorem dX7_init_117 : decode cX7_init 117 = .ok (.iload_n 1, 1) := by decide +kernel
theorem dX7_init_118 : decode cX7_init 118 = .ok (.iconst 4, 1) := by decide +kernel
theorem dX7_init_119 : decode cX7_init 119 = .ok (.sipush 300, 3) := by decide +kernel
theorem dX7_init_122 : decode cX7_init 122 = .ok (.invokevirtual 27, 3) := by decide +kernel
theorem dX7_init_125 : decode cX7_init 125 = .ok (.iinc 1 1, 3) := by decide +kernel
theorem dX7_init_128 : decode cX7_init 128 = .ok (.goto (-37), 3) := by decide +kernel
theorem dX7_init_131 : decode cX7_init 131 = .ok (.aload_n 0, 1) := by decide +kernel
theorem dX7_init_132 : decode cX7_init 132 = .ok (.getfield 7, 3) := by decide +kernel
theorem dX7_init_135 : decode cX7_init 135 = .ok (.sipush 147, 3) := by decide +kernel
theorem dX7_init_138 : decode cX7_init 138 = .ok (.iconst 5, 1) := by decide +kernel
theorem dX7_init_139 : decode cX7_init 139 = .ok (.iastore, 1) := by decide +kernel
theorem dX7_init_140 : decode cX7_init 140 = .ok (.aload_n 0, 1) := by decide +kernel
theorem dX7_init_141 : decode cX7_init 141 = .ok (.getfield 7, 3) := by decide +kernel
theorem dX7_init_144 : decode cX7_init 144 = .ok (.sipush 148, 3) := by decide +kernel
theorem dX7_init_147 : decode cX7_init 147 = .ok (.sipush 20000, 3) := by decide +kernel
theorem dX7_init_150 : decode cX7_init 150 = .ok (.iastore, 1) := by decide +kernel
theorem dX7_init_151 : decode cX7_init 151 = .ok (.return_, 1) := by decide +kernel
theorem dX7_thrown_0 : decode cX7_thrown 0 = .ok (.aload_n 0, 1) := by decide +kernel
theorem dX7_thrown_1 : decode cX7_thrown 1 = .ok (.getfield 31, 3) := by decide +kernel
theorem dX7_thrown_4 : decode cX7_thrown 4 = .ok (.ireturn, 1) := by decide +kernel
theorem dX7_in_0 : decode cX7_in 0 = .ok (.iload_n 0, 1) := by decide +kernel
theorem dX7_in_1 : decode cX7_in 1 = .ok (.iload_n 1, 1) := by decide +kernel
theorem dX7_in_2 : decode cX7_in 2 = .ok (.if_icmp .lt 12, 3) := by decide +kernel
theorem dX7_in_5 : decode cX7_in 5 = .ok (.iload_n 0, 1) := by decide +kernel
theorem dX7_in_6 : decode cX7_in 6 = .ok (.iload_n 2, 1) := by decide +kernel
theorem dX7_in_7 : decode cX7_in 7 = .ok (.if_icmp .gt 7, 3) := by decide +kernel
theorem dX7_in_10 : decode cX7_in 10 = .ok (.iconst 1, 1) := by decide +kernel
theorem dX7_in_11 : decode cX7_in 11 = .ok (.goto 4, 3) := by decide +kernel
theorem dX7_in_14 : decode cX7_in 14 = .ok (.iconst 0, 1) := by decide +kernel
theorem dX7_in_15 : decode cX7_in 15 = .ok (.ireturn, 1) := by decide +kernel
theorem dX7_holds_0 : decode cX7_holds 0 = .ok (.aload_n 0, 1) := by decide +kernel
theorem dX7_holds_1 : decode cX7_holds 1 = .ok (.iload_n 1, 1) := by decide +kernel
theorem dX7_holds_2 : decode cX7_holds 2 = .ok (.putfield 31, 3) := by decide +kernel
theorem dX7_holds_5 : decode cX7_holds 5 = .ok (.iload_n 1, 1) := by decide +kernel
theorem dX7_holds_6 : decode cX7_holds 6 = .ok (.ifCond .ne 7, 3) := by decide +kernel
theorem dX7_holds_9 : decode cX7_holds 9 = .ok (.iconst 1, 1) := by decide +kernel
theorem dX7_holds_10 : decode cX7_holds 10 = .ok (.goto 4, 3) := by decide +kernel
theorem dX7_holds_13 : decode cX7_holds 13 = .ok (.iconst 0, 1) := by decide +kernel
theorem dX7_holds_14 : decode cX7_holds 14 = .ok (.ireturn, 1) := by decide +kernel
theorem dX7_isStick_0 : decode cX7_isStick 0 = .ok (.iload_n 0, 1) := by decide +kernel
theorem dX7_isStick_1 : decode cX7_isStick 1 = .ok (.iconst 0, 1) := by decide +kernel
theorem dX7_isStick_2 : decode cX7_isStick 2 = .ok (.iconst 3, 1) := by decide +kernel
theorem dX7_isStick_3 : decode cX7_isStick 3 = .ok (.invokestatic 35, 3) := by decide +kernel
theorem dX7_isStick_6 : decode cX7_isStick 6 = .ok (.ireturn, 1) := by decide +kernel
theorem dX7_isServo_0 : decode cX7_isServo 0 = .ok (.iload_n 0, 1) := by decide +kernel
theorem dX7_isServo_1 : decode cX7_isServo 1 = .ok (.iconst 0, 1) := by decide +kernel
theorem dX7_isServo_2 : decode cX7_isServo 2 = .ok (.iconst 5, 1) := by decide +kernel
theorem dX7_isServo_3 : decode cX7_isServo 3 = .ok (.invokestatic 35, 3) := by decide +kernel
theorem dX7_isServo_6 : decode cX7_isServo 6 = .ok (.ireturn, 1) := by decide +kernel
theorem dX7_isMix_0 : decode cX7_isMix 0 = .ok (.iload_n 1, 1) := by decide +kernel
theorem dX7_isMix_1 : decode cX7_isMix 1 = .ok (.iconst 0, 1) := by decide +kernel
theorem dX7_isMix_2 : decode cX7_isMix 2 = .ok (.aload_n 0, 1) := by decide +kernel
theorem dX7_isMix_3 : decode cX7_isMix 3 = .ok (.getfield 7, 3) := by decide +kernel
theorem dX7_isMix_6 : decode cX7_isMix 6 = .ok (.bipush 26, 2) := by decide +kernel
theorem dX7_isMix_8 : decode cX7_isMix 8 = .ok (.iaload, 1) := by decide +kernel
theorem dX7_isMix_9 : decode cX7_isMix 9 = .ok (.iconst 1, 1) := by decide +kernel
theorem dX7_isMix_10 : decode cX7_isMix 10 = .ok (.isub, 1) := by decide +kernel
theorem dX7_isMix_11 : decode cX7_isMix 11 = .ok (.invokestatic 35, 3) := by decide +kernel
theorem dX7_isMix_14 : decode cX7_isMix 14 = .ok (.ireturn, 1) := by decide +kernel
theorem dX7_within_0 : decode cX7_within 0 = .ok (.iload_n 0, 1) := by decide +kernel
theorem dX7_within_1 : decode cX7_within 1 = .ok (.iload_n 1, 1) := by decide +kernel
theorem dX7_within_2 : decode cX7_within 2 = .ok (.if_icmp .ge 7, 3) := by decide +kernel
theorem dX7_within_5 : decode cX7_within 5 = .ok (.iload_n 1, 1) := by decide +kernel
theorem dX7_within_6 : decode cX7_within 6 = .ok (.goto 13, 3) := by decide +kernel
theorem dX7_within_9 : decode cX7_within 9 = .ok (.iload_n 0, 1) := by decide +kernel
theorem dX7_within_10 : decode cX7_within 10 = .ok (.iload_n 2, 1) := by decide +kernel
theorem dX7_within_11 : decode cX7_within 11 = .ok (.if_icmp .le 7, 3) := by decide +kernel
theorem dX7_within_14 : decode cX7_within 14 = .ok (.iload_n 2, 1) := by decide +kernel
theorem dX7_within_15 : decode cX7_within 15 = .ok (.goto 4, 3) := by decide +kernel
theorem dX7_within_18 : decode cX7_within 18 = .ok (.iload_n 0, 1) := by decide +kernel
theorem dX7_within_19 : decode cX7_within 19 = .ok (.ireturn, 1) := by decide +kernel
theorem dX7_size_0 : decode cX7_size 0 = .ok (.iload_n 0, 1) := by decide +kernel
theorem dX7_size_1 : decode cX7_size 1 = .ok (.ifCond .ge 8, 3) := by decide +kernel
theorem dX7_size_4 : decode cX7_size 4 = .ok (.iload_n 0, 1) := by decide +kernel
theorem dX7_size_5 : decode cX7_size 5 = .ok (.ineg, 1) := by decide +kernel
theorem dX7_size_6 : decode cX7_size 6 = .ok (.goto 4, 3) := by decide +kernel
theorem dX7_size_9 : decode cX7_size 9 = .ok (.iload_n 0, 1) := by decide +kernel
theorem dX7_size_10 : decode cX7_size 10 = .ok (.ireturn, 1) := by decide +kernel
theorem dX7_of_0 : decode cX7_of 0 = .ok (.aload_n 0, 1) := by decide +kernel
theorem dX7_of_1 : decode cX7_of 1 = .ok (.getfield 7, 3) := by decide +kernel
theorem dX7_of_4 : decode cX7_of 4 = .ok (.iload_n 1, 1) := by decide +kernel
theorem dX7_of_5 : decode cX7_of 5 = .ok (.bipush 87, 2) := by decide +kernel
theorem dX7_of_7 : decode cX7_of 7 = .ok (.iadd, 1) := by decide +kernel
theorem dX7_of_8 : decode cX7_of 8 = .ok (.bipush 10, 2) := by decide +kernel
theorem dX7_of_10 : decode cX7_of 10 = .ok (.iload_n 2, 1) := by decide +kernel
theorem dX7_of_11 : decode cX7_of 11 = .ok (.imul, 1) := by decide +kernel
theorem dX7_of_12 : decode cX7_of 12 = .ok (.iadd, 1) := by decide +kernel
theorem dX7_of_13 : decode cX7_of 13 = .ok (.iload_n 3, 1) := by decide +kernel
theorem dX7_of_14 : decode cX7_of 14 = .ok (.iadd, 1) := by decide +kernel
theorem dX7_of_15 : decode cX7_of 15 = .ok (.iaload, 1) := by decide +kernel
theorem dX7_of_16 : decode cX7_of 16 = .ok (.ireturn, 1) := by decide +kernel
theorem dX7_lay_0 : decode cX7_lay 0 = .ok (.aload_n 0, 1) := by decide +kernel
theorem dX7_lay_1 : decode cX7_lay 1 = .ok (.getfield 7, 3) := by decide +kernel
theorem dX7_lay_4 : decode cX7_lay 4 = .ok (.iload_n 1, 1) := by decide +kernel
theorem dX7_lay_5 : decode cX7_lay 5 = .ok (.bipush 87, 2) := by decide +kernel
theorem dX7_lay_7 : decode cX7_lay 7 = .ok (.iadd, 1) := by decide +kernel
theorem dX7_lay_8 : decode cX7_lay 8 = .ok (.bipush 10, 2) := by decide +kernel
theorem dX7_lay_10 : decode cX7_lay 10 = .ok (.iload_n 2, 1) := by decide +kernel
theorem dX7_lay_11 : decode cX7_lay 11 = .ok (.imul, 1) := by decide +kernel
theorem dX7_lay_12 : decode cX7_lay 12 = .ok (.iadd, 1) := by decide +kernel
theorem dX7_lay_13 : decode cX7_lay 13 = .ok (.iload_n 3, 1) := by decide +kernel
theorem dX7_lay_14 : decode cX7_lay 14 = .ok (.iadd, 1) := by decide +kernel
theorem dX7_lay_15 : decode cX7_lay 15 = .ok (.iload 4, 2) := by decide +kernel
theorem dX7_lay_17 : decode cX7_lay 17 = .ok (.iastore, 1) := by decide +kernel
theorem dX7_lay_18 : decode cX7_lay 18 = .ok (.return_, 1) := by decide +kernel
theorem dX7_ofMix_0 : decode cX7_ofMix 0 = .ok (.aload_n 0, 1) := by decide +kernel
theorem dX7_ofMix_1 : decode cX7_ofMix 1 = .ok (.getfield 7, 3) := by decide +kernel
theorem dX7_ofMix_4 : decode cX7_ofMix 4 = .ok (.iload_n 1, 1) := by decide +kernel
theorem dX7_ofMix_5 : decode cX7_ofMix 5 = .ok (.bipush 27, 2) := by decide +kernel
theorem dX7_ofMix_7 : decode cX7_ofMix 7 = .ok (.iadd, 1) := by decide +kernel
theorem dX7_ofMix_8 : decode cX7_ofMix 8 = .ok (.iconst 5, 1) := by decide +kernel
theorem dX7_ofMix_9 : decode cX7_ofMix 9 = .ok (.iload_n 2, 1) := by decide +kernel
theorem dX7_ofMix_10 : decode cX7_ofMix 10 = .ok (.imul, 1) := by decide +kernel
theorem dX7_ofMix_11 : decode cX7_ofMix 11 = .ok (.iadd, 1) := by decide +kernel
theorem dX7_ofMix_12 : decode cX7_ofMix 12 = .ok (.iload_n 3, 1) := by decide +kernel
theorem dX7_ofMix_13 : decode cX7_ofMix 13 = .ok (.iadd, 1) := by decide +kernel
theorem dX7_ofMix_14 : decode cX7_ofMix 14 = .ok (.iaload, 1) := by decide +kernel
theorem dX7_ofMix_15 : decode cX7_ofMix 15 = .ok (.ireturn, 1) := by decide +kernel
theorem dX7_commandOf_0 : decode cX7_commandOf 0 = .ok (.iload_n 2, 1) := by decide +kernel
theorem dX7_commandOf_1 : decode cX7_commandOf 1 = .ok (.iconst 2, 1) := by decide +kernel
theorem dX7_commandOf_2 : decode cX7_commandOf 2 = .ok (.if_icmp .ne 19, 3) := by decide +kernel
theorem dX7_commandOf_5 : decode cX7_commandOf 5 = .ok (.aload_n 0, 1) := by decide +kernel
theorem dX7_commandOf_6 : decode cX7_commandOf 6 = .ok (.getfield 7, 3) := by decide +kernel
theorem dX7_commandOf_9 : decode cX7_commandOf 9 = .ok (.iload_n 1, 1) := by decide +kernel
theorem dX7_commandOf_10 : decode cX7_commandOf 10 = .ok (.bipush 25, 2) := by decide +kernel
theorem dX7_commandOf_12 : decode cX7_commandOf 12 = .ok (.iadd, 1) := by decide +kernel
theorem dX7_commandOf_13 : decode cX7_commandOf 13 = .ok (.iaload, 1) := by decide +kernel
theorem dX7_commandOf_14 : decode cX7_commandOf 14 = .ok (.iconst 1, 1) := by decide +kernel
theorem dX7_commandOf_15 : decode cX7_commandOf 15 = .ok (.if_icmp .ne 6, 3) := by decide +kernel
theorem dX7_commandOf_18 : decode cX7_commandOf 18 = .ok (.bipush (-100), 2) := by decide +kernel
theorem dX7_commandOf_20 : decode cX7_commandOf 20 = .ok (.ireturn, 1) := by decide +kernel
theorem dX7_commandOf_21 : decode cX7_commandOf 21 = .ok (.aload_n 0, 1) := by decide +kernel
theorem dX7_commandOf_22 : decode cX7_commandOf 22 = .ok (.getfield 7, 3) := by decide +kernel
theorem dX7_commandOf_25 : decode cX7_commandOf 25 = .ok (.iload_n 1, 1) := by decide +kernel
theorem dX7_commandOf_26 : decode cX7_commandOf 26 = .ok (.iconst 0, 1) := by decide +kernel
theorem dX7_commandOf_27 : decode cX7_commandOf 27 = .ok (.iadd, 1) := by decide +kernel
theorem dX7_commandOf_28 : decode cX7_commandOf 28 = .ok (.iload_n 2, 1) := by decide +kernel
theorem dX7_commandOf_29 : decode cX7_commandOf 29 = .ok (.iadd, 1) := by decide +kernel
theorem dX7_commandOf_30 : decode cX7_commandOf 30 = .ok (.iaload, 1) := by decide +kernel
theorem dX7_commandOf_31 : decode cX7_commandOf 31 = .ok (.istore_n 3, 1) := by decide +kernel
theorem dX7_commandOf_32 : decode cX7_commandOf 32 = .ok (.aload_n 0, 1) := by decide +kernel
theorem dX7_commandOf_33 : decode cX7_commandOf 33 = .ok (.getfield 7, 3) := by decide +kernel
theorem dX7_commandOf_36 : decode cX7_commandOf 36 = .ok (.iload_n 1, 1) := by decide +kernel
theorem dX7_commandOf_37 : decode cX7_commandOf 37 = .ok (.iconst 4, 1) := by decide +kernel
theorem dX7_commandOf_38 : decode cX7_commandOf 38 = .ok (.iadd, 1) := by decide +kernel
theorem dX7_commandOf_39 : decode cX7_commandOf 39 = .ok (.iload_n 2, 1) := by decide +kernel
theorem dX7_commandOf_40 : decode cX7_commandOf 40 = .ok (.iadd, 1) := by decide +kernel
theorem dX7_commandOf_41 : decode cX7_commandOf 41 = .ok (.iaload, 1) := by decide +kernel
theorem dX7_commandOf_42 : decode cX7_commandOf 42 = .ok (.istore 4, 2) := by decide +kernel
theorem dX7_commandOf_44 : decode cX7_commandOf 44 = .ok (.bipush 100, 2) := by decide +kernel
theorem dX7_commandOf_46 : decode cX7_commandOf 46 = .ok (.iload 4, 2) := by decide +kernel
theorem dX7_commandOf_48 : decode cX7_commandOf 48 = .ok (.isub, 1) := by decide +kernel
theorem dX7_commandOf_49 : decode cX7_commandOf 49 = .ok (.iload_n 3, 1) := by decide +kernel
theorem dX7_commandOf_50 : decode cX7_commandOf 50 = .ok (.imul, 1) := by decide +kernel
theorem dX7_commandOf_51 : decode cX7_commandOf 51 = .ok (.iload 4, 2) := by decide +kernel
theorem dX7_commandOf_53 : decode cX7_commandOf 53 = .ok (.iload_n 3, 1) := by decide +kernel
theorem dX7_commandOf_54 : decode cX7_commandOf 54 = .ok (.iload_n 3, 1) := by decide +kernel
theorem dX7_commandOf_55 : decode cX7_commandOf 55 = .ok (.imul, 1) := by decide +kernel
theorem dX7_commandOf_56 : decode cX7_commandOf 56 = .ok (.iload_n 3, 1) := by decide +kernel
theorem dX7_commandOf_57 : decode cX7_commandOf 57 = .ok (.imul, 1) := by decide +kernel
theorem dX7_commandOf_58 : decode cX7_commandOf 58 = .ok (.sipush 10000, 3) := by decide +kernel
theorem dX7_commandOf_61 : decode cX7_commandOf 61 = .ok (.idiv, 1) := by decide +kernel
theorem dX7_commandOf_62 : decode cX7_commandOf 62 = .ok (.imul, 1) := by decide +kernel
theorem dX7_commandOf_63 : decode cX7_commandOf 63 = .ok (.iadd, 1) := by decide +kernel
theorem dX7_commandOf_64 : decode cX7_commandOf 64 = .ok (.bipush 100, 2) := by decide +kernel
theorem dX7_commandOf_66 : decode cX7_commandOf 66 = .ok (.idiv, 1) := by decide +kernel
theorem dX7_commandOf_67 : decode cX7_commandOf 67 = .ok (.istore 5, 2) := by decide +kernel
theorem dX7_commandOf_69 : decode cX7_commandOf 69 = .ok (.iconst 4, 1) := by decide +kernel
theorem dX7_commandOf_70 : decode cX7_commandOf 70 = .ok (.aload_n 0, 1) := by decide +kernel
theorem dX7_commandOf_71 : decode cX7_commandOf 71 = .ok (.getfield 7, 3) := by decide +kernel
theorem dX7_commandOf_74 : decode cX7_commandOf 74 = .ok (.iload_n 1, 1) := by decide +kernel
theorem dX7_commandOf_75 : decode cX7_commandOf 75 = .ok (.bipush 24, 2) := by decide +kernel
theorem dX7_commandOf_77 : decode cX7_commandOf 77 = .ok (.iadd, 1) := by decide +kernel
theorem dX7_commandOf_78 : decode cX7_commandOf 78 = .ok (.iaload, 1) := by decide +kernel
theorem dX7_commandOf_79 : decode cX7_commandOf 79 = .ok (.imul, 1) := by decide +kernel
theorem dX7_commandOf_80 : decode cX7_commandOf 80 = .ok (.iload_n 2, 1) := by decide +kernel
theorem dX7_commandOf_81 : decode cX7_commandOf 81 = .ok (.iadd, 1) := by decide +kernel
theorem dX7_commandOf_82 : decode cX7_commandOf 82 = .ok (.istore 6, 2) := by decide +kernel
theorem dX7_commandOf_84 : decode cX7_commandOf 84 = .ok (.iload 5, 2) := by decide +kernel
theorem dX7_commandOf_86 : decode cX7_commandOf 86 = .ok (.aload_n 0, 1) := by decide +kernel
theorem dX7_commandOf_87 : decode cX7_commandOf 87 = .ok (.getfield 7, 3) := by decide +kernel
theorem dX7_commandOf_90 : decode cX7_commandOf 90 = .ok (.iload_n 1, 1) := by decide +kernel
theorem dX7_commandOf_91 : decode cX7_commandOf 91 = .ok (.bipush 8, 2) := by decide +kernel
theorem dX7_commandOf_93 : decode cX7_commandOf 93 = .ok (.iadd, 1) := by decide +kernel
theorem dX7_commandOf_94 : decode cX7_commandOf 94 = .ok (.iload 6, 2) := by decide +kernel
theorem dX7_commandOf_96 : decode cX7_commandOf 96 = .ok (.iadd, 1) := by decide +kernel
theorem dX7_commandOf_97 : decode cX7_commandOf 97 = .ok (.iaload, 1) := by decide +kernel
theorem dX7_commandOf_98 : decode cX7_commandOf 98 = .ok (.imul, 1) := by decide +kernel
theorem dX7_commandOf_99 : decode cX7_commandOf 99 = .ok (.bipush 100, 2) := by decide +kernel
theorem dX7_commandOf_101 : decode cX7_commandOf 101 = .ok (.idiv, 1) := by decide +kernel
theorem dX7_commandOf_102 : decode cX7_commandOf 102 = .ok (.aload_n 0, 1) := by decide +kernel
theorem dX7_commandOf_103 : decode cX7_commandOf 103 = .ok (.getfield 7, 3) := by decide +kernel
theorem dX7_commandOf_106 : decode cX7_commandOf 106 = .ok (.iload_n 1, 1) := by decide +kernel
theorem dX7_commandOf_107 : decode cX7_commandOf 107 = .ok (.bipush 16, 2) := by decide +kernel
theorem dX7_commandOf_109 : decode cX7_commandOf 109 = .ok (.iadd, 1) := by decide +kernel
theorem dX7_commandOf_110 : decode cX7_commandOf 110 = .ok (.iload 6, 2) := by decide +kernel
theorem dX7_commandOf_112 : decode cX7_commandOf 112 = .ok (.iadd, 1) := by decide +kernel
theorem dX7_commandOf_113 : decode cX7_commandOf 113 = .ok (.iaload, 1) := by decide +kernel
theorem dX7_commandOf_114 : decode cX7_commandOf 114 = .ok (.iadd, 1) := by decide +kernel
theorem dX7_commandOf_115 : decode cX7_commandOf 115 = .ok (.ireturn, 1) := by decide +kernel
theorem dX7_holdsNow_0 : decode cX7_holdsNow 0 = .ok (.aload_n 0, 1) := by decide +kernel
theorem dX7_holdsNow_1 : decode cX7_holdsNow 1 = .ok (.iload_n 1, 1) := by decide +kernel
theorem dX7_holdsNow_2 : decode cX7_holdsNow 2 = .ok (.iload_n 2, 1) := by decide +kernel
theorem dX7_holdsNow_3 : decode cX7_holdsNow 3 = .ok (.iconst 4, 1) := by decide +kernel
theorem dX7_holdsNow_4 : decode cX7_holdsNow 4 = .ok (.invokevirtual 39, 3) := by decide +kernel
theorem dX7_holdsNow_7 : decode cX7_holdsNow 7 = .ok (.istore_n 3, 1) := by decide +kernel
theorem dX7_holdsNow_8 : decode cX7_holdsNow 8 = .ok (.iload_n 3, 1) := by decide +kernel
theorem dX7_holdsNow_9 : decode cX7_holdsNow 9 = .ok (.ifCond .eq 18, 3) := by decide +kernel
theorem dX7_holdsNow_12 : decode cX7_holdsNow 12 = .ok (.iload_n 3, 1) := by decide +kernel
theorem dX7_holdsNow_13 : decode cX7_holdsNow 13 = .ok (.iconst 1, 1) := by decide +kernel
theorem dX7_holdsNow_14 : decode cX7_holdsNow 14 = .ok (.aload_n 0, 1) := by decide +kernel
theorem dX7_holdsNow_15 : decode cX7_holdsNow 15 = .ok (.getfield 7, 3) := by decide +kernel
theorem dX7_holdsNow_18 : decode cX7_holdsNow 18 = .ok (.iload_n 1, 1) := by decide +kernel
theorem dX7_holdsNow_19 : decode cX7_holdsNow 19 = .ok (.bipush 24, 2) := by decide +kernel
theorem dX7_holdsNow_21 : decode cX7_holdsNow 21 = .ok (.iadd, 1) := by decide +kernel
theorem dX7_holdsNow_22 : decode cX7_holdsNow 22 = .ok (.iaload, 1) := by decide +kernel
theorem dX7_holdsNow_23 : decode cX7_holdsNow 23 = .ok (.iadd, 1) := by decide +kernel
theorem dX7_holdsNow_24 : decode cX7_holdsNow 24 = .ok (.if_icmp .ne 7, 3) := by decide +kernel
theorem dX7_holdsNow_27 : decode cX7_holdsNow 27 = .ok (.iconst 1, 1) := by decide +kernel
theorem dX7_holdsNow_28 : decode cX7_holdsNow 28 = .ok (.goto 4, 3) := by decide +kernel
theorem dX7_holdsNow_31 : decode cX7_holdsNow 31 = .ok (.iconst 0, 1) := by decide +kernel
theorem dX7_holdsNow_32 : decode cX7_holdsNow 32 = .ok (.ireturn, 1) := by decide +kernel
theorem dX7_adding_0 : decode cX7_adding 0 = .ok (.aload_n 0, 1) := by decide +kernel
theorem dX7_adding_1 : decode cX7_adding 1 = .ok (.iload_n 1, 1) := by decide +kernel
theorem dX7_adding_2 : decode cX7_adding 2 = .ok (.iload_n 2, 1) := by decide +kernel
theorem dX7_adding_3 : decode cX7_adding 3 = .ok (.iconst 0, 1) := by decide +kernel
theorem dX7_adding_4 : decode cX7_adding 4 = .ok (.invokevirtual 39, 3) := by decide +kernel
theorem dX7_adding_7 : decode cX7_adding 7 = .ok (.istore_n 3, 1) := by decide +kernel
theorem dX7_adding_8 : decode cX7_adding 8 = .ok (.iload_n 3, 1) := by decide +kernel
theorem dX7_adding_9 : decode cX7_adding 9 = .ok (.iconst 4, 1) := by decide +kernel
theorem dX7_adding_10 : decode cX7_adding 10 = .ok (.if_icmp .ge 12, 3) := by decide +kernel
theorem dX7_adding_13 : decode cX7_adding 13 = .ok (.aload_n 0, 1) := by decide +kernel
theorem dX7_adding_14 : decode cX7_adding 14 = .ok (.iload_n 1, 1) := by decide +kernel
theorem dX7_adding_15 : decode cX7_adding 15 = .ok (.iload_n 3, 1) := by decide +kernel
theorem dX7_adding_16 : decode cX7_adding 16 = .ok (.invokevirtual 43, 3) := by decide +kernel
theorem dX7_adding_19 : decode cX7_adding 19 = .ok (.goto 11, 3) := by decide +kernel
theorem dX7_adding_22 : decode cX7_adding 22 = .ok (.aload_n 0, 1) := by decide +kernel
theorem dX7_adding_23 : decode cX7_adding 23 = .ok (.getfield 20, 3) := by decide +kernel
theorem dX7_adding_26 : decode cX7_adding 26 = .ok (.iload_n 3, 1) := by decide +kernel
theorem dX7_adding_27 : decode cX7_adding 27 = .ok (.iconst 4, 1) := by decide +kernel
theorem dX7_adding_28 : decode cX7_adding 28 = .ok (.isub, 1) := by decide +kernel
theorem dX7_adding_29 : decode cX7_adding 29 = .ok (.iaload, 1) := by decide +kernel
theorem dX7_adding_30 : decode cX7_adding 30 = .ok (.istore 4, 2) := by decide +kernel
theorem dX7_adding_32 : decode cX7_adding 32 = .ok (.aload_n 0, 1) := by decide +kernel
theorem dX7_adding_33 : decode cX7_adding 33 = .ok (.iload_n 1, 1) := by decide +kernel
theorem dX7_adding_34 : decode cX7_adding 34 = .ok (.iload_n 2, 1) := by decide +kernel
theorem dX7_adding_35 : decode cX7_adding 35 = .ok (.invokevirtual 47, 3) := by decide +kernel
theorem dX7_adding_38 : decode cX7_adding 38 = .ok (.ifCond .eq 27, 3) := by decide +kernel
theorem dX7_adding_41 : decode cX7_adding 41 = .ok (.iload 4, 2) := by decide +kernel
theorem dX7_adding_43 : decode cX7_adding 43 = .ok (.aload_n 0, 1) := by decide +kernel
theorem dX7_adding_44 : decode cX7_adding 44 = .ok (.iload_n 1, 1) := by decide +kernel
theorem dX7_adding_45 : decode cX7_adding 45 = .ok (.iload_n 2, 1) := by decide +kernel
theorem dX7_adding_46 : decode cX7_adding 46 = .ok (.iconst 2, 1) := by decide +kernel
theorem dX7_adding_47 : decode cX7_adding 47 = .ok (.invokevirtual 39, 3) := by decide +kernel
theorem dX7_adding_50 : decode cX7_adding 50 = .ok (.imul, 1) := by decide +kernel
theorem dX7_adding_51 : decode cX7_adding 51 = .ok (.bipush 100, 2) := by decide +kernel
theorem dX7_adding_53 : decode cX7_adding 53 = .ok (.idiv, 1) := by decide +kernel
theorem dX7_adding_54 : decode cX7_adding 54 = .ok (.aload_n 0, 1) := by decide +kernel
theorem dX7_adding_55 : decode cX7_adding 55 = .ok (.iload_n 1, 1) := by decide +kernel
theorem dX7_adding_56 : decode cX7_adding 56 = .ok (.iload_n 2, 1) := by decide +kernel
theorem dX7_adding_57 : decode cX7_adding 57 = .ok (.iconst 3, 1) := by decide +kernel
theorem dX7_adding_58 : decode cX7_adding 58 = .ok (.invokevirtual 39, 3) := by decide +kernel
theorem dX7_adding_61 : decode cX7_adding 61 = .ok (.iadd, 1) := by decide +kernel
theorem dX7_adding_62 : decode cX7_adding 62 = .ok (.goto 4, 3) := by decide +kernel
theorem dX7_adding_65 : decode cX7_adding 65 = .ok (.iconst 0, 1) := by decide +kernel
theorem dX7_adding_66 : decode cX7_adding 66 = .ok (.ireturn, 1) := by decide +kernel
theorem dX7_demandsLaid_0 : decode cX7_demandsLaid 0 = .ok (.iconst 0, 1) := by decide +kernel
theorem dX7_demandsLaid_1 : decode cX7_demandsLaid 1 = .ok (.istore_n 2, 1) := by decide +kernel
theorem dX7_demandsLaid_2 : decode cX7_demandsLaid 2 = .ok (.iload_n 2, 1) := by decide +kernel
theorem dX7_demandsLaid_3 : decode cX7_demandsLaid 3 = .ok (.bipush 6, 2) := by decide +kernel
theorem dX7_demandsLaid_5 : decode cX7_demandsLaid 5 = .ok (.if_icmp .ge 76, 3) := by decide +kernel
theorem dX7_demandsLaid_8 : decode cX7_demandsLaid 8 = .ok (.iconst 0, 1) := by decide +kernel
theorem dX7_demandsLaid_9 : decode cX7_demandsLaid 9 = .ok (.istore_n 3, 1) := by decide +kernel
theorem dX7_demandsLaid_10 : decode cX7_demandsLaid 10 = .ok (.iconst 0, 1) := by decide +kernel
theorem dX7_demandsLaid_11 : decode cX7_demandsLaid 11 = .ok (.istore 4, 2) := by decide +kernel
theorem dX7_demandsLaid_13 : decode cX7_demandsLaid 13 = .ok (.iload 4, 2) := by decide +kernel
theorem dX7_demandsLaid_15 : decode cX7_demandsLaid 15 = .ok (.aload_n 0, 1) := by decide +kernel
theorem dX7_demandsLaid_16 : decode cX7_demandsLaid 16 = .ok (.getfield 7, 3) := by decide +kernel
theorem dX7_demandsLaid_19 : decode cX7_demandsLaid 19 = .ok (.iload_n 1, 1) := by decide +kernel
theorem dX7_demandsLaid_20 : decode cX7_demandsLaid 20 = .ok (.bipush 26, 2) := by decide +kernel
theorem dX7_demandsLaid_22 : decode cX7_demandsLaid 22 = .ok (.iadd, 1) := by decide +kernel
theorem dX7_demandsLaid_23 : decode cX7_demandsLaid 23 = .ok (.iaload, 1) := by decide +kernel
theorem dX7_demandsLaid_24 : decode cX7_demandsLaid 24 = .ok (.if_icmp .ge 35, 3) := by decide +kernel
theorem dX7_demandsLaid_27 : decode cX7_demandsLaid 27 = .ok (.iload_n 3, 1) := by decide +kernel
theorem dX7_demandsLaid_28 : decode cX7_demandsLaid 28 = .ok (.aload_n 0, 1) := by decide +kernel
theorem dX7_demandsLaid_29 : decode cX7_demandsLaid 29 = .ok (.iload_n 1, 1) := by decide +kernel
theorem dX7_demandsLaid_30 : decode cX7_demandsLaid 30 = .ok (.iload 4, 2) := by decide +kernel
theorem dX7_demandsLaid_32 : decode cX7_demandsLaid 32 = .ok (.iconst 1, 1) := by decide +kernel
theorem dX7_demandsLaid_33 : decode cX7_demandsLaid 33 = .ok (.invokevirtual 39, 3) := by decide +kernel
theorem dX7_demandsLaid_36 : decode cX7_demandsLaid 36 = .ok (.iload_n 2, 1) := by decide +kernel
theorem dX7_demandsLaid_37 : decode cX7_demandsLaid 37 = .ok (.if_icmp .ne 13, 3) := by decide +kernel
theorem dX7_demandsLaid_40 : decode cX7_demandsLaid 40 = .ok (.aload_n 0, 1) := by decide +kernel
theorem dX7_demandsLaid_41 : decode cX7_demandsLaid 41 = .ok (.iload_n 1, 1) := by decide +kernel
theorem dX7_demandsLaid_42 : decode cX7_demandsLaid 42 = .ok (.iload 4, 2) := by decide +kernel
theorem dX7_demandsLaid_44 : decode cX7_demandsLaid 44 = .ok (.invokevirtual 51, 3) := by decide +kernel
theorem dX7_demandsLaid_47 : decode cX7_demandsLaid 47 = .ok (.goto 4, 3) := by decide +kernel
theorem dX7_demandsLaid_50 : decode cX7_demandsLaid 50 = .ok (.iconst 0, 1) := by decide +kernel
theorem dX7_demandsLaid_51 : decode cX7_demandsLaid 51 = .ok (.iadd, 1) := by decide +kernel
theorem dX7_demandsLaid_52 : decode cX7_demandsLaid 52 = .ok (.istore_n 3, 1) := by decide +kernel
theorem dX7_demandsLaid_53 : decode cX7_demandsLaid 53 = .ok (.iinc 4 1, 3) := by decide +kernel
theorem dX7_demandsLaid_56 : decode cX7_demandsLaid 56 = .ok (.goto (-43), 3) := by decide +kernel
theorem dX7_demandsLaid_59 : decode cX7_demandsLaid 59 = .ok (.aload_n 0, 1) := by decide +kernel
theorem dX7_demandsLaid_60 : decode cX7_demandsLaid 60 = .ok (.getfield 20, 3) := by decide +kernel
theorem dX7_demandsLaid_63 : decode cX7_demandsLaid 63 = .ok (.iload_n 2, 1) := by decide +kernel
theorem dX7_demandsLaid_64 : decode cX7_demandsLaid 64 = .ok (.iload_n 3, 1) := by decide +kernel
theorem dX7_demandsLaid_65 : decode cX7_demandsLaid 65 = .ok (.sipush (-300), 3) := by decide +kernel
theorem dX7_demandsLaid_68 : decode cX7_demandsLaid 68 = .ok (.sipush 300, 3) := by decide +kernel
theorem dX7_demandsLaid_71 : decode cX7_demandsLaid 71 = .ok (.invokestatic 54, 3) := by decide +kernel
theorem dX7_demandsLaid_74 : decode cX7_demandsLaid 74 = .ok (.iastore, 1) := by decide +kernel
theorem dX7_demandsLaid_75 : decode cX7_demandsLaid 75 = .ok (.iinc 2 1, 3) := by decide +kernel
theorem dX7_demandsLaid_78 : decode cX7_demandsLaid 78 = .ok (.goto (-76), 3) := by decide +kernel
theorem dX7_demandsLaid_81 : decode cX7_demandsLaid 81 = .ok (.return_, 1) := by decide +kernel
theorem dX7_raw_0 : decode cX7_raw 0 = .ok (.aload_n 0, 1) := by decide +kernel
theorem dX7_raw_1 : decode cX7_raw 1 = .ok (.iload_n 1, 1) := by decide +kernel
theorem dX7_raw_2 : decode cX7_raw 2 = .ok (.iload_n 2, 1) := by decide +kernel
theorem dX7_raw_3 : decode cX7_raw 3 = .ok (.iconst 0, 1) := by decide +kernel
theorem dX7_raw_4 : decode cX7_raw 4 = .ok (.invokevirtual 57, 3) := by decide +kernel
theorem dX7_raw_7 : decode cX7_raw 7 = .ok (.iconst 1, 1) := by decide +kernel
theorem dX7_raw_8 : decode cX7_raw 8 = .ok (.if_icmp .ne 13, 3) := by decide +kernel
theorem dX7_raw_11 : decode cX7_raw 11 = .ok (.aload_n 0, 1) := by decide +kernel
theorem dX7_raw_12 : decode cX7_raw 12 = .ok (.getfield 20, 3) := by decide +kernel
theorem dX7_raw_15 : decode cX7_raw 15 = .ok (.iload_n 2, 1) := by decide +kernel
theorem dX7_raw_16 : decode cX7_raw 16 = .ok (.iaload, 1) := by decide +kernel
theorem dX7_raw_17 : decode cX7_raw 17 = .ok (.ineg, 1) := by decide +kernel
theorem dX7_raw_18 : decode cX7_raw 18 = .ok (.goto 9, 3) := by decide +kernel
theorem dX7_raw_21 : decode cX7_raw 21 = .ok (.aload_n 0, 1) := by decide +kernel
theorem dX7_raw_22 : decode cX7_raw 22 = .ok (.getfield 20, 3) := by decide +kernel
theorem dX7_raw_25 : decode cX7_raw 25 = .ok (.iload_n 2, 1) := by decide +kernel
theorem dX7_raw_26 : decode cX7_raw 26 = .ok (.iaload, 1) := by decide +kernel
theorem dX7_raw_27 : decode cX7_raw 27 = .ok (.istore_n 3, 1) := by decide +kernel
theorem dX7_raw_28 : decode cX7_raw 28 = .ok (.aload_n 0, 1) := by decide +kernel
theorem dX7_raw_29 : decode cX7_raw 29 = .ok (.iload_n 1, 1) := by decide +kernel
theorem dX7_raw_30 : decode cX7_raw 30 = .ok (.iload_n 2, 1) := by decide +kernel
theorem dX7_raw_31 : decode cX7_raw 31 = .ok (.iconst 1, 1) := by decide +kernel
theorem dX7_raw_32 : decode cX7_raw 32 = .ok (.invokevirtual 57, 3) := by decide +kernel
theorem dX7_raw_35 : decode cX7_raw 35 = .ok (.iload_n 3, 1) := by decide +kernel
theorem dX7_raw_36 : decode cX7_raw 36 = .ok (.iadd, 1) := by decide +kernel
theorem dX7_raw_37 : decode cX7_raw 37 = .ok (.ireturn, 1) := by decide +kernel
theorem dX7_aimed_0 : decode cX7_aimed 0 = .ok (.aload_n 0, 1) := by decide +kernel
theorem dX7_aimed_1 : decode cX7_aimed 1 = .ok (.iload_n 1, 1) := by decide +kernel
theorem dX7_aimed_2 : decode cX7_aimed 2 = .ok (.iload_n 2, 1) := by decide +kernel
theorem dX7_aimed_3 : decode cX7_aimed 3 = .ok (.invokevirtual 60, 3) := by decide +kernel
theorem dX7_aimed_6 : decode cX7_aimed 6 = .ok (.aload_n 0, 1) := by decide +kernel
theorem dX7_aimed_7 : decode cX7_aimed 7 = .ok (.iload_n 1, 1) := by decide +kernel
theorem dX7_aimed_8 : decode cX7_aimed 8 = .ok (.iload_n 2, 1) := by decide +kernel
theorem dX7_aimed_9 : decode cX7_aimed 9 = .ok (.iconst 2, 1) := by decide +kernel
theorem dX7_aimed_10 : decode cX7_aimed 10 = .ok (.invokevirtual 57, 3) := by decide +kernel
theorem dX7_aimed_13 : decode cX7_aimed 13 = .ok (.aload_n 0, 1) := by decide +kernel
theorem dX7_aimed_14 : decode cX7_aimed 14 = .ok (.iload_n 1, 1) := by decide +kernel
theorem dX7_aimed_15 : decode cX7_aimed 15 = .ok (.iload_n 2, 1) := by decide +kernel
theorem dX7_aimed_16 : decode cX7_aimed 16 = .ok (.iconst 3, 1) := by decide +kernel
theorem dX7_aimed_17 : decode cX7_aimed 17 = .ok (.invokevirtual 57, 3) := by decide +kernel
theorem dX7_aimed_20 : decode cX7_aimed 20 = .ok (.invokestatic 54, 3) := by decide +kernel
theorem dX7_aimed_23 : decode cX7_aimed 23 = .ok (.ireturn, 1) := by decide +kernel
theorem dX7_aimOf_0 : decode cX7_aimOf 0 = .ok (.aload_n 0, 1) := by decide +kernel
theorem dX7_aimOf_1 : decode cX7_aimOf 1 = .ok (.iload_n 1, 1) := by decide +kernel
theorem dX7_aimOf_2 : decode cX7_aimOf 2 = .ok (.invokevirtual 63, 3) := by decide +kernel
theorem dX7_aimOf_5 : decode cX7_aimOf 5 = .ok (.aload_n 0, 1) := by decide +kernel
theorem dX7_aimOf_6 : decode cX7_aimOf 6 = .ok (.iload_n 1, 1) := by decide +kernel
theorem dX7_aimOf_7 : decode cX7_aimOf 7 = .ok (.iload_n 2, 1) := by decide +kernel
theorem dX7_aimOf_8 : decode cX7_aimOf 8 = .ok (.invokevirtual 67, 3) := by decide +kernel
theorem dX7_aimOf_11 : decode cX7_aimOf 11 = .ok (.ireturn, 1) := by decide +kernel
theorem dX7_moved_0 : decode cX7_moved 0 = .ok (.aload_n 0, 1) := by decide +kernel
theorem dX7_moved_1 : decode cX7_moved 1 = .ok (.iconst 0, 1) := by decide +kernel
theorem dX7_moved_2 : decode cX7_moved 2 = .ok (.iload_n 1, 1) := by decide +kernel
theorem dX7_moved_3 : decode cX7_moved 3 = .ok (.bipush 7, 2) := by decide +kernel
theorem dX7_moved_5 : decode cX7_moved 5 = .ok (.invokevirtual 57, 3) := by decide +kernel
theorem dX7_moved_8 : decode cX7_moved 8 = .ok (.aload_n 0, 1) := by decide +kernel
theorem dX7_moved_9 : decode cX7_moved 9 = .ok (.iconst 0, 1) := by decide +kernel
theorem dX7_moved_10 : decode cX7_moved 10 = .ok (.iload_n 1, 1) := by decide +kernel
theorem dX7_moved_11 : decode cX7_moved 11 = .ok (.bipush 8, 2) := by decide +kernel
theorem dX7_moved_13 : decode cX7_moved 13 = .ok (.invokevirtual 57, 3) := by decide +kernel
theorem dX7_moved_16 : decode cX7_moved 16 = .ok (.isub, 1) := by decide +kernel
theorem dX7_moved_17 : decode cX7_moved 17 = .ok (.istore_n 2, 1) := by decide +kernel
theorem dX7_moved_18 : decode cX7_moved 18 = .ok (.aload_n 0, 1) := by decide +kernel
theorem dX7_moved_19 : decode cX7_moved 19 = .ok (.iconst 0, 1) := by decide +kernel
theorem dX7_moved_20 : decode cX7_moved 20 = .ok (.iload_n 1, 1) := by decide +kernel
theorem dX7_moved_21 : decode cX7_moved 21 = .ok (.iconst 4, 1) := by decide +kernel
theorem dX7_moved_22 : decode cX7_moved 22 = .ok (.invokevirtual 57, 3) := by decide +kernel
theorem dX7_moved_25 : decode cX7_moved 25 = .ok (.aload_n 0, 1) := by decide +kernel
theorem dX7_moved_26 : decode cX7_moved 26 = .ok (.getfield 7, 3) := by decide +kernel
theorem dX7_moved_29 : decode cX7_moved 29 = .ok (.sipush 148, 3) := by decide +kernel
theorem dX7_moved_32 : decode cX7_moved 32 = .ok (.iaload, 1) := by decide +kernel
theorem dX7_moved_33 : decode cX7_moved 33 = .ok (.if_icmp .ge 13, 3) := by decide +kernel
theorem dX7_moved_36 : decode cX7_moved 36 = .ok (.aload_n 0, 1) := by decide +kernel
theorem dX7_moved_37 : decode cX7_moved 37 = .ok (.iconst 0, 1) := by decide +kernel
theorem dX7_moved_38 : decode cX7_moved 38 = .ok (.iload_n 1, 1) := by decide +kernel
theorem dX7_moved_39 : decode cX7_moved 39 = .ok (.iconst 4, 1) := by decide +kernel
theorem dX7_moved_40 : decode cX7_moved 40 = .ok (.invokevirtual 57, 3) := by decide +kernel
theorem dX7_moved_43 : decode cX7_moved 43 = .ok (.goto 11, 3) := by decide +kernel
theorem dX7_moved_46 : decode cX7_moved 46 = .ok (.aload_n 0, 1) := by decide +kernel
theorem dX7_moved_47 : decode cX7_moved 47 = .ok (.getfield 7, 3) := by decide +kernel
theorem dX7_moved_50 : decode cX7_moved 50 = .ok (.sipush 148, 3) := by decide +kernel
theorem dX7_moved_53 : decode cX7_moved 53 = .ok (.iaload, 1) := by decide +kernel
theorem dX7_moved_54 : decode cX7_moved 54 = .ok (.istore_n 3, 1) := by decide +kernel
theorem dX7_moved_55 : decode cX7_moved 55 = .ok (.iload_n 2, 1) := by decide +kernel
theorem dX7_moved_56 : decode cX7_moved 56 = .ok (.iload_n 3, 1) := by decide +kernel
theorem dX7_moved_57 : decode cX7_moved 57 = .ok (.ineg, 1) := by decide +kernel
theorem dX7_moved_58 : decode cX7_moved 58 = .ok (.iload_n 3, 1) := by decide +kernel
theorem dX7_moved_59 : decode cX7_moved 59 = .ok (.invokestatic 54, 3) := by decide +kernel
theorem dX7_moved_62 : decode cX7_moved 62 = .ok (.istore_n 2, 1) := by decide +kernel
theorem dX7_moved_63 : decode cX7_moved 63 = .ok (.aload_n 0, 1) := by decide +kernel
theorem dX7_moved_64 : decode cX7_moved 64 = .ok (.iconst 0, 1) := by decide +kernel
theorem dX7_moved_65 : decode cX7_moved 65 = .ok (.iload_n 1, 1) := by decide +kernel
theorem dX7_moved_66 : decode cX7_moved 66 = .ok (.bipush 8, 2) := by decide +kernel
theorem dX7_moved_68 : decode cX7_moved 68 = .ok (.aload_n 0, 1) := by decide +kernel
theorem dX7_moved_69 : decode cX7_moved 69 = .ok (.iconst 0, 1) := by decide +kernel
theorem dX7_moved_70 : decode cX7_moved 70 = .ok (.iload_n 1, 1) := by decide +kernel
theorem dX7_moved_71 : decode cX7_moved 71 = .ok (.bipush 8, 2) := by decide +kernel
theorem dX7_moved_73 : decode cX7_moved 73 = .ok (.invokevirtual 57, 3) := by decide +kernel
theorem dX7_moved_76 : decode cX7_moved 76 = .ok (.iload_n 2, 1) := by decide +kernel
theorem dX7_moved_77 : decode cX7_moved 77 = .ok (.iadd, 1) := by decide +kernel
theorem dX7_moved_78 : decode cX7_moved 78 = .ok (.invokevirtual 27, 3) := by decide +kernel
theorem dX7_moved_81 : decode cX7_moved 81 = .ok (.aload_n 0, 1) := by decide +kernel
theorem dX7_moved_82 : decode cX7_moved 82 = .ok (.iconst 0, 1) := by decide +kernel
theorem dX7_moved_83 : decode cX7_moved 83 = .ok (.iload_n 1, 1) := by decide +kernel
theorem dX7_moved_84 : decode cX7_moved 84 = .ok (.bipush 9, 2) := by decide +kernel
theorem dX7_moved_86 : decode cX7_moved 86 = .ok (.aload_n 0, 1) := by decide +kernel
theorem dX7_moved_87 : decode cX7_moved 87 = .ok (.iconst 0, 1) := by decide +kernel
theorem dX7_moved_88 : decode cX7_moved 88 = .ok (.iload_n 1, 1) := by decide +kernel
theorem dX7_moved_89 : decode cX7_moved 89 = .ok (.bipush 9, 2) := by decide +kernel
theorem dX7_moved_91 : decode cX7_moved 91 = .ok (.invokevirtual 57, 3) := by decide +kernel
theorem dX7_moved_94 : decode cX7_moved 94 = .ok (.iload_n 2, 1) := by decide +kernel
theorem dX7_moved_95 : decode cX7_moved 95 = .ok (.invokestatic 70, 3) := by decide +kernel
theorem dX7_moved_98 : decode cX7_moved 98 = .ok (.iadd, 1) := by decide +kernel
theorem dX7_moved_99 : decode cX7_moved 99 = .ok (.invokevirtual 27, 3) := by decide +kernel
theorem dX7_moved_102 : decode cX7_moved 102 = .ok (.aload_n 0, 1) := by decide +kernel
theorem dX7_moved_103 : decode cX7_moved 103 = .ok (.getfield 7, 3) := by decide +kernel
theorem dX7_moved_106 : decode cX7_moved 106 = .ok (.sipush 148, 3) := by decide +kernel
theorem dX7_moved_109 : decode cX7_moved 109 = .ok (.dup2, 1) := by decide +kernel
theorem dX7_moved_110 : decode cX7_moved 110 = .ok (.iaload, 1) := by decide +kernel
theorem dX7_moved_111 : decode cX7_moved 111 = .ok (.iload_n 2, 1) := by decide +kernel
theorem dX7_moved_112 : decode cX7_moved 112 = .ok (.invokestatic 70, 3) := by decide +kernel
theorem dX7_moved_115 : decode cX7_moved 115 = .ok (.isub, 1) := by decide +kernel
theorem dX7_moved_116 : decode cX7_moved 116 = .ok (.iastore, 1) := by decide +kernel
theorem dX7_moved_117 : decode cX7_moved 117 = .ok (.iload_n 2, 1) := by decide +kernel
theorem dX7_moved_118 : decode cX7_moved 118 = .ok (.invokestatic 70, 3) := by decide +kernel
theorem dX7_moved_121 : decode cX7_moved 121 = .ok (.ireturn, 1) := by decide +kernel
theorem dX7_targets_0 : decode cX7_targets 0 = .ok (.aload_n 0, 1) := by decide +kernel
theorem dX7_targets_1 : decode cX7_targets 1 = .ok (.iconst 0, 1) := by decide +kernel
theorem dX7_targets_2 : decode cX7_targets 2 = .ok (.invokevirtual 63, 3) := by decide +kernel
theorem dX7_targets_5 : decode cX7_targets 5 = .ok (.iconst 0, 1) := by decide +kernel
theorem dX7_targets_6 : decode cX7_targets 6 = .ok (.istore_n 3, 1) := by decide +kernel
theorem dX7_targets_7 : decode cX7_targets 7 = .ok (.iload_n 3, 1) := by decide +kernel
theorem dX7_targets_8 : decode cX7_targets 8 = .ok (.bipush 6, 2) := by decide +kernel
theorem dX7_targets_10 : decode cX7_targets 10 = .ok (.if_icmp .ge 97, 3) := by decide +kernel
theorem dX7_targets_13 : decode cX7_targets 13 = .ok (.iload_n 1, 1) := by decide +kernel
theorem dX7_targets_14 : decode cX7_targets 14 = .ok (.ifCond .eq 12, 3) := by decide +kernel
theorem dX7_targets_17 : decode cX7_targets 17 = .ok (.aload_n 0, 1) := by decide +kernel
theorem dX7_targets_18 : decode cX7_targets 18 = .ok (.iconst 0, 1) := by decide +kernel
theorem dX7_targets_19 : decode cX7_targets 19 = .ok (.iload_n 3, 1) := by decide +kernel
theorem dX7_targets_20 : decode cX7_targets 20 = .ok (.invokevirtual 67, 3) := by decide +kernel
theorem dX7_targets_23 : decode cX7_targets 23 = .ok (.goto 11, 3) := by decide +kernel
theorem dX7_targets_26 : decode cX7_targets 26 = .ok (.aload_n 0, 1) := by decide +kernel
theorem dX7_targets_27 : decode cX7_targets 27 = .ok (.iconst 0, 1) := by decide +kernel
theorem dX7_targets_28 : decode cX7_targets 28 = .ok (.iload_n 3, 1) := by decide +kernel
theorem dX7_targets_29 : decode cX7_targets 29 = .ok (.bipush 7, 2) := by decide +kernel
theorem dX7_targets_31 : decode cX7_targets 31 = .ok (.invokevirtual 57, 3) := by decide +kernel
theorem dX7_targets_34 : decode cX7_targets 34 = .ok (.istore 4, 2) := by decide +kernel
theorem dX7_targets_36 : decode cX7_targets 36 = .ok (.iload_n 2, 1) := by decide +kernel
theorem dX7_targets_37 : decode cX7_targets 37 = .ok (.ifCond .eq 18, 3) := by decide +kernel
theorem dX7_targets_40 : decode cX7_targets 40 = .ok (.aload_n 0, 1) := by decide +kernel
theorem dX7_targets_41 : decode cX7_targets 41 = .ok (.iconst 0, 1) := by decide +kernel
theorem dX7_targets_42 : decode cX7_targets 42 = .ok (.iload_n 3, 1) := by decide +kernel
theorem dX7_targets_43 : decode cX7_targets 43 = .ok (.iconst 5, 1) := by decide +kernel
theorem dX7_targets_44 : decode cX7_targets 44 = .ok (.invokevirtual 57, 3) := by decide +kernel
theorem dX7_targets_47 : decode cX7_targets 47 = .ok (.iconst 1, 1) := by decide +kernel
theorem dX7_targets_48 : decode cX7_targets 48 = .ok (.if_icmp .ne 7, 3) := by decide +kernel
theorem dX7_targets_51 : decode cX7_targets 51 = .ok (.iconst 1, 1) := by decide +kernel
theorem dX7_targets_52 : decode cX7_targets 52 = .ok (.goto 4, 3) := by decide +kernel
theorem dX7_targets_55 : decode cX7_targets 55 = .ok (.iconst 0, 1) := by decide +kernel
theorem dX7_targets_56 : decode cX7_targets 56 = .ok (.istore 5, 2) := by decide +kernel
theorem dX7_targets_58 : decode cX7_targets 58 = .ok (.aload_n 0, 1) := by decide +kernel
theorem dX7_targets_59 : decode cX7_targets 59 = .ok (.iconst 0, 1) := by decide +kernel
theorem dX7_targets_60 : decode cX7_targets 60 = .ok (.iload_n 3, 1) := by decide +kernel
theorem dX7_targets_61 : decode cX7_targets 61 = .ok (.bipush 7, 2) := by decide +kernel
theorem dX7_targets_63 : decode cX7_targets 63 = .ok (.iload 5, 2) := by decide +kernel
theorem dX7_targets_65 : decode cX7_targets 65 = .ok (.ifCond .eq 31, 3) := by decide +kernel
theorem dX7_targets_68 : decode cX7_targets 68 = .ok (.aload_n 0, 1) := by decide +kernel
theorem dX7_targets_69 : decode cX7_targets 69 = .ok (.iconst 0, 1) := by decide +kernel
theorem dX7_targets_70 : decode cX7_targets 70 = .ok (.iload_n 3, 1) := by decide +kernel
theorem dX7_targets_71 : decode cX7_targets 71 = .ok (.bipush 6, 2) := by decide +kernel
theorem dX7_targets_73 : decode cX7_targets 73 = .ok (.invokevirtual 57, 3) := by decide +kernel
theorem dX7_targets_76 : decode cX7_targets 76 = .ok (.aload_n 0, 1) := by decide +kernel
theorem dX7_targets_77 : decode cX7_targets 77 = .ok (.iconst 0, 1) := by decide +kernel
theorem dX7_targets_78 : decode cX7_targets 78 = .ok (.iload_n 3, 1) := by decide +kernel
theorem dX7_targets_79 : decode cX7_targets 79 = .ok (.iconst 2, 1) := by decide +kernel
theorem dX7_targets_80 : decode cX7_targets 80 = .ok (.invokevirtual 57, 3) := by decide +kernel
theorem dX7_targets_83 : decode cX7_targets 83 = .ok (.aload_n 0, 1) := by decide +kernel
theorem dX7_targets_84 : decode cX7_targets 84 = .ok (.iconst 0, 1) := by decide +kernel
theorem dX7_targets_85 : decode cX7_targets 85 = .ok (.iload_n 3, 1) := by decide +kernel
theorem dX7_targets_86 : decode cX7_targets 86 = .ok (.iconst 3, 1) := by decide +kernel
theorem dX7_targets_87 : decode cX7_targets 87 = .ok (.invokevirtual 57, 3) := by decide +kernel
theorem dX7_targets_90 : decode cX7_targets 90 = .ok (.invokestatic 54, 3) := by decide +kernel
theorem dX7_targets_93 : decode cX7_targets 93 = .ok (.goto 5, 3) := by decide +kernel
theorem dX7_targets_96 : decode cX7_targets 96 = .ok (.iload 4, 2) := by decide +kernel
theorem dX7_targets_98 : decode cX7_targets 98 = .ok (.invokevirtual 27, 3) := by decide +kernel
theorem dX7_targets_101 : decode cX7_targets 101 = .ok (.iinc 3 1, 3) := by decide +kernel
theorem dX7_targets_104 : decode cX7_targets 104 = .ok (.goto (-97), 3) := by decide +kernel
theorem dX7_targets_107 : decode cX7_targets 107 = .ok (.return_, 1) := by decide +kernel
theorem dX7_frame_0 : decode cX7_frame 0 = .ok (.iload_n 1, 1) := by decide +kernel
theorem dX7_frame_1 : decode cX7_frame 1 = .ok (.ifCond .eq 18, 3) := by decide +kernel
theorem dX7_frame_4 : decode cX7_frame 4 = .ok (.aload_n 0, 1) := by decide +kernel
theorem dX7_frame_5 : decode cX7_frame 5 = .ok (.getfield 7, 3) := by decide +kernel
theorem dX7_frame_8 : decode cX7_frame 8 = .ok (.sipush 148, 3) := by decide +kernel
theorem dX7_frame_11 : decode cX7_frame 11 = .ok (.iaload, 1) := by decide +kernel
theorem dX7_frame_12 : decode cX7_frame 12 = .ok (.ifCond .le 7, 3) := by decide +kernel
theorem dX7_frame_15 : decode cX7_frame 15 = .ok (.iconst 1, 1) := by decide +kernel
theorem dX7_frame_16 : decode cX7_frame 16 = .ok (.goto 4, 3) := by decide +kernel
theorem dX7_frame_19 : decode cX7_frame 19 = .ok (.iconst 0, 1) := by decide +kernel
theorem dX7_frame_20 : decode cX7_frame 20 = .ok (.istore_n 2, 1) := by decide +kernel
theorem dX7_frame_21 : decode cX7_frame 21 = .ok (.aload_n 0, 1) := by decide +kernel
theorem dX7_frame_22 : decode cX7_frame 22 = .ok (.getfield 7, 3) := by decide +kernel
theorem dX7_frame_25 : decode cX7_frame 25 = .ok (.sipush 150, 3) := by decide +kernel
theorem dX7_frame_28 : decode cX7_frame 28 = .ok (.dup2, 1) := by decide +kernel
theorem dX7_frame_29 : decode cX7_frame 29 = .ok (.iaload, 1) := by decide +kernel
theorem dX7_frame_30 : decode cX7_frame 30 = .ok (.iconst 1, 1) := by decide +kernel
theorem dX7_frame_31 : decode cX7_frame 31 = .ok (.iadd, 1) := by decide +kernel
theorem dX7_frame_32 : decode cX7_frame 32 = .ok (.iastore, 1) := by decide +kernel
theorem dX7_frame_33 : decode cX7_frame 33 = .ok (.aload_n 0, 1) := by decide +kernel
theorem dX7_frame_34 : decode cX7_frame 34 = .ok (.getfield 7, 3) := by decide +kernel
theorem dX7_frame_37 : decode cX7_frame 37 = .ok (.sipush 152, 3) := by decide +kernel
theorem dX7_frame_40 : decode cX7_frame 40 = .ok (.dup2, 1) := by decide +kernel
theorem dX7_frame_41 : decode cX7_frame 41 = .ok (.iaload, 1) := by decide +kernel
theorem dX7_frame_42 : decode cX7_frame 42 = .ok (.aload_n 0, 1) := by decide +kernel
theorem dX7_frame_43 : decode cX7_frame 43 = .ok (.getfield 7, 3) := by decide +kernel
theorem dX7_frame_46 : decode cX7_frame 46 = .ok (.sipush 148, 3) := by decide +kernel
theorem dX7_frame_49 : decode cX7_frame 49 = .ok (.iaload, 1) := by decide +kernel
theorem dX7_frame_50 : decode cX7_frame 50 = .ok (.ifCond .ne 7, 3) := by decide +kernel
theorem dX7_frame_53 : decode cX7_frame 53 = .ok (.iconst 1, 1) := by decide +kernel
theorem dX7_frame_54 : decode cX7_frame 54 = .ok (.goto 4, 3) := by decide +kernel
theorem dX7_frame_57 : decode cX7_frame 57 = .ok (.iconst 0, 1) := by decide +kernel
theorem dX7_frame_58 : decode cX7_frame 58 = .ok (.iadd, 1) := by decide +kernel
theorem dX7_frame_59 : decode cX7_frame 59 = .ok (.iastore, 1) := by decide +kernel
theorem dX7_frame_60 : decode cX7_frame 60 = .ok (.aload_n 0, 1) := by decide +kernel
theorem dX7_frame_61 : decode cX7_frame 61 = .ok (.getfield 7, 3) := by decide +kernel
theorem dX7_frame_64 : decode cX7_frame 64 = .ok (.sipush 151, 3) := by decide +kernel
theorem dX7_frame_67 : decode cX7_frame 67 = .ok (.dup2, 1) := by decide +kernel
theorem dX7_frame_68 : decode cX7_frame 68 = .ok (.iaload, 1) := by decide +kernel
theorem dX7_frame_69 : decode cX7_frame 69 = .ok (.iload_n 2, 1) := by decide +kernel
theorem dX7_frame_70 : decode cX7_frame 70 = .ok (.ifCond .eq 7, 3) := by decide +kernel
theorem dX7_frame_73 : decode cX7_frame 73 = .ok (.iconst 0, 1) := by decide +kernel
theorem dX7_frame_74 : decode cX7_frame 74 = .ok (.goto 4, 3) := by decide +kernel
theorem dX7_frame_77 : decode cX7_frame 77 = .ok (.iconst 1, 1) := by decide +kernel
theorem dX7_frame_78 : decode cX7_frame 78 = .ok (.iadd, 1) := by decide +kernel
theorem dX7_frame_79 : decode cX7_frame 79 = .ok (.iastore, 1) := by decide +kernel
theorem dX7_frame_80 : decode cX7_frame 80 = .ok (.aload_n 0, 1) := by decide +kernel
theorem dX7_frame_81 : decode cX7_frame 81 = .ok (.getfield 7, 3) := by decide +kernel
theorem dX7_frame_84 : decode cX7_frame 84 = .ok (.sipush 153, 3) := by decide +kernel
theorem dX7_frame_87 : decode cX7_frame 87 = .ok (.iload_n 2, 1) := by decide +kernel
theorem dX7_frame_88 : decode cX7_frame 88 = .ok (.ifCond .eq 7, 3) := by decide +kernel
theorem dX7_frame_91 : decode cX7_frame 91 = .ok (.iconst 0, 1) := by decide +kernel
theorem dX7_frame_92 : decode cX7_frame 92 = .ok (.goto 13, 3) := by decide +kernel
theorem dX7_frame_95 : decode cX7_frame 95 = .ok (.aload_n 0, 1) := by decide +kernel
theorem dX7_frame_96 : decode cX7_frame 96 = .ok (.getfield 7, 3) := by decide +kernel
theorem dX7_frame_99 : decode cX7_frame 99 = .ok (.sipush 153, 3) := by decide +kernel
theorem dX7_frame_102 : decode cX7_frame 102 = .ok (.iaload, 1) := by decide +kernel
theorem dX7_frame_103 : decode cX7_frame 103 = .ok (.iconst 1, 1) := by decide +kernel
theorem dX7_frame_104 : decode cX7_frame 104 = .ok (.iadd, 1) := by decide +kernel
theorem dX7_frame_105 : decode cX7_frame 105 = .ok (.iastore, 1) := by decide +kernel
theorem dX7_frame_106 : decode cX7_frame 106 = .ok (.aload_n 0, 1) := by decide +kernel
theorem dX7_frame_107 : decode cX7_frame 107 = .ok (.getfield 7, 3) := by decide +kernel
theorem dX7_frame_110 : decode cX7_frame 110 = .ok (.sipush 153, 3) := by decide +kernel
theorem dX7_frame_113 : decode cX7_frame 113 = .ok (.iaload, 1) := by decide +kernel
theorem dX7_frame_114 : decode cX7_frame 114 = .ok (.aload_n 0, 1) := by decide +kernel
theorem dX7_frame_115 : decode cX7_frame 115 = .ok (.getfield 7, 3) := by decide +kernel
theorem dX7_frame_118 : decode cX7_frame 118 = .ok (.sipush 147, 3) := by decide +kernel
theorem dX7_frame_121 : decode cX7_frame 121 = .ok (.iaload, 1) := by decide +kernel
theorem dX7_frame_122 : decode cX7_frame 122 = .ok (.if_icmp .lt 7, 3) := by decide +kernel
theorem dX7_frame_125 : decode cX7_frame 125 = .ok (.iconst 1, 1) := by decide +kernel
theorem dX7_frame_126 : decode cX7_frame 126 = .ok (.goto 4, 3) := by decide +kernel
theorem dX7_frame_129 : decode cX7_frame 129 = .ok (.iconst 0, 1) := by decide +kernel
theorem dX7_frame_130 : decode cX7_frame 130 = .ok (.istore_n 3, 1) := by decide +kernel
theorem dX7_frame_131 : decode cX7_frame 131 = .ok (.aload_n 0, 1) := by decide +kernel
theorem dX7_frame_132 : decode cX7_frame 132 = .ok (.iload_n 2, 1) := by decide +kernel
theorem dX7_frame_133 : decode cX7_frame 133 = .ok (.iload_n 3, 1) := by decide +kernel
theorem dX7_frame_134 : decode cX7_frame 134 = .ok (.invokevirtual 74, 3) := by decide +kernel
theorem dX7_frame_137 : decode cX7_frame 137 = .ok (.aload_n 0, 1) := by decide +kernel
theorem dX7_frame_138 : decode cX7_frame 138 = .ok (.getfield 7, 3) := by decide +kernel
theorem dX7_frame_141 : decode cX7_frame 141 = .ok (.sipush 154, 3) := by decide +kernel
theorem dX7_frame_144 : decode cX7_frame 144 = .ok (.dup2, 1) := by decide +kernel
theorem dX7_frame_145 : decode cX7_frame 145 = .ok (.iaload, 1) := by decide +kernel
theorem dX7_frame_146 : decode cX7_frame 146 = .ok (.iload_n 3, 1) := by decide +kernel
theorem dX7_frame_147 : decode cX7_frame 147 = .ok (.ifCond .eq 18, 3) := by decide +kernel
theorem dX7_frame_150 : decode cX7_frame 150 = .ok (.aload_n 0, 1) := by decide +kernel
theorem dX7_frame_151 : decode cX7_frame 151 = .ok (.getfield 7, 3) := by decide +kernel
theorem dX7_frame_154 : decode cX7_frame 154 = .ok (.sipush 155, 3) := by decide +kernel
theorem dX7_frame_157 : decode cX7_frame 157 = .ok (.iaload, 1) := by decide +kernel
theorem dX7_frame_158 : decode cX7_frame 158 = .ok (.ifCond .ne 7, 3) := by decide +kernel
theorem dX7_frame_161 : decode cX7_frame 161 = .ok (.iconst 1, 1) := by decide +kernel
theorem dX7_frame_162 : decode cX7_frame 162 = .ok (.goto 4, 3) := by decide +kernel
theorem dX7_frame_165 : decode cX7_frame 165 = .ok (.iconst 0, 1) := by decide +kernel
theorem dX7_frame_166 : decode cX7_frame 166 = .ok (.iadd, 1) := by decide +kernel
theorem dX7_frame_167 : decode cX7_frame 167 = .ok (.iastore, 1) := by decide +kernel
theorem dX7_frame_168 : decode cX7_frame 168 = .ok (.aload_n 0, 1) := by decide +kernel
theorem dX7_frame_169 : decode cX7_frame 169 = .ok (.getfield 7, 3) := by decide +kernel
theorem dX7_frame_172 : decode cX7_frame 172 = .ok (.sipush 155, 3) := by decide +kernel
theorem dX7_frame_175 : decode cX7_frame 175 = .ok (.iload_n 3, 1) := by decide +kernel
theorem dX7_frame_176 : decode cX7_frame 176 = .ok (.ifCond .eq 7, 3) := by decide +kernel
theorem dX7_frame_179 : decode cX7_frame 179 = .ok (.iconst 1, 1) := by decide +kernel
theorem dX7_frame_180 : decode cX7_frame 180 = .ok (.goto 4, 3) := by decide +kernel
theorem dX7_frame_183 : decode cX7_frame 183 = .ok (.iconst 0, 1) := by decide +kernel
theorem dX7_frame_184 : decode cX7_frame 184 = .ok (.iastore, 1) := by decide +kernel
theorem dX7_frame_185 : decode cX7_frame 185 = .ok (.aload_n 0, 1) := by decide +kernel
theorem dX7_frame_186 : decode cX7_frame 186 = .ok (.getfield 7, 3) := by decide +kernel
theorem dX7_frame_189 : decode cX7_frame 189 = .ok (.sipush 148, 3) := by decide +kernel
theorem dX7_frame_192 : decode cX7_frame 192 = .ok (.dup2, 1) := by decide +kernel
theorem dX7_frame_193 : decode cX7_frame 193 = .ok (.iaload, 1) := by decide +kernel
theorem dX7_frame_194 : decode cX7_frame 194 = .ok (.aload_n 0, 1) := by decide +kernel
theorem dX7_frame_195 : decode cX7_frame 195 = .ok (.getfield 7, 3) := by decide +kernel
theorem dX7_frame_198 : decode cX7_frame 198 = .ok (.sipush 148, 3) := by decide +kernel
theorem dX7_frame_201 : decode cX7_frame 201 = .ok (.iaload, 1) := by decide +kernel
theorem dX7_frame_202 : decode cX7_frame 202 = .ok (.ifCond .le 7, 3) := by decide +kernel
theorem dX7_frame_205 : decode cX7_frame 205 = .ok (.iconst 1, 1) := by decide +kernel
theorem dX7_frame_206 : decode cX7_frame 206 = .ok (.goto 4, 3) := by decide +kernel
theorem dX7_frame_209 : decode cX7_frame 209 = .ok (.iconst 0, 1) := by decide +kernel
theorem dX7_frame_210 : decode cX7_frame 210 = .ok (.isub, 1) := by decide +kernel
theorem dX7_frame_211 : decode cX7_frame 211 = .ok (.iastore, 1) := by decide +kernel
theorem dX7_frame_212 : decode cX7_frame 212 = .ok (.iconst 0, 1) := by decide +kernel
theorem dX7_frame_213 : decode cX7_frame 213 = .ok (.istore 4, 2) := by decide +kernel
theorem dX7_frame_215 : decode cX7_frame 215 = .ok (.iconst 0, 1) := by decide +kernel
theorem dX7_frame_216 : decode cX7_frame 216 = .ok (.istore 5, 2) := by decide +kernel
theorem dX7_frame_218 : decode cX7_frame 218 = .ok (.iload 5, 2) := by decide +kernel
theorem dX7_frame_220 : decode cX7_frame 220 = .ok (.bipush 6, 2) := by decide +kernel
theorem dX7_frame_222 : decode cX7_frame 222 = .ok (.if_icmp .ge 40, 3) := by decide +kernel
theorem dX7_frame_225 : decode cX7_frame 225 = .ok (.iload 4, 2) := by decide +kernel
theorem dX7_frame_227 : decode cX7_frame 227 = .ok (.iload_n 3, 1) := by decide +kernel
theorem dX7_frame_228 : decode cX7_frame 228 = .ok (.ifCond .eq 19, 3) := by decide +kernel
theorem dX7_frame_231 : decode cX7_frame 231 = .ok (.aload_n 0, 1) := by decide +kernel
theorem dX7_frame_232 : decode cX7_frame 232 = .ok (.iconst 0, 1) := by decide +kernel
theorem dX7_frame_233 : decode cX7_frame 233 = .ok (.iload 5, 2) := by decide +kernel
theorem dX7_frame_235 : decode cX7_frame 235 = .ok (.iconst 5, 1) := by decide +kernel
theorem dX7_frame_236 : decode cX7_frame 236 = .ok (.invokevirtual 57, 3) := by decide +kernel
theorem dX7_frame_239 : decode cX7_frame 239 = .ok (.iconst 2, 1) := by decide +kernel
theorem dX7_frame_240 : decode cX7_frame 240 = .ok (.if_icmp .ne 7, 3) := by decide +kernel
theorem dX7_frame_243 : decode cX7_frame 243 = .ok (.iconst 0, 1) := by decide +kernel
theorem dX7_frame_244 : decode cX7_frame 244 = .ok (.goto 9, 3) := by decide +kernel
theorem dX7_frame_247 : decode cX7_frame 247 = .ok (.aload_n 0, 1) := by decide +kernel
theorem dX7_frame_248 : decode cX7_frame 248 = .ok (.iload 5, 2) := by decide +kernel
theorem dX7_frame_250 : decode cX7_frame 250 = .ok (.invokevirtual 78, 3) := by decide +kernel
theorem dX7_frame_253 : decode cX7_frame 253 = .ok (.iadd, 1) := by decide +kernel
theorem dX7_frame_254 : decode cX7_frame 254 = .ok (.istore 4, 2) := by decide +kernel
theorem dX7_frame_256 : decode cX7_frame 256 = .ok (.iinc 5 1, 3) := by decide +kernel
theorem dX7_frame_259 : decode cX7_frame 259 = .ok (.goto (-41), 3) := by decide +kernel
theorem dX7_frame_262 : decode cX7_frame 262 = .ok (.iload 4, 2) := by decide +kernel
theorem dX7_frame_264 : decode cX7_frame 264 = .ok (.ireturn, 1) := by decide +kernel
theorem dX7_framesSent_0 : decode cX7_framesSent 0 = .ok (.iconst 0, 1) := by decide +kernel
theorem dX7_framesSent_1 : decode cX7_framesSent 1 = .ok (.istore_n 3, 1) := by decide +kernel
theorem dX7_framesSent_2 : decode cX7_framesSent 2 = .ok (.iconst 0, 1) := by decide +kernel
theorem dX7_framesSent_3 : decode cX7_framesSent 3 = .ok (.istore 4, 2) := by decide +kernel
theorem dX7_framesSent_5 : decode cX7_framesSent 5 = .ok (.iload 4, 2) := by decide +kernel
theorem dX7_framesSent_7 : decode cX7_framesSent 7 = .ok (.iload_n 1, 1) := by decide +kernel
theorem dX7_framesSent_8 : decode cX7_framesSent 8 = .ok (.if_icmp .ge 17, 3) := by decide +kernel
theorem dX7_framesSent_11 : decode cX7_framesSent 11 = .ok (.iload_n 3, 1) := by decide +kernel
theorem dX7_framesSent_12 : decode cX7_framesSent 12 = .ok (.aload_n 0, 1) := by decide +kernel
theorem dX7_framesSent_13 : decode cX7_framesSent 13 = .ok (.iload_n 2, 1) := by decide +kernel
theorem dX7_framesSent_14 : decode cX7_framesSent 14 = .ok (.invokevirtual 81, 3) := by decide +kernel
theorem dX7_framesSent_17 : decode cX7_framesSent 17 = .ok (.iadd, 1) := by decide +kernel
theorem dX7_framesSent_18 : decode cX7_framesSent 18 = .ok (.istore_n 3, 1) := by decide +kernel
theorem dX7_framesSent_19 : decode cX7_framesSent 19 = .ok (.iinc 4 1, 3) := by decide +kernel
theorem dX7_framesSent_22 : decode cX7_framesSent 22 = .ok (.goto (-17), 3) := by decide +kernel
theorem dX7_framesSent_25 : decode cX7_framesSent 25 = .ok (.iload_n 3, 1) := by decide +kernel
theorem dX7_framesSent_26 : decode cX7_framesSent 26 = .ok (.ireturn, 1) := by decide +kernel
theorem dX7_copies_0 : decode cX7_copies 0 = .ok (.iconst 0, 1) := by decide +kernel
theorem dX7_copies_1 : decode cX7_copies 1 = .ok (.istore_n 3, 1) := by decide +kernel
theorem dX7_copies_2 : decode cX7_copies 2 = .ok (.iload_n 3, 1) := by decide +kernel
theorem dX7_copies_3 : decode cX7_copies 3 = .ok (.sipush 156, 3) := by decide +kernel
theorem dX7_copies_6 : decode cX7_copies 6 = .ok (.if_icmp .ge 33, 3) := by decide +kernel
theorem dX7_copies_9 : decode cX7_copies 9 = .ok (.aload_n 0, 1) := by decide +kernel
theorem dX7_copies_10 : decode cX7_copies 10 = .ok (.getfield 7, 3) := by decide +kernel
theorem dX7_copies_13 : decode cX7_copies 13 = .ok (.sipush 156, 3) := by decide +kernel
theorem dX7_copies_16 : decode cX7_copies 16 = .ok (.iload_n 2, 1) := by decide +kernel
theorem dX7_copies_17 : decode cX7_copies 17 = .ok (.imul, 1) := by decide +kernel
theorem dX7_copies_18 : decode cX7_copies 18 = .ok (.iload_n 3, 1) := by decide +kernel
theorem dX7_copies_19 : decode cX7_copies 19 = .ok (.iadd, 1) := by decide +kernel
theorem dX7_copies_20 : decode cX7_copies 20 = .ok (.aload_n 0, 1) := by decide +kernel
theorem dX7_copies_21 : decode cX7_copies 21 = .ok (.getfield 7, 3) := by decide +kernel
theorem dX7_copies_24 : decode cX7_copies 24 = .ok (.sipush 156, 3) := by decide +kernel
theorem dX7_copies_27 : decode cX7_copies 27 = .ok (.iload_n 1, 1) := by decide +kernel
theorem dX7_copies_28 : decode cX7_copies 28 = .ok (.imul, 1) := by decide +kernel
theorem dX7_copies_29 : decode cX7_copies 29 = .ok (.iload_n 3, 1) := by decide +kernel
theorem dX7_copies_30 : decode cX7_copies 30 = .ok (.iadd, 1) := by decide +kernel
theorem dX7_copies_31 : decode cX7_copies 31 = .ok (.iaload, 1) := by decide +kernel
theorem dX7_copies_32 : decode cX7_copies 32 = .ok (.iastore, 1) := by decide +kernel
theorem dX7_copies_33 : decode cX7_copies 33 = .ok (.iinc 3 1, 3) := by decide +kernel
theorem dX7_copies_36 : decode cX7_copies 36 = .ok (.goto (-34), 3) := by decide +kernel
theorem dX7_copies_39 : decode cX7_copies 39 = .ok (.return_, 1) := by decide +kernel
theorem dX7_save_0 : decode cX7_save 0 = .ok (.iconst 1, 1) := by decide +kernel
theorem dX7_save_1 : decode cX7_save 1 = .ok (.istore_n 1, 1) := by decide +kernel
theorem dX7_save_2 : decode cX7_save 2 = .ok (.iload_n 1, 1) := by decide +kernel
theorem dX7_save_3 : decode cX7_save 3 = .ok (.bipush 6, 2) := by decide +kernel
theorem dX7_save_5 : decode cX7_save 5 = .ok (.if_icmp .ge 26, 3) := by decide +kernel
theorem dX7_save_8 : decode cX7_save 8 = .ok (.aload_n 0, 1) := by decide +kernel
theorem dX7_save_9 : decode cX7_save 9 = .ok (.getfield 85, 3) := by decide +kernel
theorem dX7_save_12 : decode cX7_save 12 = .ok (.bipush 6, 2) := by decide +kernel
theorem dX7_save_14 : decode cX7_save 14 = .ok (.if_icmp .ne 17, 3) := by decide +kernel
theorem dX7_save_17 : decode cX7_save 17 = .ok (.aload_n 0, 1) := by decide +kernel
theorem dX7_save_18 : decode cX7_save 18 = .ok (.iload_n 1, 1) := by decide +kernel
theorem dX7_save_19 : decode cX7_save 19 = .ok (.iconst 1, 1) := by decide +kernel
theorem dX7_save_20 : decode cX7_save 20 = .ok (.iadd, 1) := by decide +kernel
theorem dX7_save_21 : decode cX7_save 21 = .ok (.iload_n 1, 1) := by decide +kernel
theorem dX7_save_22 : decode cX7_save 22 = .ok (.invokevirtual 88, 3) := by decide +kernel
theorem dX7_save_25 : decode cX7_save 25 = .ok (.iinc 1 1, 3) := by decide +kernel
theorem dX7_save_28 : decode cX7_save 28 = .ok (.goto (-26), 3) := by decide +kernel
theorem dX7_save_31 : decode cX7_save 31 = .ok (.aload_n 0, 1) := by decide +kernel
theorem dX7_save_32 : decode cX7_save 32 = .ok (.dup, 1) := by decide +kernel
theorem dX7_save_33 : decode cX7_save 33 = .ok (.getfield 85, 3) := by decide +kernel
theorem dX7_save_36 : decode cX7_save 36 = .ok (.aload_n 0, 1) := by decide +kernel
theorem dX7_save_37 : decode cX7_save 37 = .ok (.getfield 85, 3) := by decide +kernel
theorem dX7_save_40 : decode cX7_save 40 = .ok (.bipush 6, 2) := by decide +kernel
theorem dX7_save_42 : decode cX7_save 42 = .ok (.if_icmp .ge 7, 3) := by decide +kernel
theorem dX7_save_45 : decode cX7_save 45 = .ok (.iconst 1, 1) := by decide +kernel
theorem dX7_save_46 : decode cX7_save 46 = .ok (.goto 4, 3) := by decide +kernel
theorem dX7_save_49 : decode cX7_save 49 = .ok (.iconst 0, 1) := by decide +kernel
theorem dX7_save_50 : decode cX7_save 50 = .ok (.iadd, 1) := by decide +kernel
theorem dX7_save_51 : decode cX7_save 51 = .ok (.putfield 85, 3) := by decide +kernel
theorem dX7_save_54 : decode cX7_save 54 = .ok (.aload_n 0, 1) := by decide +kernel
theorem dX7_save_55 : decode cX7_save 55 = .ok (.iconst 0, 1) := by decide +kernel
theorem dX7_save_56 : decode cX7_save 56 = .ok (.aload_n 0, 1) := by decide +kernel
theorem dX7_save_57 : decode cX7_save 57 = .ok (.getfield 85, 3) := by decide +kernel
theorem dX7_save_60 : decode cX7_save 60 = .ok (.invokevirtual 88, 3) := by decide +kernel
theorem dX7_save_63 : decode cX7_save 63 = .ok (.return_, 1) := by decide +kernel
theorem dX7_changed_0 : decode cX7_changed 0 = .ok (.aload_n 0, 1) := by decide +kernel
theorem dX7_changed_1 : decode cX7_changed 1 = .ok (.invokevirtual 92, 3) := by decide +kernel
theorem dX7_changed_4 : decode cX7_changed 4 = .ok (.aload_n 0, 1) := by decide +kernel
theorem dX7_changed_5 : decode cX7_changed 5 = .ok (.getfield 7, 3) := by decide +kernel
theorem dX7_changed_8 : decode cX7_changed 8 = .ok (.iload_n 1, 1) := by decide +kernel
theorem dX7_changed_9 : decode cX7_changed 9 = .ok (.iaload, 1) := by decide +kernel
theorem dX7_changed_10 : decode cX7_changed 10 = .ok (.istore_n 3, 1) := by decide +kernel
theorem dX7_changed_11 : decode cX7_changed 11 = .ok (.aload_n 0, 1) := by decide +kernel
theorem dX7_changed_12 : decode cX7_changed 12 = .ok (.getfield 7, 3) := by decide +kernel
theorem dX7_changed_15 : decode cX7_changed 15 = .ok (.iload_n 1, 1) := by decide +kernel
theorem dX7_changed_16 : decode cX7_changed 16 = .ok (.iload_n 2, 1) := by decide +kernel
theorem dX7_changed_17 : decode cX7_changed 17 = .ok (.iastore, 1) := by decide +kernel
theorem dX7_changed_18 : decode cX7_changed 18 = .ok (.iload_n 3, 1) := by decide +kernel
theorem dX7_changed_19 : decode cX7_changed 19 = .ok (.ireturn, 1) := by decide +kernel
theorem dX7_move_0 : decode cX7_move 0 = .ok (.aload_n 0, 1) := by decide +kernel
theorem dX7_move_1 : decode cX7_move 1 = .ok (.iload_n 1, 1) := by decide +kernel
theorem dX7_move_2 : decode cX7_move 2 = .ok (.invokestatic 95, 3) := by decide +kernel
theorem dX7_move_5 : decode cX7_move 5 = .ok (.ifCond .ne 7, 3) := by decide +kernel
theorem dX7_move_8 : decode cX7_move 8 = .ok (.iconst 1, 1) := by decide +kernel
theorem dX7_move_9 : decode cX7_move 9 = .ok (.goto 19, 3) := by decide +kernel
theorem dX7_move_12 : decode cX7_move 12 = .ok (.iload_n 2, 1) := by decide +kernel
theorem dX7_move_13 : decode cX7_move 13 = .ok (.bipush (-100), 2) := by decide +kernel
theorem dX7_move_15 : decode cX7_move 15 = .ok (.bipush 100, 2) := by decide +kernel
theorem dX7_move_17 : decode cX7_move 17 = .ok (.invokestatic 35, 3) := by decide +kernel
theorem dX7_move_20 : decode cX7_move 20 = .ok (.ifCond .ne 7, 3) := by decide +kernel
theorem dX7_move_23 : decode cX7_move 23 = .ok (.iconst 2, 1) := by decide +kernel
theorem dX7_move_24 : decode cX7_move 24 = .ok (.goto 4, 3) := by decide +kernel
theorem dX7_move_27 : decode cX7_move 27 = .ok (.iconst 0, 1) := by decide +kernel
theorem dX7_move_28 : decode cX7_move 28 = .ok (.invokevirtual 99, 3) := by decide +kernel
theorem dX7_move_31 : decode cX7_move 31 = .ok (.ifCond .eq 14, 3) := by decide +kernel
theorem dX7_move_34 : decode cX7_move 34 = .ok (.aload_n 0, 1) := by decide +kernel
theorem dX7_move_35 : decode cX7_move 35 = .ok (.iconst 0, 1) := by decide +kernel
theorem dX7_move_36 : decode cX7_move 36 = .ok (.iload_n 1, 1) := by decide +kernel
theorem dX7_move_37 : decode cX7_move 37 = .ok (.iadd, 1) := by decide +kernel
theorem dX7_move_38 : decode cX7_move 38 = .ok (.iload_n 2, 1) := by decide +kernel
theorem dX7_move_39 : decode cX7_move 39 = .ok (.invokevirtual 102, 3) := by decide +kernel
theorem dX7_move_42 : decode cX7_move 42 = .ok (.goto 4, 3) := by decide +kernel
theorem dX7_move_45 : decode cX7_move 45 = .ok (.iconst 0, 1) := by decide +kernel
theorem dX7_move_46 : decode cX7_move 46 = .ok (.ireturn, 1) := by decide +kernel
theorem dX7_position_0 : decode cX7_position 0 = .ok (.aload_n 0, 1) := by decide +kernel
theorem dX7_position_1 : decode cX7_position 1 = .ok (.iload_n 1, 1) := by decide +kernel
theorem dX7_position_2 : decode cX7_position 2 = .ok (.invokestatic 95, 3) := by decide +kernel
theorem dX7_position_5 : decode cX7_position 5 = .ok (.ifCond .eq 7, 3) := by decide +kernel
theorem dX7_position_8 : decode cX7_position 8 = .ok (.iconst 0, 1) := by decide +kernel
theorem dX7_position_9 : decode cX7_position 9 = .ok (.goto 4, 3) := by decide +kernel
theorem dX7_position_12 : decode cX7_position 12 = .ok (.iconst 1, 1) := by decide +kernel
theorem dX7_position_13 : decode cX7_position 13 = .ok (.invokevirtual 99, 3) := by decide +kernel
theorem dX7_position_16 : decode cX7_position 16 = .ok (.ifCond .eq 14, 3) := by decide +kernel
theorem dX7_position_19 : decode cX7_position 19 = .ok (.aload_n 0, 1) := by decide +kernel
theorem dX7_position_20 : decode cX7_position 20 = .ok (.getfield 7, 3) := by decide +kernel
theorem dX7_position_23 : decode cX7_position 23 = .ok (.iconst 0, 1) := by decide +kernel
theorem dX7_position_24 : decode cX7_position 24 = .ok (.iload_n 1, 1) := by decide +kernel
theorem dX7_position_25 : decode cX7_position 25 = .ok (.iadd, 1) := by decide +kernel
theorem dX7_position_26 : decode cX7_position 26 = .ok (.iaload, 1) := by decide +kernel
theorem dX7_position_27 : decode cX7_position 27 = .ok (.goto 4, 3) := by decide +kernel
theorem dX7_position_30 : decode cX7_position 30 = .ok (.iconst 0, 1) := by decide +kernel
theorem dX7_position_31 : decode cX7_position 31 = .ok (.ireturn, 1) := by decide +kernel
theorem dX7_setTrim_0 : decode cX7_setTrim 0 = .ok (.aload_n 0, 1) := by decide +kernel
theorem dX7_setTrim_1 : decode cX7_setTrim 1 = .ok (.iload_n 1, 1) := by decide +kernel
theorem dX7_setTrim_2 : decode cX7_setTrim 2 = .ok (.invokestatic 95, 3) := by decide +kernel
theorem dX7_setTrim_5 : decode cX7_setTrim 5 = .ok (.ifCond .ne 7, 3) := by decide +kernel
theorem dX7_setTrim_8 : decode cX7_setTrim 8 = .ok (.iconst 1, 1) := by decide +kernel
theorem dX7_setTrim_9 : decode cX7_setTrim 9 = .ok (.goto 19, 3) := by decide +kernel
theorem dX7_setTrim_12 : decode cX7_setTrim 12 = .ok (.iload_n 2, 1) := by decide +kernel
theorem dX7_setTrim_13 : decode cX7_setTrim 13 = .ok (.bipush (-25), 2) := by decide +kernel
theorem dX7_setTrim_15 : decode cX7_setTrim 15 = .ok (.bipush 25, 2) := by decide +kernel
theorem dX7_setTrim_17 : decode cX7_setTrim 17 = .ok (.invokestatic 35, 3) := by decide +kernel
theorem dX7_setTrim_20 : decode cX7_setTrim 20 = .ok (.ifCond .ne 7, 3) := by decide +kernel
theorem dX7_setTrim_23 : decode cX7_setTrim 23 = .ok (.iconst 2, 1) := by decide +kernel
theorem dX7_setTrim_24 : decode cX7_setTrim 24 = .ok (.goto 4, 3) := by decide +kernel
theorem dX7_setTrim_27 : decode cX7_setTrim 27 = .ok (.iconst 0, 1) := by decide +kernel
theorem dX7_setTrim_28 : decode cX7_setTrim 28 = .ok (.invokevirtual 99, 3) := by decide +kernel
theorem dX7_setTrim_31 : decode cX7_setTrim 31 = .ok (.ifCond .eq 25, 3) := by decide +kernel
theorem dX7_setTrim_34 : decode cX7_setTrim 34 = .ok (.aload_n 0, 1) := by decide +kernel
theorem dX7_setTrim_35 : decode cX7_setTrim 35 = .ok (.bipush 16, 2) := by decide +kernel
theorem dX7_setTrim_37 : decode cX7_setTrim 37 = .ok (.iconst 4, 1) := by decide +kernel
theorem dX7_setTrim_38 : decode cX7_setTrim 38 = .ok (.aload_n 0, 1) := by decide +kernel
theorem dX7_setTrim_39 : decode cX7_setTrim 39 = .ok (.getfield 7, 3) := by decide +kernel
theorem dX7_setTrim_42 : decode cX7_setTrim 42 = .ok (.bipush 24, 2) := by decide +kernel
theorem dX7_setTrim_44 : decode cX7_setTrim 44 = .ok (.iaload, 1) := by decide +kernel
theorem dX7_setTrim_45 : decode cX7_setTrim 45 = .ok (.imul, 1) := by decide +kernel
theorem dX7_setTrim_46 : decode cX7_setTrim 46 = .ok (.iadd, 1) := by decide +kernel
theorem dX7_setTrim_47 : decode cX7_setTrim 47 = .ok (.iload_n 1, 1) := by decide +kernel
theorem dX7_setTrim_48 : decode cX7_setTrim 48 = .ok (.iadd, 1) := by decide +kernel
theorem dX7_setTrim_49 : decode cX7_setTrim 49 = .ok (.iload_n 2, 1) := by decide +kernel
theorem dX7_setTrim_50 : decode cX7_setTrim 50 = .ok (.invokevirtual 102, 3) := by decide +kernel
theorem dX7_setTrim_53 : decode cX7_setTrim 53 = .ok (.goto 4, 3) := by decide +kernel
theorem dX7_setTrim_56 : decode cX7_setTrim 56 = .ok (.iconst 0, 1) := by decide +kernel
theorem dX7_setTrim_57 : decode cX7_setTrim 57 = .ok (.ireturn, 1) := by decide +kernel
theorem dX7_trim_0 : decode cX7_trim 0 = .ok (.aload_n 0, 1) := by decide +kernel
theorem dX7_trim_1 : decode cX7_trim 1 = .ok (.iload_n 1, 1) := by decide +kernel
theorem dX7_trim_2 : decode cX7_trim 2 = .ok (.invokestatic 95, 3) := by decide +kernel
theorem dX7_trim_5 : decode cX7_trim 5 = .ok (.ifCond .eq 7, 3) := by decide +kernel
theorem dX7_trim_8 : decode cX7_trim 8 = .ok (.iconst 0, 1) := by decide +kernel
theorem dX7_trim_9 : decode cX7_trim 9 = .ok (.goto 4, 3) := by decide +kernel
theorem dX7_trim_12 : decode cX7_trim 12 = .ok (.iconst 1, 1) := by decide +kernel
theorem dX7_trim_13 : decode cX7_trim 13 = .ok (.invokevirtual 99, 3) := by decide +kernel
theorem dX7_trim_16 : decode cX7_trim 16 = .ok (.ifCond .eq 25, 3) := by decide +kernel
theorem dX7_trim_19 : decode cX7_trim 19 = .ok (.aload_n 0, 1) := by decide +kernel
theorem dX7_trim_20 : decode cX7_trim 20 = .ok (.getfield 7, 3) := by decide +kernel
theorem dX7_trim_23 : decode cX7_trim 23 = .ok (.bipush 16, 2) := by decide +kernel
theorem dX7_trim_25 : decode cX7_trim 25 = .ok (.iconst 4, 1) := by decide +kernel
theorem dX7_trim_26 : decode cX7_trim 26 = .ok (.aload_n 0, 1) := by decide +kernel
theorem dX7_trim_27 : decode cX7_trim 27 = .ok (.getfield 7, 3) := by decide +kernel
theorem dX7_trim_30 : decode cX7_trim 30 = .ok (.bipush 24, 2) := by decide +kernel
theorem dX7_trim_32 : decode cX7_trim 32 = .ok (.iaload, 1) := by decide +kernel
theorem dX7_trim_33 : decode cX7_trim 33 = .ok (.imul, 1) := by decide +kernel
theorem dX7_trim_34 : decode cX7_trim 34 = .ok (.iadd, 1) := by decide +kernel
theorem dX7_trim_35 : decode cX7_trim 35 = .ok (.iload_n 1, 1) := by decide +kernel
theorem dX7_trim_36 : decode cX7_trim 36 = .ok (.iadd, 1) := by decide +kernel
theorem dX7_trim_37 : decode cX7_trim 37 = .ok (.iaload, 1) := by decide +kernel
theorem dX7_trim_38 : decode cX7_trim 38 = .ok (.goto 4, 3) := by decide +kernel
theorem dX7_trim_41 : decode cX7_trim 41 = .ok (.iconst 0, 1) := by decide +kernel
theorem dX7_trim_42 : decode cX7_trim 42 = .ok (.ireturn, 1) := by decide +kernel
theorem dX7_setRate_0 : decode cX7_setRate 0 = .ok (.aload_n 0, 1) := by decide +kernel
theorem dX7_setRate_1 : decode cX7_setRate 1 = .ok (.iload_n 1, 1) := by decide +kernel
theorem dX7_setRate_2 : decode cX7_setRate 2 = .ok (.invokestatic 95, 3) := by decide +kernel
theorem dX7_setRate_5 : decode cX7_setRate 5 = .ok (.ifCond .ne 7, 3) := by decide +kernel
theorem dX7_setRate_8 : decode cX7_setRate 8 = .ok (.iconst 1, 1) := by decide +kernel
theorem dX7_setRate_9 : decode cX7_setRate 9 = .ok (.goto 18, 3) := by decide +kernel
theorem dX7_setRate_12 : decode cX7_setRate 12 = .ok (.iload_n 2, 1) := by decide +kernel
theorem dX7_setRate_13 : decode cX7_setRate 13 = .ok (.iconst 0, 1) := by decide +kernel
theorem dX7_setRate_14 : decode cX7_setRate 14 = .ok (.bipush 125, 2) := by decide +kernel
theorem dX7_setRate_16 : decode cX7_setRate 16 = .ok (.invokestatic 35, 3) := by decide +kernel
theorem dX7_setRate_19 : decode cX7_setRate 19 = .ok (.ifCond .ne 7, 3) := by decide +kernel
theorem dX7_setRate_22 : decode cX7_setRate 22 = .ok (.iconst 2, 1) := by decide +kernel
theorem dX7_setRate_23 : decode cX7_setRate 23 = .ok (.goto 4, 3) := by decide +kernel
theorem dX7_setRate_26 : decode cX7_setRate 26 = .ok (.iconst 0, 1) := by decide +kernel
theorem dX7_setRate_27 : decode cX7_setRate 27 = .ok (.invokevirtual 99, 3) := by decide +kernel
theorem dX7_setRate_30 : decode cX7_setRate 30 = .ok (.ifCond .eq 25, 3) := by decide +kernel
theorem dX7_setRate_33 : decode cX7_setRate 33 = .ok (.aload_n 0, 1) := by decide +kernel
theorem dX7_setRate_34 : decode cX7_setRate 34 = .ok (.bipush 8, 2) := by decide +kernel
theorem dX7_setRate_36 : decode cX7_setRate 36 = .ok (.iconst 4, 1) := by decide +kernel
theorem dX7_setRate_37 : decode cX7_setRate 37 = .ok (.aload_n 0, 1) := by decide +kernel
theorem dX7_setRate_38 : decode cX7_setRate 38 = .ok (.getfield 7, 3) := by decide +kernel
theorem dX7_setRate_41 : decode cX7_setRate 41 = .ok (.bipush 24, 2) := by decide +kernel
theorem dX7_setRate_43 : decode cX7_setRate 43 = .ok (.iaload, 1) := by decide +kernel
theorem dX7_setRate_44 : decode cX7_setRate 44 = .ok (.imul, 1) := by decide +kernel
theorem dX7_setRate_45 : decode cX7_setRate 45 = .ok (.iadd, 1) := by decide +kernel
theorem dX7_setRate_46 : decode cX7_setRate 46 = .ok (.iload_n 1, 1) := by decide +kernel
theorem dX7_setRate_47 : decode cX7_setRate 47 = .ok (.iadd, 1) := by decide +kernel
theorem dX7_setRate_48 : decode cX7_setRate 48 = .ok (.iload_n 2, 1) := by decide +kernel
theorem dX7_setRate_49 : decode cX7_setRate 49 = .ok (.invokevirtual 102, 3) := by decide +kernel
theorem dX7_setRate_52 : decode cX7_setRate 52 = .ok (.goto 4, 3) := by decide +kernel
theorem dX7_setRate_55 : decode cX7_setRate 55 = .ok (.iconst 0, 1) := by decide +kernel
theorem dX7_setRate_56 : decode cX7_setRate 56 = .ok (.ireturn, 1) := by decide +kernel
theorem dX7_rate_0 : decode cX7_rate 0 = .ok (.aload_n 0, 1) := by decide +kernel
theorem dX7_rate_1 : decode cX7_rate 1 = .ok (.iload_n 1, 1) := by decide +kernel
theorem dX7_rate_2 : decode cX7_rate 2 = .ok (.invokestatic 95, 3) := by decide +kernel
theorem dX7_rate_5 : decode cX7_rate 5 = .ok (.ifCond .eq 7, 3) := by decide +kernel
theorem dX7_rate_8 : decode cX7_rate 8 = .ok (.iconst 0, 1) := by decide +kernel
theorem dX7_rate_9 : decode cX7_rate 9 = .ok (.goto 4, 3) := by decide +kernel
theorem dX7_rate_12 : decode cX7_rate 12 = .ok (.iconst 1, 1) := by decide +kernel
theorem dX7_rate_13 : decode cX7_rate 13 = .ok (.invokevirtual 99, 3) := by decide +kernel
theorem dX7_rate_16 : decode cX7_rate 16 = .ok (.ifCond .eq 25, 3) := by decide +kernel
theorem dX7_rate_19 : decode cX7_rate 19 = .ok (.aload_n 0, 1) := by decide +kernel
theorem dX7_rate_20 : decode cX7_rate 20 = .ok (.getfield 7, 3) := by decide +kernel
theorem dX7_rate_23 : decode cX7_rate 23 = .ok (.bipush 8, 2) := by decide +kernel
theorem dX7_rate_25 : decode cX7_rate 25 = .ok (.iconst 4, 1) := by decide +kernel
theorem dX7_rate_26 : decode cX7_rate 26 = .ok (.aload_n 0, 1) := by decide +kernel
theorem dX7_rate_27 : decode cX7_rate 27 = .ok (.getfield 7, 3) := by decide +kernel
theorem dX7_rate_30 : decode cX7_rate 30 = .ok (.bipush 24, 2) := by decide +kernel
theorem dX7_rate_32 : decode cX7_rate 32 = .ok (.iaload, 1) := by decide +kernel
theorem dX7_rate_33 : decode cX7_rate 33 = .ok (.imul, 1) := by decide +kernel
theorem dX7_rate_34 : decode cX7_rate 34 = .ok (.iadd, 1) := by decide +kernel
theorem dX7_rate_35 : decode cX7_rate 35 = .ok (.iload_n 1, 1) := by decide +kernel
theorem dX7_rate_36 : decode cX7_rate 36 = .ok (.iadd, 1) := by decide +kernel
theorem dX7_rate_37 : decode cX7_rate 37 = .ok (.iaload, 1) := by decide +kernel
theorem dX7_rate_38 : decode cX7_rate 38 = .ok (.goto 4, 3) := by decide +kernel
theorem dX7_rate_41 : decode cX7_rate 41 = .ok (.iconst 0, 1) := by decide +kernel
theorem dX7_rate_42 : decode cX7_rate 42 = .ok (.ireturn, 1) := by decide +kernel
theorem dX7_setExpo_0 : decode cX7_setExpo 0 = .ok (.aload_n 0, 1) := by decide +kernel
theorem dX7_setExpo_1 : decode cX7_setExpo 1 = .ok (.iload_n 1, 1) := by decide +kernel
theorem dX7_setExpo_2 : decode cX7_setExpo 2 = .ok (.invokestatic 95, 3) := by decide +kernel
theorem dX7_setExpo_5 : decode cX7_setExpo 5 = .ok (.ifCond .ne 7, 3) := by decide +kernel
theorem dX7_setExpo_8 : decode cX7_setExpo 8 = .ok (.iconst 1, 1) := by decide +kernel
theorem dX7_setExpo_9 : decode cX7_setExpo 9 = .ok (.goto 18, 3) := by decide +kernel
theorem dX7_setExpo_12 : decode cX7_setExpo 12 = .ok (.iload_n 2, 1) := by decide +kernel
theorem dX7_setExpo_13 : decode cX7_setExpo 13 = .ok (.iconst 0, 1) := by decide +kernel
theorem dX7_setExpo_14 : decode cX7_setExpo 14 = .ok (.bipush 100, 2) := by decide +kernel
theorem dX7_setExpo_16 : decode cX7_setExpo 16 = .ok (.invokestatic 35, 3) := by decide +kernel
theorem dX7_setExpo_19 : decode cX7_setExpo 19 = .ok (.ifCond .ne 7, 3) := by decide +kernel
theorem dX7_setExpo_22 : decode cX7_setExpo 22 = .ok (.iconst 2, 1) := by decide +kernel
theorem dX7_setExpo_23 : decode cX7_setExpo 23 = .ok (.goto 4, 3) := by decide +kernel
theorem dX7_setExpo_26 : decode cX7_setExpo 26 = .ok (.iconst 0, 1) := by decide +kernel
theorem dX7_setExpo_27 : decode cX7_setExpo 27 = .ok (.invokevirtual 99, 3) := by decide +kernel
theorem dX7_setExpo_30 : decode cX7_setExpo 30 = .ok (.ifCond .eq 14, 3) := by decide +kernel
theorem dX7_setExpo_33 : decode cX7_setExpo 33 = .ok (.aload_n 0, 1) := by decide +kernel
theorem dX7_setExpo_34 : decode cX7_setExpo 34 = .ok (.iconst 4, 1) := by decide +kernel
theorem dX7_setExpo_35 : decode cX7_setExpo 35 = .ok (.iload_n 1, 1) := by decide +kernel
theorem dX7_setExpo_36 : decode cX7_setExpo 36 = .ok (.iadd, 1) := by decide +kernel
theorem dX7_setExpo_37 : decode cX7_setExpo 37 = .ok (.iload_n 2, 1) := by decide +kernel
theorem dX7_setExpo_38 : decode cX7_setExpo 38 = .ok (.invokevirtual 102, 3) := by decide +kernel
theorem dX7_setExpo_41 : decode cX7_setExpo 41 = .ok (.goto 4, 3) := by decide +kernel
theorem dX7_setExpo_44 : decode cX7_setExpo 44 = .ok (.iconst 0, 1) := by decide +kernel
theorem dX7_setExpo_45 : decode cX7_setExpo 45 = .ok (.ireturn, 1) := by decide +kernel
theorem dX7_expo_0 : decode cX7_expo 0 = .ok (.aload_n 0, 1) := by decide +kernel
theorem dX7_expo_1 : decode cX7_expo 1 = .ok (.iload_n 1, 1) := by decide +kernel
theorem dX7_expo_2 : decode cX7_expo 2 = .ok (.invokestatic 95, 3) := by decide +kernel
theorem dX7_expo_5 : decode cX7_expo 5 = .ok (.ifCond .eq 7, 3) := by decide +kernel
theorem dX7_expo_8 : decode cX7_expo 8 = .ok (.iconst 0, 1) := by decide +kernel
theorem dX7_expo_9 : decode cX7_expo 9 = .ok (.goto 4, 3) := by decide +kernel
theorem dX7_expo_12 : decode cX7_expo 12 = .ok (.iconst 1, 1) := by decide +kernel
theorem dX7_expo_13 : decode cX7_expo 13 = .ok (.invokevirtual 99, 3) := by decide +kernel
theorem dX7_expo_16 : decode cX7_expo 16 = .ok (.ifCond .eq 14, 3) := by decide +kernel
theorem dX7_expo_19 : decode cX7_expo 19 = .ok (.aload_n 0, 1) := by decide +kernel
theorem dX7_expo_20 : decode cX7_expo 20 = .ok (.getfield 7, 3) := by decide +kernel
theorem dX7_expo_23 : decode cX7_expo 23 = .ok (.iconst 4, 1) := by decide +kernel
theorem dX7_expo_24 : decode cX7_expo 24 = .ok (.iload_n 1, 1) := by decide +kernel
theorem dX7_expo_25 : decode cX7_expo 25 = .ok (.iadd, 1) := by decide +kernel
theorem dX7_expo_26 : decode cX7_expo 26 = .ok (.iaload, 1) := by decide +kernel
theorem dX7_expo_27 : decode cX7_expo 27 = .ok (.goto 4, 3) := by decide +kernel
theorem dX7_expo_30 : decode cX7_expo 30 = .ok (.iconst 0, 1) := by decide +kernel
theorem dX7_expo_31 : decode cX7_expo 31 = .ok (.ireturn, 1) := by decide +kernel
theorem dX7_switchRates_0 : decode cX7_switchRates 0 = .ok (.aload_n 0, 1) := by decide +kernel
theorem dX7_switchRates_1 : decode cX7_switchRates 1 = .ok (.iconst 0, 1) := by decide +kernel
theorem dX7_switchRates_2 : decode cX7_switchRates 2 = .ok (.putfield 31, 3) := by decide +kernel
theorem dX7_switchRates_5 : decode cX7_switchRates 5 = .ok (.aload_n 0, 1) := by decide +kernel
theorem dX7_switchRates_6 : decode cX7_switchRates 6 = .ok (.bipush 24, 2) := by decide +kernel
theorem dX7_switchRates_8 : decode cX7_switchRates 8 = .ok (.iconst 1, 1) := by decide +kernel
theorem dX7_switchRates_9 : decode cX7_switchRates 9 = .ok (.aload_n 0, 1) := by decide +kernel
theorem dX7_switchRates_10 : decode cX7_switchRates 10 = .ok (.getfield 7, 3) := by decide +kernel
theorem dX7_switchRates_13 : decode cX7_switchRates 13 = .ok (.bipush 24, 2) := by decide +kernel
theorem dX7_switchRates_15 : decode cX7_switchRates 15 = .ok (.iaload, 1) := by decide +kernel
theorem dX7_switchRates_16 : decode cX7_switchRates 16 = .ok (.isub, 1) := by decide +kernel
theorem dX7_switchRates_17 : decode cX7_switchRates 17 = .ok (.invokevirtual 102, 3) := by decide +kernel
theorem dX7_switchRates_20 : decode cX7_switchRates 20 = .ok (.ifCond .ne 7, 3) := by decide +kernel
theorem dX7_switchRates_23 : decode cX7_switchRates 23 = .ok (.iconst 1, 1) := by decide +kernel
theorem dX7_switchRates_24 : decode cX7_switchRates 24 = .ok (.goto 4, 3) := by decide +kernel
theorem dX7_switchRates_27 : decode cX7_switchRates 27 = .ok (.iconst 0, 1) := by decide +kernel
theorem dX7_switchRates_28 : decode cX7_switchRates 28 = .ok (.ireturn, 1) := by decide +kernel
theorem dX7_isHigh_0 : decode cX7_isHigh 0 = .ok (.aload_n 0, 1) := by decide +kernel
theorem dX7_isHigh_1 : decode cX7_isHigh 1 = .ok (.iconst 0, 1) := by decide +kernel
theorem dX7_isHigh_2 : decode cX7_isHigh 2 = .ok (.putfield 31, 3) := by decide +kernel
theorem dX7_isHigh_5 : decode cX7_isHigh 5 = .ok (.aload_n 0, 1) := by decide +kernel
theorem dX7_isHigh_6 : decode cX7_isHigh 6 = .ok (.getfield 7, 3) := by decide +kernel
theorem dX7_isHigh_9 : decode cX7_isHigh 9 = .ok (.bipush 24, 2) := by decide +kernel
theorem dX7_isHigh_11 : decode cX7_isHigh 11 = .ok (.iaload, 1) := by decide +kernel
theorem dX7_isHigh_12 : decode cX7_isHigh 12 = .ok (.iconst 1, 1) := by decide +kernel
theorem dX7_isHigh_13 : decode cX7_isHigh 13 = .ok (.if_icmp .ne 7, 3) := by decide +kernel
theorem dX7_isHigh_16 : decode cX7_isHigh 16 = .ok (.iconst 1, 1) := by decide +kernel
theorem dX7_isHigh_17 : decode cX7_isHigh 17 = .ok (.goto 4, 3) := by decide +kernel
theorem dX7_isHigh_20 : decode cX7_isHigh 20 = .ok (.iconst 0, 1) := by decide +kernel
theorem dX7_isHigh_21 : decode cX7_isHigh 21 = .ok (.ireturn, 1) := by decide +kernel
theorem dX7_cutThrottle_0 : decode cX7_cutThrottle 0 = .ok (.aload_n 0, 1) := by decide +kernel
theorem dX7_cutThrottle_1 : decode cX7_cutThrottle 1 = .ok (.iconst 0, 1) := by decide +kernel
theorem dX7_cutThrottle_2 : decode cX7_cutThrottle 2 = .ok (.putfield 31, 3) := by decide +kernel
theorem dX7_cutThrottle_5 : decode cX7_cutThrottle 5 = .ok (.aload_n 0, 1) := by decide +kernel
theorem dX7_cutThrottle_6 : decode cX7_cutThrottle 6 = .ok (.bipush 25, 2) := by decide +kernel
theorem dX7_cutThrottle_8 : decode cX7_cutThrottle 8 = .ok (.iload_n 1, 1) := by decide +kernel
theorem dX7_cutThrottle_9 : decode cX7_cutThrottle 9 = .ok (.ifCond .eq 7, 3) := by decide +kernel
theorem dX7_cutThrottle_12 : decode cX7_cutThrottle 12 = .ok (.iconst 1, 1) := by decide +kernel
theorem dX7_cutThrottle_13 : decode cX7_cutThrottle 13 = .ok (.goto 4, 3) := by decide +kernel
theorem dX7_cutThrottle_16 : decode cX7_cutThrottle 16 = .ok (.iconst 0, 1) := by decide +kernel
theorem dX7_cutThrottle_17 : decode cX7_cutThrottle 17 = .ok (.invokevirtual 102, 3) := by decide +kernel
theorem dX7_cutThrottle_20 : decode cX7_cutThrottle 20 = .ok (.iconst 1, 1) := by decide +kernel
theorem dX7_cutThrottle_21 : decode cX7_cutThrottle 21 = .ok (.if_icmp .ne 7, 3) := by decide +kernel
theorem dX7_cutThrottle_24 : decode cX7_cutThrottle 24 = .ok (.iconst 1, 1) := by decide +kernel
theorem dX7_cutThrottle_25 : decode cX7_cutThrottle 25 = .ok (.goto 4, 3) := by decide +kernel
theorem dX7_cutThrottle_28 : decode cX7_cutThrottle 28 = .ok (.iconst 0, 1) := by decide +kernel
theorem dX7_cutThrottle_29 : decode cX7_cutThrottle 29 = .ok (.ireturn, 1) := by decide +kernel
theorem dX7_isCut_0 : decode cX7_isCut 0 = .ok (.aload_n 0, 1) := by decide +kernel
theorem dX7_isCut_1 : decode cX7_isCut 1 = .ok (.iconst 0, 1) := by decide +kernel
theorem dX7_isCut_2 : decode cX7_isCut 2 = .ok (.putfield 31, 3) := by decide +kernel
theorem dX7_isCut_5 : decode cX7_isCut 5 = .ok (.aload_n 0, 1) := by decide +kernel
theorem dX7_isCut_6 : decode cX7_isCut 6 = .ok (.getfield 7, 3) := by decide +kernel
theorem dX7_isCut_9 : decode cX7_isCut 9 = .ok (.bipush 25, 2) := by decide +kernel
theorem dX7_isCut_11 : decode cX7_isCut 11 = .ok (.iaload, 1) := by decide +kernel
theorem dX7_isCut_12 : decode cX7_isCut 12 = .ok (.iconst 1, 1) := by decide +kernel
theorem dX7_isCut_13 : decode cX7_isCut 13 = .ok (.if_icmp .ne 7, 3) := by decide +kernel
theorem dX7_isCut_16 : decode cX7_isCut 16 = .ok (.iconst 1, 1) := by decide +kernel
theorem dX7_isCut_17 : decode cX7_isCut 17 = .ok (.goto 4, 3) := by decide +kernel
theorem dX7_isCut_20 : decode cX7_isCut 20 = .ok (.iconst 0, 1) := by decide +kernel
theorem dX7_isCut_21 : decode cX7_isCut 21 = .ok (.ireturn, 1) := by decide +kernel
theorem dX7_command_0 : decode cX7_command 0 = .ok (.aload_n 0, 1) := by decide +kernel
theorem dX7_command_1 : decode cX7_command 1 = .ok (.iload_n 1, 1) := by decide +kernel
theorem dX7_command_2 : decode cX7_command 2 = .ok (.invokestatic 95, 3) := by decide +kernel
theorem dX7_command_5 : decode cX7_command 5 = .ok (.ifCond .eq 7, 3) := by decide +kernel
theorem dX7_command_8 : decode cX7_command 8 = .ok (.iconst 0, 1) := by decide +kernel
theorem dX7_command_9 : decode cX7_command 9 = .ok (.goto 4, 3) := by decide +kernel
theorem dX7_command_12 : decode cX7_command 12 = .ok (.iconst 1, 1) := by decide +kernel
theorem dX7_command_13 : decode cX7_command 13 = .ok (.invokevirtual 99, 3) := by decide +kernel
theorem dX7_command_16 : decode cX7_command 16 = .ok (.ifCond .eq 12, 3) := by decide +kernel
theorem dX7_command_19 : decode cX7_command 19 = .ok (.aload_n 0, 1) := by decide +kernel
theorem dX7_command_20 : decode cX7_command 20 = .ok (.iconst 0, 1) := by decide +kernel
theorem dX7_command_21 : decode cX7_command 21 = .ok (.iload_n 1, 1) := by decide +kernel
theorem dX7_command_22 : decode cX7_command 22 = .ok (.invokevirtual 43, 3) := by decide +kernel
theorem dX7_command_25 : decode cX7_command 25 = .ok (.goto 4, 3) := by decide +kernel
theorem dX7_command_28 : decode cX7_command 28 = .ok (.iconst 0, 1) := by decide +kernel
theorem dX7_command_29 : decode cX7_command 29 = .ok (.ireturn, 1) := by decide +kernel
theorem dX7_adds_0 : decode cX7_adds 0 = .ok (.bipush 27, 2) := by decide +kernel
theorem dX7_adds_2 : decode cX7_adds 2 = .ok (.iconst 5, 1) := by decide +kernel
theorem dX7_adds_3 : decode cX7_adds 3 = .ok (.aload_n 0, 1) := by decide +kernel
theorem dX7_adds_4 : decode cX7_adds 4 = .ok (.getfield 7, 3) := by decide +kernel
theorem dX7_adds_7 : decode cX7_adds 7 = .ok (.bipush 26, 2) := by decide +kernel
theorem dX7_adds_9 : decode cX7_adds 9 = .ok (.iaload, 1) := by decide +kernel
theorem dX7_adds_10 : decode cX7_adds 10 = .ok (.imul, 1) := by decide +kernel
theorem dX7_adds_11 : decode cX7_adds 11 = .ok (.iadd, 1) := by decide +kernel
theorem dX7_adds_12 : decode cX7_adds 12 = .ok (.istore 6, 2) := by decide +kernel
theorem dX7_adds_14 : decode cX7_adds 14 = .ok (.aload_n 0, 1) := by decide +kernel
theorem dX7_adds_15 : decode cX7_adds 15 = .ok (.getfield 7, 3) := by decide +kernel
theorem dX7_adds_18 : decode cX7_adds 18 = .ok (.iload 6, 2) := by decide +kernel
theorem dX7_adds_20 : decode cX7_adds 20 = .ok (.iconst 0, 1) := by decide +kernel
theorem dX7_adds_21 : decode cX7_adds 21 = .ok (.iadd, 1) := by decide +kernel
theorem dX7_adds_22 : decode cX7_adds 22 = .ok (.iload_n 1, 1) := by decide +kernel
theorem dX7_adds_23 : decode cX7_adds 23 = .ok (.iastore, 1) := by decide +kernel
theorem dX7_adds_24 : decode cX7_adds 24 = .ok (.aload_n 0, 1) := by decide +kernel
theorem dX7_adds_25 : decode cX7_adds 25 = .ok (.getfield 7, 3) := by decide +kernel
theorem dX7_adds_28 : decode cX7_adds 28 = .ok (.iload 6, 2) := by decide +kernel
theorem dX7_adds_30 : decode cX7_adds 30 = .ok (.iconst 1, 1) := by decide +kernel
theorem dX7_adds_31 : decode cX7_adds 31 = .ok (.iadd, 1) := by decide +kernel
theorem dX7_adds_32 : decode cX7_adds 32 = .ok (.iload_n 2, 1) := by decide +kernel
theorem dX7_adds_33 : decode cX7_adds 33 = .ok (.iastore, 1) := by decide +kernel
theorem dX7_adds_34 : decode cX7_adds 34 = .ok (.aload_n 0, 1) := by decide +kernel
theorem dX7_adds_35 : decode cX7_adds 35 = .ok (.getfield 7, 3) := by decide +kernel
theorem dX7_adds_38 : decode cX7_adds 38 = .ok (.iload 6, 2) := by decide +kernel
theorem dX7_adds_40 : decode cX7_adds 40 = .ok (.iconst 2, 1) := by decide +kernel
theorem dX7_adds_41 : decode cX7_adds 41 = .ok (.iadd, 1) := by decide +kernel
theorem dX7_adds_42 : decode cX7_adds 42 = .ok (.iload_n 3, 1) := by decide +kernel
theorem dX7_adds_43 : decode cX7_adds 43 = .ok (.iastore, 1) := by decide +kernel
theorem dX7_adds_44 : decode cX7_adds 44 = .ok (.aload_n 0, 1) := by decide +kernel
theorem dX7_adds_45 : decode cX7_adds 45 = .ok (.getfield 7, 3) := by decide +kernel
theorem dX7_adds_48 : decode cX7_adds 48 = .ok (.iload 6, 2) := by decide +kernel
theorem dX7_adds_50 : decode cX7_adds 50 = .ok (.iconst 3, 1) := by decide +kernel
theorem dX7_adds_51 : decode cX7_adds 51 = .ok (.iadd, 1) := by decide +kernel
theorem dX7_adds_52 : decode cX7_adds 52 = .ok (.iload 4, 2) := by decide +kernel
theorem dX7_adds_54 : decode cX7_adds 54 = .ok (.iastore, 1) := by decide +kernel
theorem dX7_adds_55 : decode cX7_adds 55 = .ok (.aload_n 0, 1) := by decide +kernel
theorem dX7_adds_56 : decode cX7_adds 56 = .ok (.getfield 7, 3) := by decide +kernel
theorem dX7_adds_59 : decode cX7_adds 59 = .ok (.iload 6, 2) := by decide +kernel
theorem dX7_adds_61 : decode cX7_adds 61 = .ok (.iconst 4, 1) := by decide +kernel
theorem dX7_adds_62 : decode cX7_adds 62 = .ok (.iadd, 1) := by decide +kernel
theorem dX7_adds_63 : decode cX7_adds 63 = .ok (.iload 5, 2) := by decide +kernel
theorem dX7_adds_65 : decode cX7_adds 65 = .ok (.iastore, 1) := by decide +kernel
theorem dX7_adds_66 : decode cX7_adds 66 = .ok (.aload_n 0, 1) := by decide +kernel
theorem dX7_adds_67 : decode cX7_adds 67 = .ok (.getfield 7, 3) := by decide +kernel
theorem dX7_adds_70 : decode cX7_adds 70 = .ok (.bipush 26, 2) := by decide +kernel
theorem dX7_adds_72 : decode cX7_adds 72 = .ok (.dup2, 1) := by decide +kernel
theorem dX7_adds_73 : decode cX7_adds 73 = .ok (.iaload, 1) := by decide +kernel
theorem dX7_adds_74 : decode cX7_adds 74 = .ok (.iconst 1, 1) := by decide +kernel
theorem dX7_adds_75 : decode cX7_adds 75 = .ok (.iadd, 1) := by decide +kernel
theorem dX7_adds_76 : decode cX7_adds 76 = .ok (.iastore, 1) := by decide +kernel
theorem dX7_adds_77 : decode cX7_adds 77 = .ok (.return_, 1) := by decide +kernel
theorem dX7_removes_0 : decode cX7_removes 0 = .ok (.aload_n 0, 1) := by decide +kernel
theorem dX7_removes_1 : decode cX7_removes 1 = .ok (.getfield 7, 3) := by decide +kernel
theorem dX7_removes_4 : decode cX7_removes 4 = .ok (.bipush 26, 2) := by decide +kernel
theorem dX7_removes_6 : decode cX7_removes 6 = .ok (.dup2, 1) := by decide +kernel
theorem dX7_removes_7 : decode cX7_removes 7 = .ok (.iaload, 1) := by decide +kernel
theorem dX7_removes_8 : decode cX7_removes 8 = .ok (.iconst 1, 1) := by decide +kernel
theorem dX7_removes_9 : decode cX7_removes 9 = .ok (.isub, 1) := by decide +kernel
theorem dX7_removes_10 : decode cX7_removes 10 = .ok (.iastore, 1) := by decide +kernel
theorem dX7_removes_11 : decode cX7_removes 11 = .ok (.iconst 5, 1) := by decide +kernel
theorem dX7_removes_12 : decode cX7_removes 12 = .ok (.iload_n 1, 1) := by decide +kernel
theorem dX7_removes_13 : decode cX7_removes 13 = .ok (.imul, 1) := by decide +kernel
theorem dX7_removes_14 : decode cX7_removes 14 = .ok (.istore_n 2, 1) := by decide +kernel
theorem dX7_removes_15 : decode cX7_removes 15 = .ok (.iload_n 2, 1) := by decide +kernel
theorem dX7_removes_16 : decode cX7_removes 16 = .ok (.iconst 5, 1) := by decide +kernel
theorem dX7_removes_17 : decode cX7_removes 17 = .ok (.aload_n 0, 1) := by decide +kernel
theorem dX7_removes_18 : decode cX7_removes 18 = .ok (.getfield 7, 3) := by decide +kernel
theorem dX7_removes_21 : decode cX7_removes 21 = .ok (.bipush 26, 2) := by decide +kernel
theorem dX7_removes_23 : decode cX7_removes 23 = .ok (.iaload, 1) := by decide +kernel
theorem dX7_removes_24 : decode cX7_removes 24 = .ok (.imul, 1) := by decide +kernel
theorem dX7_removes_25 : decode cX7_removes 25 = .ok (.if_icmp .ge 29, 3) := by decide +kernel
theorem dX7_removes_28 : decode cX7_removes 28 = .ok (.aload_n 0, 1) := by decide +kernel
theorem dX7_removes_29 : decode cX7_removes 29 = .ok (.getfield 7, 3) := by decide +kernel
theorem dX7_removes_32 : decode cX7_removes 32 = .ok (.bipush 27, 2) := by decide +kernel
theorem dX7_removes_34 : decode cX7_removes 34 = .ok (.iload_n 2, 1) := by decide +kernel
theorem dX7_removes_35 : decode cX7_removes 35 = .ok (.iadd, 1) := by decide +kernel
theorem dX7_removes_36 : decode cX7_removes 36 = .ok (.aload_n 0, 1) := by decide +kernel
theorem dX7_removes_37 : decode cX7_removes 37 = .ok (.getfield 7, 3) := by decide +kernel
theorem dX7_removes_40 : decode cX7_removes 40 = .ok (.bipush 27, 2) := by decide +kernel
theorem dX7_removes_42 : decode cX7_removes 42 = .ok (.iload_n 2, 1) := by decide +kernel
theorem dX7_removes_43 : decode cX7_removes 43 = .ok (.iadd, 1) := by decide +kernel
theorem dX7_removes_44 : decode cX7_removes 44 = .ok (.iconst 5, 1) := by decide +kernel
theorem dX7_removes_45 : decode cX7_removes 45 = .ok (.iadd, 1) := by decide +kernel
theorem dX7_removes_46 : decode cX7_removes 46 = .ok (.iaload, 1) := by decide +kernel
theorem dX7_removes_47 : decode cX7_removes 47 = .ok (.iastore, 1) := by decide +kernel
theorem dX7_removes_48 : decode cX7_removes 48 = .ok (.iinc 2 1, 3) := by decide +kernel
theorem dX7_removes_51 : decode cX7_removes 51 = .ok (.goto (-36), 3) := by decide +kernel
theorem dX7_removes_54 : decode cX7_removes 54 = .ok (.return_, 1) := by decide +kernel
theorem dX7_addMix_0 : decode cX7_addMix 0 = .ok (.iload_n 1, 1) := by decide +kernel
theorem dX7_addMix_1 : decode cX7_addMix 1 = .ok (.iconst 0, 1) := by decide +kernel
theorem dX7_addMix_2 : decode cX7_addMix 2 = .ok (.bipush 9, 2) := by decide +kernel
theorem dX7_addMix_4 : decode cX7_addMix 4 = .ok (.invokestatic 35, 3) := by decide +kernel
theorem dX7_addMix_7 : decode cX7_addMix 7 = .ok (.ifCond .eq 53, 3) := by decide +kernel
theorem dX7_addMix_10 : decode cX7_addMix 10 = .ok (.iload_n 1, 1) := by decide +kernel
theorem dX7_addMix_11 : decode cX7_addMix 11 = .ok (.iconst 4, 1) := by decide +kernel
theorem dX7_addMix_12 : decode cX7_addMix 12 = .ok (.isub, 1) := by decide +kernel
theorem dX7_addMix_13 : decode cX7_addMix 13 = .ok (.iload_n 2, 1) := by decide +kernel
theorem dX7_addMix_14 : decode cX7_addMix 14 = .ok (.if_icmp .ge 46, 3) := by decide +kernel
theorem dX7_addMix_17 : decode cX7_addMix 17 = .ok (.iload_n 3, 1) := by decide +kernel
theorem dX7_addMix_18 : decode cX7_addMix 18 = .ok (.sipush (-150), 3) := by decide +kernel
theorem dX7_addMix_21 : decode cX7_addMix 21 = .ok (.sipush 150, 3) := by decide +kernel
theorem dX7_addMix_24 : decode cX7_addMix 24 = .ok (.invokestatic 35, 3) := by decide +kernel
theorem dX7_addMix_27 : decode cX7_addMix 27 = .ok (.ifCond .eq 33, 3) := by decide +kernel
theorem dX7_addMix_30 : decode cX7_addMix 30 = .ok (.iload_n 3, 1) := by decide +kernel
theorem dX7_addMix_31 : decode cX7_addMix 31 = .ok (.ifCond .eq 29, 3) := by decide +kernel
theorem dX7_addMix_34 : decode cX7_addMix 34 = .ok (.iload 4, 2) := by decide +kernel
theorem dX7_addMix_36 : decode cX7_addMix 36 = .ok (.bipush (-50), 2) := by decide +kernel
theorem dX7_addMix_38 : decode cX7_addMix 38 = .ok (.bipush 50, 2) := by decide +kernel
theorem dX7_addMix_40 : decode cX7_addMix 40 = .ok (.invokestatic 35, 3) := by decide +kernel
theorem dX7_addMix_43 : decode cX7_addMix 43 = .ok (.ifCond .eq 17, 3) := by decide +kernel
theorem dX7_addMix_46 : decode cX7_addMix 46 = .ok (.iload 5, 2) := by decide +kernel
theorem dX7_addMix_48 : decode cX7_addMix 48 = .ok (.iconst 0, 1) := by decide +kernel
theorem dX7_addMix_49 : decode cX7_addMix 49 = .ok (.iconst 2, 1) := by decide +kernel
theorem dX7_addMix_50 : decode cX7_addMix 50 = .ok (.invokestatic 35, 3) := by decide +kernel
theorem dX7_addMix_53 : decode cX7_addMix 53 = .ok (.ifCond .eq 7, 3) := by decide +kernel
theorem dX7_addMix_56 : decode cX7_addMix 56 = .ok (.iconst 1, 1) := by decide +kernel
theorem dX7_addMix_57 : decode cX7_addMix 57 = .ok (.goto 4, 3) := by decide +kernel
theorem dX7_addMix_60 : decode cX7_addMix 60 = .ok (.iconst 0, 1) := by decide +kernel
theorem dX7_addMix_61 : decode cX7_addMix 61 = .ok (.istore 6, 2) := by decide +kernel
theorem dX7_addMix_63 : decode cX7_addMix 63 = .ok (.aload_n 0, 1) := by decide +kernel
theorem dX7_addMix_64 : decode cX7_addMix 64 = .ok (.iload_n 2, 1) := by decide +kernel
theorem dX7_addMix_65 : decode cX7_addMix 65 = .ok (.invokestatic 105, 3) := by decide +kernel
theorem dX7_addMix_68 : decode cX7_addMix 68 = .ok (.ifCond .ne 7, 3) := by decide +kernel
theorem dX7_addMix_71 : decode cX7_addMix 71 = .ok (.iconst 1, 1) := by decide +kernel
theorem dX7_addMix_72 : decode cX7_addMix 72 = .ok (.goto 29, 3) := by decide +kernel
theorem dX7_addMix_75 : decode cX7_addMix 75 = .ok (.iload 6, 2) := by decide +kernel
theorem dX7_addMix_77 : decode cX7_addMix 77 = .ok (.ifCond .ne 7, 3) := by decide +kernel
theorem dX7_addMix_80 : decode cX7_addMix 80 = .ok (.iconst 2, 1) := by decide +kernel
theorem dX7_addMix_81 : decode cX7_addMix 81 = .ok (.goto 20, 3) := by decide +kernel
theorem dX7_addMix_84 : decode cX7_addMix 84 = .ok (.aload_n 0, 1) := by decide +kernel
theorem dX7_addMix_85 : decode cX7_addMix 85 = .ok (.getfield 7, 3) := by decide +kernel
theorem dX7_addMix_88 : decode cX7_addMix 88 = .ok (.bipush 26, 2) := by decide +kernel
theorem dX7_addMix_90 : decode cX7_addMix 90 = .ok (.iaload, 1) := by decide +kernel
theorem dX7_addMix_91 : decode cX7_addMix 91 = .ok (.bipush 12, 2) := by decide +kernel
theorem dX7_addMix_93 : decode cX7_addMix 93 = .ok (.if_icmp .ne 7, 3) := by decide +kernel
theorem dX7_addMix_96 : decode cX7_addMix 96 = .ok (.iconst 3, 1) := by decide +kernel
theorem dX7_addMix_97 : decode cX7_addMix 97 = .ok (.goto 4, 3) := by decide +kernel
theorem dX7_addMix_100 : decode cX7_addMix 100 = .ok (.iconst 0, 1) := by decide +kernel
theorem dX7_addMix_101 : decode cX7_addMix 101 = .ok (.invokevirtual 99, 3) := by decide +kernel
theorem dX7_addMix_104 : decode cX7_addMix 104 = .ok (.ifCond .ne 5, 3) := by decide +kernel
theorem dX7_addMix_107 : decode cX7_addMix 107 = .ok (.iconst 0, 1) := by decide +kernel
theorem dX7_addMix_108 : decode cX7_addMix 108 = .ok (.ireturn, 1) := by decide +kernel
theorem dX7_addMix_109 : decode cX7_addMix 109 = .ok (.aload_n 0, 1) := by decide +kernel
theorem dX7_addMix_110 : decode cX7_addMix 110 = .ok (.invokevirtual 92, 3) := by decide +kernel
theorem dX7_addMix_113 : decode cX7_addMix 113 = .ok (.aload_n 0, 1) := by decide +kernel
theorem dX7_addMix_114 : decode cX7_addMix 114 = .ok (.iload_n 1, 1) := by decide +kernel
theorem dX7_addMix_115 : decode cX7_addMix 115 = .ok (.iload_n 2, 1) := by decide +kernel
theorem dX7_addMix_116 : decode cX7_addMix 116 = .ok (.iload_n 3, 1) := by decide +kernel
theorem dX7_addMix_117 : decode cX7_addMix 117 = .ok (.iload 4, 2) := by decide +kernel
theorem dX7_addMix_119 : decode cX7_addMix 119 = .ok (.iload 5, 2) := by decide +kernel
theorem dX7_addMix_121 : decode cX7_addMix 121 = .ok (.invokevirtual 23, 3) := by decide +kernel
theorem dX7_addMix_124 : decode cX7_addMix 124 = .ok (.aload_n 0, 1) := by decide +kernel
theorem dX7_addMix_125 : decode cX7_addMix 125 = .ok (.getfield 7, 3) := by decide +kernel
theorem dX7_addMix_128 : decode cX7_addMix 128 = .ok (.bipush 26, 2) := by decide +kernel
theorem dX7_addMix_130 : decode cX7_addMix 130 = .ok (.iaload, 1) := by decide +kernel
theorem dX7_addMix_131 : decode cX7_addMix 131 = .ok (.iconst 1, 1) := by decide +kernel
theorem dX7_addMix_132 : decode cX7_addMix 132 = .ok (.isub, 1) := by decide +kernel
theorem dX7_addMix_133 : decode cX7_addMix 133 = .ok (.ireturn, 1) := by decide +kernel
theorem dX7_removeMix_0 : decode cX7_removeMix 0 = .ok (.aload_n 0, 1) := by decide +kernel
theorem dX7_removeMix_1 : decode cX7_removeMix 1 = .ok (.aload_n 0, 1) := by decide +kernel
theorem dX7_removeMix_2 : decode cX7_removeMix 2 = .ok (.iload_n 1, 1) := by decide +kernel
theorem dX7_removeMix_3 : decode cX7_removeMix 3 = .ok (.invokevirtual 108, 3) := by decide +kernel
theorem dX7_removeMix_6 : decode cX7_removeMix 6 = .ok (.ifCond .eq 7, 3) := by decide +kernel
theorem dX7_removeMix_9 : decode cX7_removeMix 9 = .ok (.iconst 0, 1) := by decide +kernel
theorem dX7_removeMix_10 : decode cX7_removeMix 10 = .ok (.goto 4, 3) := by decide +kernel
theorem dX7_removeMix_13 : decode cX7_removeMix 13 = .ok (.iconst 1, 1) := by decide +kernel
theorem dX7_removeMix_14 : decode cX7_removeMix 14 = .ok (.invokevirtual 99, 3) := by decide +kernel
theorem dX7_removeMix_17 : decode cX7_removeMix 17 = .ok (.ifCond .ne 5, 3) := by decide +kernel
theorem dX7_removeMix_20 : decode cX7_removeMix 20 = .ok (.iconst 0, 1) := by decide +kernel
theorem dX7_removeMix_21 : decode cX7_removeMix 21 = .ok (.ireturn, 1) := by decide +kernel
theorem dX7_removeMix_22 : decode cX7_removeMix 22 = .ok (.aload_n 0, 1) := by decide +kernel
theorem dX7_removeMix_23 : decode cX7_removeMix 23 = .ok (.invokevirtual 92, 3) := by decide +kernel
theorem dX7_removeMix_26 : decode cX7_removeMix 26 = .ok (.aload_n 0, 1) := by decide +kernel
theorem dX7_removeMix_27 : decode cX7_removeMix 27 = .ok (.iload_n 1, 1) := by decide +kernel
theorem dX7_removeMix_28 : decode cX7_removeMix 28 = .ok (.invokevirtual 111, 3) := by decide +kernel
theorem dX7_removeMix_31 : decode cX7_removeMix 31 = .ok (.aload_n 0, 1) := by decide +kernel
theorem dX7_removeMix_32 : decode cX7_removeMix 32 = .ok (.getfield 7, 3) := by decide +kernel
theorem dX7_removeMix_35 : decode cX7_removeMix 35 = .ok (.bipush 26, 2) := by decide +kernel
theorem dX7_removeMix_37 : decode cX7_removeMix 37 = .ok (.iaload, 1) := by decide +kernel
theorem dX7_removeMix_38 : decode cX7_removeMix 38 = .ok (.ireturn, 1) := by decide +kernel
theorem dX7_clearMixes_0 : decode cX7_clearMixes 0 = .ok (.aload_n 0, 1) := by decide +kernel
theorem dX7_clearMixes_1 : decode cX7_clearMixes 1 = .ok (.iload_n 1, 1) := by decide +kernel
theorem dX7_clearMixes_2 : decode cX7_clearMixes 2 = .ok (.invokestatic 105, 3) := by decide +kernel
theorem dX7_clearMixes_5 : decode cX7_clearMixes 5 = .ok (.ifCond .eq 7, 3) := by decide +kernel
theorem dX7_clearMixes_8 : decode cX7_clearMixes 8 = .ok (.iconst 0, 1) := by decide +kernel
theorem dX7_clearMixes_9 : decode cX7_clearMixes 9 = .ok (.goto 4, 3) := by decide +kernel
theorem dX7_clearMixes_12 : decode cX7_clearMixes 12 = .ok (.iconst 1, 1) := by decide +kernel
theorem dX7_clearMixes_13 : decode cX7_clearMixes 13 = .ok (.invokevirtual 99, 3) := by decide +kernel
theorem dX7_clearMixes_16 : decode cX7_clearMixes 16 = .ok (.ifCond .ne 5, 3) := by decide +kernel
theorem dX7_clearMixes_19 : decode cX7_clearMixes 19 = .ok (.iconst 0, 1) := by decide +kernel
theorem dX7_clearMixes_20 : decode cX7_clearMixes 20 = .ok (.ireturn, 1) := by decide +kernel
theorem dX7_clearMixes_21 : decode cX7_clearMixes 21 = .ok (.aload_n 0, 1) := by decide +kernel
theorem dX7_clearMixes_22 : decode cX7_clearMixes 22 = .ok (.invokevirtual 92, 3) := by decide +kernel
theorem dX7_clearMixes_25 : decode cX7_clearMixes 25 = .ok (.aload_n 0, 1) := by decide +kernel
theorem dX7_clearMixes_26 : decode cX7_clearMixes 26 = .ok (.getfield 7, 3) := by decide +kernel
theorem dX7_clearMixes_29 : decode cX7_clearMixes 29 = .ok (.bipush 26, 2) := by decide +kernel
theorem dX7_clearMixes_31 : decode cX7_clearMixes 31 = .ok (.iaload, 1) := by decide +kernel
theorem dX7_clearMixes_32 : decode cX7_clearMixes 32 = .ok (.istore_n 2, 1) := by decide +kernel
theorem dX7_clearMixes_33 : decode cX7_clearMixes 33 = .ok (.iload_n 2, 1) := by decide +kernel
theorem dX7_clearMixes_34 : decode cX7_clearMixes 34 = .ok (.iconst 1, 1) := by decide +kernel
theorem dX7_clearMixes_35 : decode cX7_clearMixes 35 = .ok (.isub, 1) := by decide +kernel
theorem dX7_clearMixes_36 : decode cX7_clearMixes 36 = .ok (.istore_n 3, 1) := by decide +kernel
theorem dX7_clearMixes_37 : decode cX7_clearMixes 37 = .ok (.iload_n 3, 1) := by decide +kernel
theorem dX7_clearMixes_38 : decode cX7_clearMixes 38 = .ok (.ifCond .lt 25, 3) := by decide +kernel
theorem dX7_clearMixes_41 : decode cX7_clearMixes 41 = .ok (.aload_n 0, 1) := by decide +kernel
theorem dX7_clearMixes_42 : decode cX7_clearMixes 42 = .ok (.iconst 0, 1) := by decide +kernel
theorem dX7_clearMixes_43 : decode cX7_clearMixes 43 = .ok (.iload_n 3, 1) := by decide +kernel
theorem dX7_clearMixes_44 : decode cX7_clearMixes 44 = .ok (.iconst 1, 1) := by decide +kernel
theorem dX7_clearMixes_45 : decode cX7_clearMixes 45 = .ok (.invokevirtual 39, 3) := by decide +kernel
theorem dX7_clearMixes_48 : decode cX7_clearMixes 48 = .ok (.iload_n 1, 1) := by decide +kernel
theorem dX7_clearMixes_49 : decode cX7_clearMixes 49 = .ok (.if_icmp .ne 8, 3) := by decide +kernel
theorem dX7_clearMixes_52 : decode cX7_clearMixes 52 = .ok (.aload_n 0, 1) := by decide +kernel
theorem dX7_clearMixes_53 : decode cX7_clearMixes 53 = .ok (.iload_n 3, 1) := by decide +kernel
theorem dX7_clearMixes_54 : decode cX7_clearMixes 54 = .ok (.invokevirtual 111, 3) := by decide +kernel
theorem dX7_clearMixes_57 : decode cX7_clearMixes 57 = .ok (.iinc 3 (-1), 3) := by decide +kernel
theorem dX7_clearMixes_60 : decode cX7_clearMixes 60 = .ok (.goto (-23), 3) := by decide +kernel
theorem dX7_clearMixes_63 : decode cX7_clearMixes 63 = .ok (.iload_n 2, 1) := by decide +kernel
theorem dX7_clearMixes_64 : decode cX7_clearMixes 64 = .ok (.aload_n 0, 1) := by decide +kernel
theorem dX7_clearMixes_65 : decode cX7_clearMixes 65 = .ok (.getfield 7, 3) := by decide +kernel
theorem dX7_clearMixes_68 : decode cX7_clearMixes 68 = .ok (.bipush 26, 2) := by decide +kernel
theorem dX7_clearMixes_70 : decode cX7_clearMixes 70 = .ok (.iaload, 1) := by decide +kernel
theorem dX7_clearMixes_71 : decode cX7_clearMixes 71 = .ok (.isub, 1) := by decide +kernel
theorem dX7_clearMixes_72 : decode cX7_clearMixes 72 = .ok (.ireturn, 1) := by decide +kernel
theorem dX7_elevons_0 : decode cX7_elevons 0 = .ok (.iload_n 1, 1) := by decide +kernel
theorem dX7_elevons_1 : decode cX7_elevons 1 = .ok (.invokestatic 105, 3) := by decide +kernel
theorem dX7_elevons_4 : decode cX7_elevons 4 = .ok (.ifCond .eq 14, 3) := by decide +kernel
theorem dX7_elevons_7 : decode cX7_elevons 7 = .ok (.iload_n 2, 1) := by decide +kernel
theorem dX7_elevons_8 : decode cX7_elevons 8 = .ok (.invokestatic 105, 3) := by decide +kernel
theorem dX7_elevons_11 : decode cX7_elevons 11 = .ok (.ifCond .eq 7, 3) := by decide +kernel
theorem dX7_elevons_14 : decode cX7_elevons 14 = .ok (.iconst 1, 1) := by decide +kernel
theorem dX7_elevons_15 : decode cX7_elevons 15 = .ok (.goto 4, 3) := by decide +kernel
theorem dX7_elevons_18 : decode cX7_elevons 18 = .ok (.iconst 0, 1) := by decide +kernel
theorem dX7_elevons_19 : decode cX7_elevons 19 = .ok (.istore 4, 2) := by decide +kernel
theorem dX7_elevons_21 : decode cX7_elevons 21 = .ok (.aload_n 0, 1) := by decide +kernel
theorem dX7_elevons_22 : decode cX7_elevons 22 = .ok (.iload 4, 2) := by decide +kernel
theorem dX7_elevons_24 : decode cX7_elevons 24 = .ok (.ifCond .ne 7, 3) := by decide +kernel
theorem dX7_elevons_27 : decode cX7_elevons 27 = .ok (.iconst 1, 1) := by decide +kernel
theorem dX7_elevons_28 : decode cX7_elevons 28 = .ok (.goto 40, 3) := by decide +kernel
theorem dX7_elevons_31 : decode cX7_elevons 31 = .ok (.iload_n 1, 1) := by decide +kernel
theorem dX7_elevons_32 : decode cX7_elevons 32 = .ok (.iload_n 2, 1) := by decide +kernel
theorem dX7_elevons_33 : decode cX7_elevons 33 = .ok (.if_icmp .eq 14, 3) := by decide +kernel
theorem dX7_elevons_36 : decode cX7_elevons 36 = .ok (.iload_n 3, 1) := by decide +kernel
theorem dX7_elevons_37 : decode cX7_elevons 37 = .ok (.iconst 1, 1) := by decide +kernel
theorem dX7_elevons_38 : decode cX7_elevons 38 = .ok (.sipush 150, 3) := by decide +kernel
theorem dX7_elevons_41 : decode cX7_elevons 41 = .ok (.invokestatic 35, 3) := by decide +kernel
theorem dX7_elevons_44 : decode cX7_elevons 44 = .ok (.ifCond .ne 7, 3) := by decide +kernel
theorem dX7_elevons_47 : decode cX7_elevons 47 = .ok (.iconst 2, 1) := by decide +kernel
theorem dX7_elevons_48 : decode cX7_elevons 48 = .ok (.goto 20, 3) := by decide +kernel
theorem dX7_elevons_51 : decode cX7_elevons 51 = .ok (.aload_n 0, 1) := by decide +kernel
theorem dX7_elevons_52 : decode cX7_elevons 52 = .ok (.getfield 7, 3) := by decide +kernel
theorem dX7_elevons_55 : decode cX7_elevons 55 = .ok (.bipush 26, 2) := by decide +kernel
theorem dX7_elevons_57 : decode cX7_elevons 57 = .ok (.iaload, 1) := by decide +kernel
theorem dX7_elevons_58 : decode cX7_elevons 58 = .ok (.bipush 8, 2) := by decide +kernel
theorem dX7_elevons_60 : decode cX7_elevons 60 = .ok (.if_icmp .le 7, 3) := by decide +kernel
theorem dX7_elevons_63 : decode cX7_elevons 63 = .ok (.iconst 3, 1) := by decide +kernel
theorem dX7_elevons_64 : decode cX7_elevons 64 = .ok (.goto 4, 3) := by decide +kernel
theorem dX7_elevons_67 : decode cX7_elevons 67 = .ok (.iconst 0, 1) := by decide +kernel
theorem dX7_elevons_68 : decode cX7_elevons 68 = .ok (.invokevirtual 99, 3) := by decide +kernel
theorem dX7_elevons_71 : decode cX7_elevons 71 = .ok (.ifCond .ne 5, 3) := by decide +kernel
theorem dX7_elevons_74 : decode cX7_elevons 74 = .ok (.iconst 0, 1) := by decide +kernel
theorem dX7_elevons_75 : decode cX7_elevons 75 = .ok (.ireturn, 1) := by decide +kernel
theorem dX7_elevons_76 : decode cX7_elevons 76 = .ok (.aload_n 0, 1) := by decide +kernel
theorem dX7_elevons_77 : decode cX7_elevons 77 = .ok (.invokevirtual 92, 3) := by decide +kernel
theorem dX7_elevons_80 : decode cX7_elevons 80 = .ok (.aload_n 0, 1) := by decide +kernel
theorem dX7_elevons_81 : decode cX7_elevons 81 = .ok (.iconst 0, 1) := by decide +kernel
theorem dX7_elevons_82 : decode cX7_elevons 82 = .ok (.iload_n 1, 1) := by decide +kernel
theorem dX7_elevons_83 : decode cX7_elevons 83 = .ok (.iload_n 3, 1) := by decide +kernel
theorem dX7_elevons_84 : decode cX7_elevons 84 = .ok (.iconst 0, 1) := by decide +kernel
theorem dX7_elevons_85 : decode cX7_elevons 85 = .ok (.iconst 0, 1) := by decide +kernel
theorem dX7_elevons_86 : decode cX7_elevons 86 = .ok (.invokevirtual 23, 3) := by decide +kernel
theorem dX7_elevons_89 : decode cX7_elevons 89 = .ok (.aload_n 0, 1) := by decide +kernel
theorem dX7_elevons_90 : decode cX7_elevons 90 = .ok (.iconst 1, 1) := by decide +kernel
theorem dX7_elevons_91 : decode cX7_elevons 91 = .ok (.iload_n 1, 1) := by decide +kernel
theorem dX7_elevons_92 : decode cX7_elevons 92 = .ok (.iload_n 3, 1) := by decide +kernel
theorem dX7_elevons_93 : decode cX7_elevons 93 = .ok (.iconst 0, 1) := by decide +kernel
theorem dX7_elevons_94 : decode cX7_elevons 94 = .ok (.iconst 0, 1) := by decide +kernel
theorem dX7_elevons_95 : decode cX7_elevons 95 = .ok (.invokevirtual 23, 3) := by decide +kernel
theorem dX7_elevons_98 : decode cX7_elevons 98 = .ok (.aload_n 0, 1) := by decide +kernel
theorem dX7_elevons_99 : decode cX7_elevons 99 = .ok (.iconst 0, 1) := by decide +kernel
theorem dX7_elevons_100 : decode cX7_elevons 100 = .ok (.iload_n 2, 1) := by decide +kernel
theorem dX7_elevons_101 : decode cX7_elevons 101 = .ok (.iload_n 3, 1) := by decide +kernel
theorem dX7_elevons_102 : decode cX7_elevons 102 = .ok (.ineg, 1) := by decide +kernel
theorem dX7_elevons_103 : decode cX7_elevons 103 = .ok (.iconst 0, 1) := by decide +kernel
theorem dX7_elevons_104 : decode cX7_elevons 104 = .ok (.iconst 0, 1) := by decide +kernel
theorem dX7_elevons_105 : decode cX7_elevons 105 = .ok (.invokevirtual 23, 3) := by decide +kernel
theorem dX7_elevons_108 : decode cX7_elevons 108 = .ok (.aload_n 0, 1) := by decide +kernel
theorem dX7_elevons_109 : decode cX7_elevons 109 = .ok (.iconst 1, 1) := by decide +kernel
theorem dX7_elevons_110 : decode cX7_elevons 110 = .ok (.iload_n 2, 1) := by decide +kernel
theorem dX7_elevons_111 : decode cX7_elevons 111 = .ok (.iload_n 3, 1) := by decide +kernel
theorem dX7_elevons_112 : decode cX7_elevons 112 = .ok (.iconst 0, 1) := by decide +kernel
theorem dX7_elevons_113 : decode cX7_elevons 113 = .ok (.iconst 0, 1) := by decide +kernel
theorem dX7_elevons_114 : decode cX7_elevons 114 = .ok (.invokevirtual 23, 3) := by decide +kernel
theorem dX7_elevons_117 : decode cX7_elevons 117 = .ok (.aload_n 0, 1) := by decide +kernel
theorem dX7_elevons_118 : decode cX7_elevons 118 = .ok (.getfield 7, 3) := by decide +kernel
theorem dX7_elevons_121 : decode cX7_elevons 121 = .ok (.bipush 26, 2) := by decide +kernel
theorem dX7_elevons_123 : decode cX7_elevons 123 = .ok (.iaload, 1) := by decide +kernel
theorem dX7_elevons_124 : decode cX7_elevons 124 = .ok (.ireturn, 1) := by decide +kernel
theorem dX7_mixes_0 : decode cX7_mixes 0 = .ok (.aload_n 0, 1) := by decide +kernel
theorem dX7_mixes_1 : decode cX7_mixes 1 = .ok (.iconst 0, 1) := by decide +kernel
theorem dX7_mixes_2 : decode cX7_mixes 2 = .ok (.putfield 31, 3) := by decide +kernel
theorem dX7_mixes_5 : decode cX7_mixes 5 = .ok (.aload_n 0, 1) := by decide +kernel
theorem dX7_mixes_6 : decode cX7_mixes 6 = .ok (.getfield 7, 3) := by decide +kernel
theorem dX7_mixes_9 : decode cX7_mixes 9 = .ok (.bipush 26, 2) := by decide +kernel
theorem dX7_mixes_11 : decode cX7_mixes 11 = .ok (.iaload, 1) := by decide +kernel
theorem dX7_mixes_12 : decode cX7_mixes 12 = .ok (.ireturn, 1) := by decide +kernel
theorem dX7_mixSource_0 : decode cX7_mixSource 0 = .ok (.aload_n 0, 1) := by decide +kernel
theorem dX7_mixSource_1 : decode cX7_mixSource 1 = .ok (.aload_n 0, 1) := by decide +kernel
theorem dX7_mixSource_2 : decode cX7_mixSource 2 = .ok (.iload_n 1, 1) := by decide +kernel
theorem dX7_mixSource_3 : decode cX7_mixSource 3 = .ok (.invokevirtual 108, 3) := by decide +kernel
theorem dX7_mixSource_6 : decode cX7_mixSource 6 = .ok (.ifCond .eq 7, 3) := by decide +kernel
theorem dX7_mixSource_9 : decode cX7_mixSource 9 = .ok (.iconst 0, 1) := by decide +kernel
theorem dX7_mixSource_10 : decode cX7_mixSource 10 = .ok (.goto 4, 3) := by decide +kernel
theorem dX7_mixSource_13 : decode cX7_mixSource 13 = .ok (.iconst 1, 1) := by decide +kernel
theorem dX7_mixSource_14 : decode cX7_mixSource 14 = .ok (.invokevirtual 99, 3) := by decide +kernel
theorem dX7_mixSource_17 : decode cX7_mixSource 17 = .ok (.ifCond .eq 13, 3) := by decide +kernel
theorem dX7_mixSource_20 : decode cX7_mixSource 20 = .ok (.aload_n 0, 1) := by decide +kernel
theorem dX7_mixSource_21 : decode cX7_mixSource 21 = .ok (.iconst 0, 1) := by decide +kernel
theorem dX7_mixSource_22 : decode cX7_mixSource 22 = .ok (.iload_n 1, 1) := by decide +kernel
theorem dX7_mixSource_23 : decode cX7_mixSource 23 = .ok (.iconst 0, 1) := by decide +kernel
theorem dX7_mixSource_24 : decode cX7_mixSource 24 = .ok (.invokevirtual 39, 3) := by decide +kernel
theorem dX7_mixSource_27 : decode cX7_mixSource 27 = .ok (.goto 4, 3) := by decide +kernel
theorem dX7_mixSource_30 : decode cX7_mixSource 30 = .ok (.iconst 0, 1) := by decide +kernel
theorem dX7_mixSource_31 : decode cX7_mixSource 31 = .ok (.ireturn, 1) := by decide +kernel
theorem dX7_mixServo_0 : decode cX7_mixServo 0 = .ok (.aload_n 0, 1) := by decide +kernel
theorem dX7_mixServo_1 : decode cX7_mixServo 1 = .ok (.aload_n 0, 1) := by decide +kernel
theorem dX7_mixServo_2 : decode cX7_mixServo 2 = .ok (.iload_n 1, 1) := by decide +kernel
theorem dX7_mixServo_3 : decode cX7_mixServo 3 = .ok (.invokevirtual 108, 3) := by decide +kernel
theorem dX7_mixServo_6 : decode cX7_mixServo 6 = .ok (.ifCond .eq 7, 3) := by decide +kernel
theorem dX7_mixServo_9 : decode cX7_mixServo 9 = .ok (.iconst 0, 1) := by decide +kernel
theorem dX7_mixServo_10 : decode cX7_mixServo 10 = .ok (.goto 4, 3) := by decide +kernel
theorem dX7_mixServo_13 : decode cX7_mixServo 13 = .ok (.iconst 1, 1) := by decide +kernel
theorem dX7_mixServo_14 : decode cX7_mixServo 14 = .ok (.invokevirtual 99, 3) := by decide +kernel
theorem dX7_mixServo_17 : decode cX7_mixServo 17 = .ok (.ifCond .eq 13, 3) := by decide +kernel
theorem dX7_mixServo_20 : decode cX7_mixServo 20 = .ok (.aload_n 0, 1) := by decide +kernel
theorem dX7_mixServo_21 : decode cX7_mixServo 21 = .ok (.iconst 0, 1) := by decide +kernel
theorem dX7_mixServo_22 : decode cX7_mixServo 22 = .ok (.iload_n 1, 1) := by decide +kernel
theorem dX7_mixServo_23 : decode cX7_mixServo 23 = .ok (.iconst 1, 1) := by decide +kernel
theorem dX7_mixServo_24 : decode cX7_mixServo 24 = .ok (.invokevirtual 39, 3) := by decide +kernel
theorem dX7_mixServo_27 : decode cX7_mixServo 27 = .ok (.goto 4, 3) := by decide +kernel
theorem dX7_mixServo_30 : decode cX7_mixServo 30 = .ok (.iconst 0, 1) := by decide +kernel
theorem dX7_mixServo_31 : decode cX7_mixServo 31 = .ok (.ireturn, 1) := by decide +kernel
theorem dX7_mixValue_0 : decode cX7_mixValue 0 = .ok (.aload_n 0, 1) := by decide +kernel
theorem dX7_mixValue_1 : decode cX7_mixValue 1 = .ok (.aload_n 0, 1) := by decide +kernel
theorem dX7_mixValue_2 : decode cX7_mixValue 2 = .ok (.iload_n 1, 1) := by decide +kernel
theorem dX7_mixValue_3 : decode cX7_mixValue 3 = .ok (.invokevirtual 108, 3) := by decide +kernel
theorem dX7_mixValue_6 : decode cX7_mixValue 6 = .ok (.ifCond .eq 7, 3) := by decide +kernel
theorem dX7_mixValue_9 : decode cX7_mixValue 9 = .ok (.iconst 0, 1) := by decide +kernel
theorem dX7_mixValue_10 : decode cX7_mixValue 10 = .ok (.goto 4, 3) := by decide +kernel
theorem dX7_mixValue_13 : decode cX7_mixValue 13 = .ok (.iconst 1, 1) := by decide +kernel
theorem dX7_mixValue_14 : decode cX7_mixValue 14 = .ok (.invokevirtual 99, 3) := by decide +kernel
theorem dX7_mixValue_17 : decode cX7_mixValue 17 = .ok (.ifCond .ne 5, 3) := by decide +kernel
theorem dX7_mixValue_20 : decode cX7_mixValue 20 = .ok (.iconst 0, 1) := by decide +kernel
theorem dX7_mixValue_21 : decode cX7_mixValue 21 = .ok (.ireturn, 1) := by decide +kernel
theorem dX7_mixValue_22 : decode cX7_mixValue 22 = .ok (.aload_n 0, 1) := by decide +kernel
theorem dX7_mixValue_23 : decode cX7_mixValue 23 = .ok (.iconst 0, 1) := by decide +kernel
theorem dX7_mixValue_24 : decode cX7_mixValue 24 = .ok (.invokevirtual 63, 3) := by decide +kernel
theorem dX7_mixValue_27 : decode cX7_mixValue 27 = .ok (.aload_n 0, 1) := by decide +kernel
theorem dX7_mixValue_28 : decode cX7_mixValue 28 = .ok (.iconst 0, 1) := by decide +kernel
theorem dX7_mixValue_29 : decode cX7_mixValue 29 = .ok (.iload_n 1, 1) := by decide +kernel
theorem dX7_mixValue_30 : decode cX7_mixValue 30 = .ok (.invokevirtual 51, 3) := by decide +kernel
theorem dX7_mixValue_33 : decode cX7_mixValue 33 = .ok (.ireturn, 1) := by decide +kernel
theorem dX7_isActive_0 : decode cX7_isActive 0 = .ok (.aload_n 0, 1) := by decide +kernel
theorem dX7_isActive_1 : decode cX7_isActive 1 = .ok (.aload_n 0, 1) := by decide +kernel
theorem dX7_isActive_2 : decode cX7_isActive 2 = .ok (.iload_n 1, 1) := by decide +kernel
theorem dX7_isActive_3 : decode cX7_isActive 3 = .ok (.invokevirtual 108, 3) := by decide +kernel
theorem dX7_isActive_6 : decode cX7_isActive 6 = .ok (.ifCond .eq 7, 3) := by decide +kernel
theorem dX7_isActive_9 : decode cX7_isActive 9 = .ok (.iconst 0, 1) := by decide +kernel
theorem dX7_isActive_10 : decode cX7_isActive 10 = .ok (.goto 4, 3) := by decide +kernel
theorem dX7_isActive_13 : decode cX7_isActive 13 = .ok (.iconst 1, 1) := by decide +kernel
theorem dX7_isActive_14 : decode cX7_isActive 14 = .ok (.invokevirtual 99, 3) := by decide +kernel
theorem dX7_isActive_17 : decode cX7_isActive 17 = .ok (.ifCond .eq 16, 3) := by decide +kernel
theorem dX7_isActive_20 : decode cX7_isActive 20 = .ok (.aload_n 0, 1) := by decide +kernel
theorem dX7_isActive_21 : decode cX7_isActive 21 = .ok (.iconst 0, 1) := by decide +kernel
theorem dX7_isActive_22 : decode cX7_isActive 22 = .ok (.iload_n 1, 1) := by decide +kernel
theorem dX7_isActive_23 : decode cX7_isActive 23 = .ok (.invokevirtual 47, 3) := by decide +kernel
theorem dX7_isActive_26 : decode cX7_isActive 26 = .ok (.ifCond .eq 7, 3) := by decide +kernel
theorem dX7_isActive_29 : decode cX7_isActive 29 = .ok (.iconst 1, 1) := by decide +kernel
theorem dX7_isActive_30 : decode cX7_isActive 30 = .ok (.goto 4, 3) := by decide +kernel
theorem dX7_isActive_33 : decode cX7_isActive 33 = .ok (.iconst 0, 1) := by decide +kernel
theorem dX7_isActive_34 : decode cX7_isActive 34 = .ok (.ireturn, 1) := by decide +kernel
theorem dX7_place_0 : decode cX7_place 0 = .ok (.bipush 87, 2) := by decide +kernel
theorem dX7_place_2 : decode cX7_place 2 = .ok (.bipush 10, 2) := by decide +kernel
theorem dX7_place_4 : decode cX7_place 4 = .ok (.iload_n 0, 1) := by decide +kernel
theorem dX7_place_5 : decode cX7_place 5 = .ok (.imul, 1) := by decide +kernel
theorem dX7_place_6 : decode cX7_place 6 = .ok (.iadd, 1) := by decide +kernel
theorem dX7_place_7 : decode cX7_place 7 = .ok (.iload_n 1, 1) := by decide +kernel
theorem dX7_place_8 : decode cX7_place 8 = .ok (.iadd, 1) := by decide +kernel
theorem dX7_place_9 : decode cX7_place 9 = .ok (.ireturn, 1) := by decide +kernel
theorem dX7_reverse_0 : decode cX7_reverse 0 = .ok (.aload_n 0, 1) := by decide +kernel
theorem dX7_reverse_1 : decode cX7_reverse 1 = .ok (.iload_n 1, 1) := by decide +kernel
theorem dX7_reverse_2 : decode cX7_reverse 2 = .ok (.invokestatic 105, 3) := by decide +kernel
theorem dX7_reverse_5 : decode cX7_reverse 5 = .ok (.ifCond .eq 7, 3) := by decide +kernel
theorem dX7_reverse_8 : decode cX7_reverse 8 = .ok (.iconst 0, 1) := by decide +kernel
theorem dX7_reverse_9 : decode cX7_reverse 9 = .ok (.goto 4, 3) := by decide +kernel
theorem dX7_reverse_12 : decode cX7_reverse 12 = .ok (.iconst 1, 1) := by decide +kernel
theorem dX7_reverse_13 : decode cX7_reverse 13 = .ok (.invokevirtual 99, 3) := by decide +kernel
theorem dX7_reverse_16 : decode cX7_reverse 16 = .ok (.ifCond .eq 28, 3) := by decide +kernel
theorem dX7_reverse_19 : decode cX7_reverse 19 = .ok (.aload_n 0, 1) := by decide +kernel
theorem dX7_reverse_20 : decode cX7_reverse 20 = .ok (.iload_n 1, 1) := by decide +kernel
theorem dX7_reverse_21 : decode cX7_reverse 21 = .ok (.iconst 0, 1) := by decide +kernel
theorem dX7_reverse_22 : decode cX7_reverse 22 = .ok (.invokestatic 114, 3) := by decide +kernel
theorem dX7_reverse_25 : decode cX7_reverse 25 = .ok (.iconst 1, 1) := by decide +kernel
theorem dX7_reverse_26 : decode cX7_reverse 26 = .ok (.aload_n 0, 1) := by decide +kernel
theorem dX7_reverse_27 : decode cX7_reverse 27 = .ok (.iconst 0, 1) := by decide +kernel
theorem dX7_reverse_28 : decode cX7_reverse 28 = .ok (.iload_n 1, 1) := by decide +kernel
theorem dX7_reverse_29 : decode cX7_reverse 29 = .ok (.iconst 0, 1) := by decide +kernel
theorem dX7_reverse_30 : decode cX7_reverse 30 = .ok (.invokevirtual 57, 3) := by decide +kernel
theorem dX7_reverse_33 : decode cX7_reverse 33 = .ok (.isub, 1) := by decide +kernel
theorem dX7_reverse_34 : decode cX7_reverse 34 = .ok (.invokevirtual 102, 3) := by decide +kernel
theorem dX7_reverse_37 : decode cX7_reverse 37 = .ok (.ifCond .ne 7, 3) := by decide +kernel
theorem dX7_reverse_40 : decode cX7_reverse 40 = .ok (.iconst 1, 1) := by decide +kernel
theorem dX7_reverse_41 : decode cX7_reverse 41 = .ok (.goto 4, 3) := by decide +kernel
theorem dX7_reverse_44 : decode cX7_reverse 44 = .ok (.iconst 0, 1) := by decide +kernel
theorem dX7_reverse_45 : decode cX7_reverse 45 = .ok (.ireturn, 1) := by decide +kernel
theorem dX7_setNeutral_0 : decode cX7_setNeutral 0 = .ok (.aload_n 0, 1) := by decide +kernel
theorem dX7_setNeutral_1 : decode cX7_setNeutral 1 = .ok (.iload_n 1, 1) := by decide +kernel
theorem dX7_setNeutral_2 : decode cX7_setNeutral 2 = .ok (.invokestatic 105, 3) := by decide +kernel
theorem dX7_setNeutral_5 : decode cX7_setNeutral 5 = .ok (.ifCond .ne 7, 3) := by decide +kernel
theorem dX7_setNeutral_8 : decode cX7_setNeutral 8 = .ok (.iconst 1, 1) := by decide +kernel
theorem dX7_setNeutral_9 : decode cX7_setNeutral 9 = .ok (.goto 19, 3) := by decide +kernel
theorem dX7_setNeutral_12 : decode cX7_setNeutral 12 = .ok (.iload_n 2, 1) := by decide +kernel
theorem dX7_setNeutral_13 : decode cX7_setNeutral 13 = .ok (.bipush (-50), 2) := by decide +kernel
theorem dX7_setNeutral_15 : decode cX7_setNeutral 15 = .ok (.bipush 50, 2) := by decide +kernel
theorem dX7_setNeutral_17 : decode cX7_setNeutral 17 = .ok (.invokestatic 35, 3) := by decide +kernel
theorem dX7_setNeutral_20 : decode cX7_setNeutral 20 = .ok (.ifCond .ne 7, 3) := by decide +kernel
theorem dX7_setNeutral_23 : decode cX7_setNeutral 23 = .ok (.iconst 2, 1) := by decide +kernel
theorem dX7_setNeutral_24 : decode cX7_setNeutral 24 = .ok (.goto 4, 3) := by decide +kernel
theorem dX7_setNeutral_27 : decode cX7_setNeutral 27 = .ok (.iconst 0, 1) := by decide +kernel
theorem dX7_setNeutral_28 : decode cX7_setNeutral 28 = .ok (.invokevirtual 99, 3) := by decide +kernel
theorem dX7_setNeutral_31 : decode cX7_setNeutral 31 = .ok (.ifCond .eq 16, 3) := by decide +kernel
theorem dX7_setNeutral_34 : decode cX7_setNeutral 34 = .ok (.aload_n 0, 1) := by decide +kernel
theorem dX7_setNeutral_35 : decode cX7_setNeutral 35 = .ok (.iload_n 1, 1) := by decide +kernel
theorem dX7_setNeutral_36 : decode cX7_setNeutral 36 = .ok (.iconst 1, 1) := by decide +kernel
theorem dX7_setNeutral_37 : decode cX7_setNeutral 37 = .ok (.invokestatic 114, 3) := by decide +kernel
theorem dX7_setNeutral_40 : decode cX7_setNeutral 40 = .ok (.iload_n 2, 1) := by decide +kernel
theorem dX7_setNeutral_41 : decode cX7_setNeutral 41 = .ok (.invokevirtual 102, 3) := by decide +kernel
theorem dX7_setNeutral_44 : decode cX7_setNeutral 44 = .ok (.goto 4, 3) := by decide +kernel
theorem dX7_setNeutral_47 : decode cX7_setNeutral 47 = .ok (.iconst 0, 1) := by decide +kernel
theorem dX7_setNeutral_48 : decode cX7_setNeutral 48 = .ok (.ireturn, 1) := by decide +kernel
theorem dX7_setLimits_0 : decode cX7_setLimits 0 = .ok (.aload_n 0, 1) := by decide +kernel
theorem dX7_setLimits_1 : decode cX7_setLimits 1 = .ok (.iload_n 1, 1) := by decide +kernel
theorem dX7_setLimits_2 : decode cX7_setLimits 2 = .ok (.invokestatic 105, 3) := by decide +kernel
theorem dX7_setLimits_5 : decode cX7_setLimits 5 = .ok (.ifCond .ne 7, 3) := by decide +kernel
theorem dX7_setLimits_8 : decode cX7_setLimits 8 = .ok (.iconst 1, 1) := by decide +kernel
theorem dX7_setLimits_9 : decode cX7_setLimits 9 = .ok (.goto 30, 3) := by decide +kernel
theorem dX7_setLimits_12 : decode cX7_setLimits 12 = .ok (.iload_n 2, 1) := by decide +kernel
theorem dX7_setLimits_13 : decode cX7_setLimits 13 = .ok (.sipush (-150), 3) := by decide +kernel
theorem dX7_setLimits_16 : decode cX7_setLimits 16 = .ok (.iconst 0, 1) := by decide +kernel
theorem dX7_setLimits_17 : decode cX7_setLimits 17 = .ok (.invokestatic 35, 3) := by decide +kernel
theorem dX7_setLimits_20 : decode cX7_setLimits 20 = .ok (.ifCond .eq 14, 3) := by decide +kernel
theorem dX7_setLimits_23 : decode cX7_setLimits 23 = .ok (.iload_n 3, 1) := by decide +kernel
theorem dX7_setLimits_24 : decode cX7_setLimits 24 = .ok (.iconst 0, 1) := by decide +kernel
theorem dX7_setLimits_25 : decode cX7_setLimits 25 = .ok (.sipush 150, 3) := by decide +kernel
theorem dX7_setLimits_28 : decode cX7_setLimits 28 = .ok (.invokestatic 35, 3) := by decide +kernel
theorem dX7_setLimits_31 : decode cX7_setLimits 31 = .ok (.ifCond .ne 7, 3) := by decide +kernel
theorem dX7_setLimits_34 : decode cX7_setLimits 34 = .ok (.iconst 2, 1) := by decide +kernel
theorem dX7_setLimits_35 : decode cX7_setLimits 35 = .ok (.goto 4, 3) := by decide +kernel
theorem dX7_setLimits_38 : decode cX7_setLimits 38 = .ok (.iconst 0, 1) := by decide +kernel
theorem dX7_setLimits_39 : decode cX7_setLimits 39 = .ok (.invokevirtual 99, 3) := by decide +kernel
theorem dX7_setLimits_42 : decode cX7_setLimits 42 = .ok (.ifCond .ne 5, 3) := by decide +kernel
theorem dX7_setLimits_45 : decode cX7_setLimits 45 = .ok (.iconst 0, 1) := by decide +kernel
theorem dX7_setLimits_46 : decode cX7_setLimits 46 = .ok (.ireturn, 1) := by decide +kernel
theorem dX7_setLimits_47 : decode cX7_setLimits 47 = .ok (.aload_n 0, 1) := by decide +kernel
theorem dX7_setLimits_48 : decode cX7_setLimits 48 = .ok (.invokevirtual 92, 3) := by decide +kernel
theorem dX7_setLimits_51 : decode cX7_setLimits 51 = .ok (.aload_n 0, 1) := by decide +kernel
theorem dX7_setLimits_52 : decode cX7_setLimits 52 = .ok (.iconst 0, 1) := by decide +kernel
theorem dX7_setLimits_53 : decode cX7_setLimits 53 = .ok (.iload_n 1, 1) := by decide +kernel
theorem dX7_setLimits_54 : decode cX7_setLimits 54 = .ok (.iconst 3, 1) := by decide +kernel
theorem dX7_setLimits_55 : decode cX7_setLimits 55 = .ok (.invokevirtual 57, 3) := by decide +kernel
theorem dX7_setLimits_58 : decode cX7_setLimits 58 = .ok (.aload_n 0, 1) := by decide +kernel
theorem dX7_setLimits_59 : decode cX7_setLimits 59 = .ok (.iconst 0, 1) := by decide +kernel
theorem dX7_setLimits_60 : decode cX7_setLimits 60 = .ok (.iload_n 1, 1) := by decide +kernel
theorem dX7_setLimits_61 : decode cX7_setLimits 61 = .ok (.iconst 2, 1) := by decide +kernel
theorem dX7_setLimits_62 : decode cX7_setLimits 62 = .ok (.invokevirtual 57, 3) := by decide +kernel
theorem dX7_setLimits_65 : decode cX7_setLimits 65 = .ok (.isub, 1) := by decide +kernel
theorem dX7_setLimits_66 : decode cX7_setLimits 66 = .ok (.istore 4, 2) := by decide +kernel
theorem dX7_setLimits_68 : decode cX7_setLimits 68 = .ok (.aload_n 0, 1) := by decide +kernel
theorem dX7_setLimits_69 : decode cX7_setLimits 69 = .ok (.iconst 0, 1) := by decide +kernel
theorem dX7_setLimits_70 : decode cX7_setLimits 70 = .ok (.iload_n 1, 1) := by decide +kernel
theorem dX7_setLimits_71 : decode cX7_setLimits 71 = .ok (.iconst 2, 1) := by decide +kernel
theorem dX7_setLimits_72 : decode cX7_setLimits 72 = .ok (.iload_n 2, 1) := by decide +kernel
theorem dX7_setLimits_73 : decode cX7_setLimits 73 = .ok (.invokevirtual 27, 3) := by decide +kernel
theorem dX7_setLimits_76 : decode cX7_setLimits 76 = .ok (.aload_n 0, 1) := by decide +kernel
theorem dX7_setLimits_77 : decode cX7_setLimits 77 = .ok (.iconst 0, 1) := by decide +kernel
theorem dX7_setLimits_78 : decode cX7_setLimits 78 = .ok (.iload_n 1, 1) := by decide +kernel
theorem dX7_setLimits_79 : decode cX7_setLimits 79 = .ok (.iconst 3, 1) := by decide +kernel
theorem dX7_setLimits_80 : decode cX7_setLimits 80 = .ok (.iload_n 3, 1) := by decide +kernel
theorem dX7_setLimits_81 : decode cX7_setLimits 81 = .ok (.invokevirtual 27, 3) := by decide +kernel
theorem dX7_setLimits_84 : decode cX7_setLimits 84 = .ok (.iload 4, 2) := by decide +kernel
theorem dX7_setLimits_86 : decode cX7_setLimits 86 = .ok (.ireturn, 1) := by decide +kernel
theorem dX7_setSpeed_0 : decode cX7_setSpeed 0 = .ok (.aload_n 0, 1) := by decide +kernel
theorem dX7_setSpeed_1 : decode cX7_setSpeed 1 = .ok (.iload_n 1, 1) := by decide +kernel
theorem dX7_setSpeed_2 : decode cX7_setSpeed 2 = .ok (.invokestatic 105, 3) := by decide +kernel
theorem dX7_setSpeed_5 : decode cX7_setSpeed 5 = .ok (.ifCond .ne 7, 3) := by decide +kernel
theorem dX7_setSpeed_8 : decode cX7_setSpeed 8 = .ok (.iconst 1, 1) := by decide +kernel
theorem dX7_setSpeed_9 : decode cX7_setSpeed 9 = .ok (.goto 19, 3) := by decide +kernel
theorem dX7_setSpeed_12 : decode cX7_setSpeed 12 = .ok (.iload_n 2, 1) := by decide +kernel
theorem dX7_setSpeed_13 : decode cX7_setSpeed 13 = .ok (.iconst 1, 1) := by decide +kernel
theorem dX7_setSpeed_14 : decode cX7_setSpeed 14 = .ok (.sipush 300, 3) := by decide +kernel
theorem dX7_setSpeed_17 : decode cX7_setSpeed 17 = .ok (.invokestatic 35, 3) := by decide +kernel
theorem dX7_setSpeed_20 : decode cX7_setSpeed 20 = .ok (.ifCond .ne 7, 3) := by decide +kernel
theorem dX7_setSpeed_23 : decode cX7_setSpeed 23 = .ok (.iconst 2, 1) := by decide +kernel
theorem dX7_setSpeed_24 : decode cX7_setSpeed 24 = .ok (.goto 4, 3) := by decide +kernel
theorem dX7_setSpeed_27 : decode cX7_setSpeed 27 = .ok (.iconst 0, 1) := by decide +kernel
theorem dX7_setSpeed_28 : decode cX7_setSpeed 28 = .ok (.invokevirtual 99, 3) := by decide +kernel
theorem dX7_setSpeed_31 : decode cX7_setSpeed 31 = .ok (.ifCond .eq 16, 3) := by decide +kernel
theorem dX7_setSpeed_34 : decode cX7_setSpeed 34 = .ok (.aload_n 0, 1) := by decide +kernel
theorem dX7_setSpeed_35 : decode cX7_setSpeed 35 = .ok (.iload_n 1, 1) := by decide +kernel
theorem dX7_setSpeed_36 : decode cX7_setSpeed 36 = .ok (.iconst 4, 1) := by decide +kernel
theorem dX7_setSpeed_37 : decode cX7_setSpeed 37 = .ok (.invokestatic 114, 3) := by decide +kernel
theorem dX7_setSpeed_40 : decode cX7_setSpeed 40 = .ok (.iload_n 2, 1) := by decide +kernel
theorem dX7_setSpeed_41 : decode cX7_setSpeed 41 = .ok (.invokevirtual 102, 3) := by decide +kernel
theorem dX7_setSpeed_44 : decode cX7_setSpeed 44 = .ok (.goto 4, 3) := by decide +kernel
theorem dX7_setSpeed_47 : decode cX7_setSpeed 47 = .ok (.iconst 0, 1) := by decide +kernel
theorem dX7_setSpeed_48 : decode cX7_setSpeed 48 = .ok (.ireturn, 1) := by decide +kernel
theorem dX7_setFailsafe_0 : decode cX7_setFailsafe 0 = .ok (.aload_n 0, 1) := by decide +kernel
theorem dX7_setFailsafe_1 : decode cX7_setFailsafe 1 = .ok (.iload_n 1, 1) := by decide +kernel
theorem dX7_setFailsafe_2 : decode cX7_setFailsafe 2 = .ok (.invokestatic 105, 3) := by decide +kernel
theorem dX7_setFailsafe_5 : decode cX7_setFailsafe 5 = .ok (.ifCond .ne 7, 3) := by decide +kernel
theorem dX7_setFailsafe_8 : decode cX7_setFailsafe 8 = .ok (.iconst 1, 1) := by decide +kernel
theorem dX7_setFailsafe_9 : decode cX7_setFailsafe 9 = .ok (.goto 30, 3) := by decide +kernel
theorem dX7_setFailsafe_12 : decode cX7_setFailsafe 12 = .ok (.iload_n 2, 1) := by decide +kernel
theorem dX7_setFailsafe_13 : decode cX7_setFailsafe 13 = .ok (.iconst 0, 1) := by decide +kernel
theorem dX7_setFailsafe_14 : decode cX7_setFailsafe 14 = .ok (.iconst 2, 1) := by decide +kernel
theorem dX7_setFailsafe_15 : decode cX7_setFailsafe 15 = .ok (.invokestatic 35, 3) := by decide +kernel
theorem dX7_setFailsafe_18 : decode cX7_setFailsafe 18 = .ok (.ifCond .eq 16, 3) := by decide +kernel
theorem dX7_setFailsafe_21 : decode cX7_setFailsafe 21 = .ok (.iload_n 3, 1) := by decide +kernel
theorem dX7_setFailsafe_22 : decode cX7_setFailsafe 22 = .ok (.sipush (-150), 3) := by decide +kernel
theorem dX7_setFailsafe_25 : decode cX7_setFailsafe 25 = .ok (.sipush 150, 3) := by decide +kernel
theorem dX7_setFailsafe_28 : decode cX7_setFailsafe 28 = .ok (.invokestatic 35, 3) := by decide +kernel
theorem dX7_setFailsafe_31 : decode cX7_setFailsafe 31 = .ok (.ifCond .ne 7, 3) := by decide +kernel
theorem dX7_setFailsafe_34 : decode cX7_setFailsafe 34 = .ok (.iconst 2, 1) := by decide +kernel
theorem dX7_setFailsafe_35 : decode cX7_setFailsafe 35 = .ok (.goto 4, 3) := by decide +kernel
theorem dX7_setFailsafe_38 : decode cX7_setFailsafe 38 = .ok (.iconst 0, 1) := by decide +kernel
theorem dX7_setFailsafe_39 : decode cX7_setFailsafe 39 = .ok (.invokevirtual 99, 3) := by decide +kernel
theorem dX7_setFailsafe_42 : decode cX7_setFailsafe 42 = .ok (.ifCond .ne 5, 3) := by decide +kernel
theorem dX7_setFailsafe_45 : decode cX7_setFailsafe 45 = .ok (.iconst 0, 1) := by decide +kernel
theorem dX7_setFailsafe_46 : decode cX7_setFailsafe 46 = .ok (.ireturn, 1) := by decide +kernel
theorem dX7_setFailsafe_47 : decode cX7_setFailsafe 47 = .ok (.aload_n 0, 1) := by decide +kernel
theorem dX7_setFailsafe_48 : decode cX7_setFailsafe 48 = .ok (.invokevirtual 92, 3) := by decide +kernel
theorem dX7_setFailsafe_51 : decode cX7_setFailsafe 51 = .ok (.aload_n 0, 1) := by decide +kernel
theorem dX7_setFailsafe_52 : decode cX7_setFailsafe 52 = .ok (.iconst 0, 1) := by decide +kernel
theorem dX7_setFailsafe_53 : decode cX7_setFailsafe 53 = .ok (.iload_n 1, 1) := by decide +kernel
theorem dX7_setFailsafe_54 : decode cX7_setFailsafe 54 = .ok (.iconst 5, 1) := by decide +kernel
theorem dX7_setFailsafe_55 : decode cX7_setFailsafe 55 = .ok (.invokevirtual 57, 3) := by decide +kernel
theorem dX7_setFailsafe_58 : decode cX7_setFailsafe 58 = .ok (.istore 4, 2) := by decide +kernel
theorem dX7_setFailsafe_60 : decode cX7_setFailsafe 60 = .ok (.aload_n 0, 1) := by decide +kernel
theorem dX7_setFailsafe_61 : decode cX7_setFailsafe 61 = .ok (.iconst 0, 1) := by decide +kernel
theorem dX7_setFailsafe_62 : decode cX7_setFailsafe 62 = .ok (.iload_n 1, 1) := by decide +kernel
theorem dX7_setFailsafe_63 : decode cX7_setFailsafe 63 = .ok (.iconst 5, 1) := by decide +kernel
theorem dX7_setFailsafe_64 : decode cX7_setFailsafe 64 = .ok (.iload_n 2, 1) := by decide +kernel
theorem dX7_setFailsafe_65 : decode cX7_setFailsafe 65 = .ok (.invokevirtual 27, 3) := by decide +kernel
theorem dX7_setFailsafe_68 : decode cX7_setFailsafe 68 = .ok (.aload_n 0, 1) := by decide +kernel
theorem dX7_setFailsafe_69 : decode cX7_setFailsafe 69 = .ok (.iconst 0, 1) := by decide +kernel
theorem dX7_setFailsafe_70 : decode cX7_setFailsafe 70 = .ok (.iload_n 1, 1) := by decide +kernel
theorem dX7_setFailsafe_71 : decode cX7_setFailsafe 71 = .ok (.bipush 6, 2) := by decide +kernel
theorem dX7_setFailsafe_73 : decode cX7_setFailsafe 73 = .ok (.iload_n 3, 1) := by decide +kernel
theorem dX7_setFailsafe_74 : decode cX7_setFailsafe 74 = .ok (.invokevirtual 27, 3) := by decide +kernel
theorem dX7_setFailsafe_77 : decode cX7_setFailsafe 77 = .ok (.iload 4, 2) := by decide +kernel
theorem dX7_setFailsafe_79 : decode cX7_setFailsafe 79 = .ok (.ireturn, 1) := by decide +kernel
theorem dX7_demand_0 : decode cX7_demand 0 = .ok (.aload_n 0, 1) := by decide +kernel
theorem dX7_demand_1 : decode cX7_demand 1 = .ok (.iload_n 1, 1) := by decide +kernel
theorem dX7_demand_2 : decode cX7_demand 2 = .ok (.invokestatic 105, 3) := by decide +kernel
theorem dX7_demand_5 : decode cX7_demand 5 = .ok (.ifCond .eq 7, 3) := by decide +kernel
theorem dX7_demand_8 : decode cX7_demand 8 = .ok (.iconst 0, 1) := by decide +kernel
theorem dX7_demand_9 : decode cX7_demand 9 = .ok (.goto 4, 3) := by decide +kernel
theorem dX7_demand_12 : decode cX7_demand 12 = .ok (.iconst 1, 1) := by decide +kernel
theorem dX7_demand_13 : decode cX7_demand 13 = .ok (.invokevirtual 99, 3) := by decide +kernel
theorem dX7_demand_16 : decode cX7_demand 16 = .ok (.ifCond .ne 5, 3) := by decide +kernel
theorem dX7_demand_19 : decode cX7_demand 19 = .ok (.iconst 0, 1) := by decide +kernel
theorem dX7_demand_20 : decode cX7_demand 20 = .ok (.ireturn, 1) := by decide +kernel
theorem dX7_demand_21 : decode cX7_demand 21 = .ok (.aload_n 0, 1) := by decide +kernel
theorem dX7_demand_22 : decode cX7_demand 22 = .ok (.iconst 0, 1) := by decide +kernel
theorem dX7_demand_23 : decode cX7_demand 23 = .ok (.invokevirtual 63, 3) := by decide +kernel
theorem dX7_demand_26 : decode cX7_demand 26 = .ok (.aload_n 0, 1) := by decide +kernel
theorem dX7_demand_27 : decode cX7_demand 27 = .ok (.getfield 20, 3) := by decide +kernel
theorem dX7_demand_30 : decode cX7_demand 30 = .ok (.iload_n 1, 1) := by decide +kernel
theorem dX7_demand_31 : decode cX7_demand 31 = .ok (.iaload, 1) := by decide +kernel
theorem dX7_demand_32 : decode cX7_demand 32 = .ok (.ireturn, 1) := by decide +kernel
theorem dX7_aim_0 : decode cX7_aim 0 = .ok (.aload_n 0, 1) := by decide +kernel
theorem dX7_aim_1 : decode cX7_aim 1 = .ok (.iload_n 1, 1) := by decide +kernel
theorem dX7_aim_2 : decode cX7_aim 2 = .ok (.invokestatic 105, 3) := by decide +kernel
theorem dX7_aim_5 : decode cX7_aim 5 = .ok (.ifCond .eq 7, 3) := by decide +kernel
theorem dX7_aim_8 : decode cX7_aim 8 = .ok (.iconst 0, 1) := by decide +kernel
theorem dX7_aim_9 : decode cX7_aim 9 = .ok (.goto 4, 3) := by decide +kernel
theorem dX7_aim_12 : decode cX7_aim 12 = .ok (.iconst 1, 1) := by decide +kernel
theorem dX7_aim_13 : decode cX7_aim 13 = .ok (.invokevirtual 99, 3) := by decide +kernel
theorem dX7_aim_16 : decode cX7_aim 16 = .ok (.ifCond .eq 12, 3) := by decide +kernel
theorem dX7_aim_19 : decode cX7_aim 19 = .ok (.aload_n 0, 1) := by decide +kernel
theorem dX7_aim_20 : decode cX7_aim 20 = .ok (.iconst 0, 1) := by decide +kernel
theorem dX7_aim_21 : decode cX7_aim 21 = .ok (.iload_n 1, 1) := by decide +kernel
theorem dX7_aim_22 : decode cX7_aim 22 = .ok (.invokevirtual 117, 3) := by decide +kernel
theorem dX7_aim_25 : decode cX7_aim 25 = .ok (.goto 4, 3) := by decide +kernel
theorem dX7_aim_28 : decode cX7_aim 28 = .ok (.iconst 0, 1) := by decide +kernel
theorem dX7_aim_29 : decode cX7_aim 29 = .ok (.ireturn, 1) := by decide +kernel
theorem dX7_excess_0 : decode cX7_excess 0 = .ok (.aload_n 0, 1) := by decide +kernel
theorem dX7_excess_1 : decode cX7_excess 1 = .ok (.iload_n 1, 1) := by decide +kernel
theorem dX7_excess_2 : decode cX7_excess 2 = .ok (.invokestatic 105, 3) := by decide +kernel
theorem dX7_excess_5 : decode cX7_excess 5 = .ok (.ifCond .eq 7, 3) := by decide +kernel
theorem dX7_excess_8 : decode cX7_excess 8 = .ok (.iconst 0, 1) := by decide +kernel
theorem dX7_excess_9 : decode cX7_excess 9 = .ok (.goto 4, 3) := by decide +kernel
theorem dX7_excess_12 : decode cX7_excess 12 = .ok (.iconst 1, 1) := by decide +kernel
theorem dX7_excess_13 : decode cX7_excess 13 = .ok (.invokevirtual 99, 3) := by decide +kernel
theorem dX7_excess_16 : decode cX7_excess 16 = .ok (.ifCond .ne 5, 3) := by decide +kernel
theorem dX7_excess_19 : decode cX7_excess 19 = .ok (.iconst 0, 1) := by decide +kernel
theorem dX7_excess_20 : decode cX7_excess 20 = .ok (.ireturn, 1) := by decide +kernel
theorem dX7_excess_21 : decode cX7_excess 21 = .ok (.aload_n 0, 1) := by decide +kernel
theorem dX7_excess_22 : decode cX7_excess 22 = .ok (.iconst 0, 1) := by decide +kernel
theorem dX7_excess_23 : decode cX7_excess 23 = .ok (.iload_n 1, 1) := by decide +kernel
theorem dX7_excess_24 : decode cX7_excess 24 = .ok (.invokevirtual 117, 3) := by decide +kernel
theorem dX7_excess_27 : decode cX7_excess 27 = .ok (.istore_n 2, 1) := by decide +kernel
theorem dX7_excess_28 : decode cX7_excess 28 = .ok (.aload_n 0, 1) := by decide +kernel
theorem dX7_excess_29 : decode cX7_excess 29 = .ok (.iconst 0, 1) := by decide +kernel
theorem dX7_excess_30 : decode cX7_excess 30 = .ok (.iload_n 1, 1) := by decide +kernel
theorem dX7_excess_31 : decode cX7_excess 31 = .ok (.invokevirtual 60, 3) := by decide +kernel
theorem dX7_excess_34 : decode cX7_excess 34 = .ok (.iload_n 2, 1) := by decide +kernel
theorem dX7_excess_35 : decode cX7_excess 35 = .ok (.isub, 1) := by decide +kernel
theorem dX7_excess_36 : decode cX7_excess 36 = .ok (.ireturn, 1) := by decide +kernel
theorem dX7_target_0 : decode cX7_target 0 = .ok (.aload_n 0, 1) := by decide +kernel
theorem dX7_target_1 : decode cX7_target 1 = .ok (.iload_n 1, 1) := by decide +kernel
theorem dX7_target_2 : decode cX7_target 2 = .ok (.invokestatic 105, 3) := by decide +kernel
theorem dX7_target_5 : decode cX7_target 5 = .ok (.ifCond .eq 7, 3) := by decide +kernel
theorem dX7_target_8 : decode cX7_target 8 = .ok (.iconst 0, 1) := by decide +kernel
theorem dX7_target_9 : decode cX7_target 9 = .ok (.goto 4, 3) := by decide +kernel
theorem dX7_target_12 : decode cX7_target 12 = .ok (.iconst 1, 1) := by decide +kernel
theorem dX7_target_13 : decode cX7_target 13 = .ok (.invokevirtual 99, 3) := by decide +kernel
theorem dX7_target_16 : decode cX7_target 16 = .ok (.ifCond .eq 14, 3) := by decide +kernel
theorem dX7_target_19 : decode cX7_target 19 = .ok (.aload_n 0, 1) := by decide +kernel
theorem dX7_target_20 : decode cX7_target 20 = .ok (.iconst 0, 1) := by decide +kernel
theorem dX7_target_21 : decode cX7_target 21 = .ok (.iload_n 1, 1) := by decide +kernel
theorem dX7_target_22 : decode cX7_target 22 = .ok (.bipush 7, 2) := by decide +kernel
theorem dX7_target_24 : decode cX7_target 24 = .ok (.invokevirtual 57, 3) := by decide +kernel
theorem dX7_target_27 : decode cX7_target 27 = .ok (.goto 4, 3) := by decide +kernel
theorem dX7_target_30 : decode cX7_target 30 = .ok (.iconst 0, 1) := by decide +kernel
theorem dX7_target_31 : decode cX7_target 31 = .ok (.ireturn, 1) := by decide +kernel
theorem dX7_servoPosition_0 : decode cX7_servoPosition 0 = .ok (.aload_n 0, 1) := by decide +kernel
theorem dX7_servoPosition_1 : decode cX7_servoPosition 1 = .ok (.iload_n 1, 1) := by decide +kernel
theorem dX7_servoPosition_2 : decode cX7_servoPosition 2 = .ok (.invokestatic 105, 3) := by decide +kernel
theorem dX7_servoPosition_5 : decode cX7_servoPosition 5 = .ok (.ifCond .eq 7, 3) := by decide +kernel
theorem dX7_servoPosition_8 : decode cX7_servoPosition 8 = .ok (.iconst 0, 1) := by decide +kernel
theorem dX7_servoPosition_9 : decode cX7_servoPosition 9 = .ok (.goto 4, 3) := by decide +kernel
theorem dX7_servoPosition_12 : decode cX7_servoPosition 12 = .ok (.iconst 1, 1) := by decide +kernel
theorem dX7_servoPosition_13 : decode cX7_servoPosition 13 = .ok (.invokevirtual 99, 3) := by decide +kernel
theorem dX7_servoPosition_16 : decode cX7_servoPosition 16 = .ok (.ifCond .eq 14, 3) := by decide +kernel
theorem dX7_servoPosition_19 : decode cX7_servoPosition 19 = .ok (.aload_n 0, 1) := by decide +kernel
theorem dX7_servoPosition_20 : decode cX7_servoPosition 20 = .ok (.iconst 0, 1) := by decide +kernel
theorem dX7_servoPosition_21 : decode cX7_servoPosition 21 = .ok (.iload_n 1, 1) := by decide +kernel
theorem dX7_servoPosition_22 : decode cX7_servoPosition 22 = .ok (.bipush 8, 2) := by decide +kernel
theorem dX7_servoPosition_24 : decode cX7_servoPosition 24 = .ok (.invokevirtual 57, 3) := by decide +kernel
theorem dX7_servoPosition_27 : decode cX7_servoPosition 27 = .ok (.goto 4, 3) := by decide +kernel
theorem dX7_servoPosition_30 : decode cX7_servoPosition 30 = .ok (.iconst 0, 1) := by decide +kernel
theorem dX7_servoPosition_31 : decode cX7_servoPosition 31 = .ok (.ireturn, 1) := by decide +kernel
theorem dX7_wear_0 : decode cX7_wear 0 = .ok (.aload_n 0, 1) := by decide +kernel
theorem dX7_wear_1 : decode cX7_wear 1 = .ok (.iload_n 1, 1) := by decide +kernel
theorem dX7_wear_2 : decode cX7_wear 2 = .ok (.invokestatic 105, 3) := by decide +kernel
theorem dX7_wear_5 : decode cX7_wear 5 = .ok (.ifCond .eq 7, 3) := by decide +kernel
theorem dX7_wear_8 : decode cX7_wear 8 = .ok (.iconst 0, 1) := by decide +kernel
theorem dX7_wear_9 : decode cX7_wear 9 = .ok (.goto 4, 3) := by decide +kernel
theorem dX7_wear_12 : decode cX7_wear 12 = .ok (.iconst 1, 1) := by decide +kernel
theorem dX7_wear_13 : decode cX7_wear 13 = .ok (.invokevirtual 99, 3) := by decide +kernel
theorem dX7_wear_16 : decode cX7_wear 16 = .ok (.ifCond .eq 14, 3) := by decide +kernel
theorem dX7_wear_19 : decode cX7_wear 19 = .ok (.aload_n 0, 1) := by decide +kernel
theorem dX7_wear_20 : decode cX7_wear 20 = .ok (.iconst 0, 1) := by decide +kernel
theorem dX7_wear_21 : decode cX7_wear 21 = .ok (.iload_n 1, 1) := by decide +kernel
theorem dX7_wear_22 : decode cX7_wear 22 = .ok (.bipush 9, 2) := by decide +kernel
theorem dX7_wear_24 : decode cX7_wear 24 = .ok (.invokevirtual 57, 3) := by decide +kernel
theorem dX7_wear_27 : decode cX7_wear 27 = .ok (.goto 4, 3) := by decide +kernel
theorem dX7_wear_30 : decode cX7_wear 30 = .ok (.iconst 0, 1) := by decide +kernel
theorem dX7_wear_31 : decode cX7_wear 31 = .ok (.ireturn, 1) := by decide +kernel
theorem dX7_send_0 : decode cX7_send 0 = .ok (.aload_n 0, 1) := by decide +kernel
theorem dX7_send_1 : decode cX7_send 1 = .ok (.iload_n 1, 1) := by decide +kernel
theorem dX7_send_2 : decode cX7_send 2 = .ok (.iconst 1, 1) := by decide +kernel
theorem dX7_send_3 : decode cX7_send 3 = .ok (.bipush 50, 2) := by decide +kernel
theorem dX7_send_5 : decode cX7_send 5 = .ok (.invokestatic 35, 3) := by decide +kernel
theorem dX7_send_8 : decode cX7_send 8 = .ok (.ifCond .eq 7, 3) := by decide +kernel
theorem dX7_send_11 : decode cX7_send 11 = .ok (.iconst 0, 1) := by decide +kernel
theorem dX7_send_12 : decode cX7_send 12 = .ok (.goto 4, 3) := by decide +kernel
theorem dX7_send_15 : decode cX7_send 15 = .ok (.iconst 1, 1) := by decide +kernel
theorem dX7_send_16 : decode cX7_send 16 = .ok (.invokevirtual 99, 3) := by decide +kernel
theorem dX7_send_19 : decode cX7_send 19 = .ok (.ifCond .ne 5, 3) := by decide +kernel
theorem dX7_send_22 : decode cX7_send 22 = .ok (.iconst 0, 1) := by decide +kernel
theorem dX7_send_23 : decode cX7_send 23 = .ok (.ireturn, 1) := by decide +kernel
theorem dX7_send_24 : decode cX7_send 24 = .ok (.aload_n 0, 1) := by decide +kernel
theorem dX7_send_25 : decode cX7_send 25 = .ok (.invokevirtual 92, 3) := by decide +kernel
theorem dX7_send_28 : decode cX7_send 28 = .ok (.aload_n 0, 1) := by decide +kernel
theorem dX7_send_29 : decode cX7_send 29 = .ok (.iload_n 1, 1) := by decide +kernel
theorem dX7_send_30 : decode cX7_send 30 = .ok (.iconst 1, 1) := by decide +kernel
theorem dX7_send_31 : decode cX7_send 31 = .ok (.invokevirtual 120, 3) := by decide +kernel
theorem dX7_send_34 : decode cX7_send 34 = .ok (.ireturn, 1) := by decide +kernel
theorem dX7_lose_0 : decode cX7_lose 0 = .ok (.aload_n 0, 1) := by decide +kernel
theorem dX7_lose_1 : decode cX7_lose 1 = .ok (.iload_n 1, 1) := by decide +kernel
theorem dX7_lose_2 : decode cX7_lose 2 = .ok (.iconst 1, 1) := by decide +kernel
theorem dX7_lose_3 : decode cX7_lose 3 = .ok (.bipush 50, 2) := by decide +kernel
theorem dX7_lose_5 : decode cX7_lose 5 = .ok (.invokestatic 35, 3) := by decide +kernel
theorem dX7_lose_8 : decode cX7_lose 8 = .ok (.ifCond .eq 7, 3) := by decide +kernel
theorem dX7_lose_11 : decode cX7_lose 11 = .ok (.iconst 0, 1) := by decide +kernel
theorem dX7_lose_12 : decode cX7_lose 12 = .ok (.goto 4, 3) := by decide +kernel
theorem dX7_lose_15 : decode cX7_lose 15 = .ok (.iconst 1, 1) := by decide +kernel
theorem dX7_lose_16 : decode cX7_lose 16 = .ok (.invokevirtual 99, 3) := by decide +kernel
theorem dX7_lose_19 : decode cX7_lose 19 = .ok (.ifCond .ne 5, 3) := by decide +kernel
theorem dX7_lose_22 : decode cX7_lose 22 = .ok (.iconst 0, 1) := by decide +kernel
theorem dX7_lose_23 : decode cX7_lose 23 = .ok (.ireturn, 1) := by decide +kernel
theorem dX7_lose_24 : decode cX7_lose 24 = .ok (.aload_n 0, 1) := by decide +kernel
theorem dX7_lose_25 : decode cX7_lose 25 = .ok (.invokevirtual 92, 3) := by decide +kernel
theorem dX7_lose_28 : decode cX7_lose 28 = .ok (.aload_n 0, 1) := by decide +kernel
theorem dX7_lose_29 : decode cX7_lose 29 = .ok (.iload_n 1, 1) := by decide +kernel
theorem dX7_lose_30 : decode cX7_lose 30 = .ok (.iconst 0, 1) := by decide +kernel
theorem dX7_lose_31 : decode cX7_lose 31 = .ok (.invokevirtual 120, 3) := by decide +kernel
theorem dX7_lose_34 : decode cX7_lose 34 = .ok (.ireturn, 1) := by decide +kernel
theorem dX7_setDelay_0 : decode cX7_setDelay 0 = .ok (.aload_n 0, 1) := by decide +kernel
theorem dX7_setDelay_1 : decode cX7_setDelay 1 = .ok (.iload_n 1, 1) := by decide +kernel
theorem dX7_setDelay_2 : decode cX7_setDelay 2 = .ok (.iconst 1, 1) := by decide +kernel
theorem dX7_setDelay_3 : decode cX7_setDelay 3 = .ok (.bipush 50, 2) := by decide +kernel
theorem dX7_setDelay_5 : decode cX7_setDelay 5 = .ok (.invokestatic 35, 3) := by decide +kernel
theorem dX7_setDelay_8 : decode cX7_setDelay 8 = .ok (.ifCond .eq 7, 3) := by decide +kernel
theorem dX7_setDelay_11 : decode cX7_setDelay 11 = .ok (.iconst 0, 1) := by decide +kernel
theorem dX7_setDelay_12 : decode cX7_setDelay 12 = .ok (.goto 4, 3) := by decide +kernel
theorem dX7_setDelay_15 : decode cX7_setDelay 15 = .ok (.iconst 1, 1) := by decide +kernel
theorem dX7_setDelay_16 : decode cX7_setDelay 16 = .ok (.invokevirtual 99, 3) := by decide +kernel
theorem dX7_setDelay_19 : decode cX7_setDelay 19 = .ok (.ifCond .eq 14, 3) := by decide +kernel
theorem dX7_setDelay_22 : decode cX7_setDelay 22 = .ok (.aload_n 0, 1) := by decide +kernel
theorem dX7_setDelay_23 : decode cX7_setDelay 23 = .ok (.sipush 147, 3) := by decide +kernel
theorem dX7_setDelay_26 : decode cX7_setDelay 26 = .ok (.iload_n 1, 1) := by decide +kernel
theorem dX7_setDelay_27 : decode cX7_setDelay 27 = .ok (.invokevirtual 102, 3) := by decide +kernel
theorem dX7_setDelay_30 : decode cX7_setDelay 30 = .ok (.goto 4, 3) := by decide +kernel
theorem dX7_setDelay_33 : decode cX7_setDelay 33 = .ok (.iconst 0, 1) := by decide +kernel
theorem dX7_setDelay_34 : decode cX7_setDelay 34 = .ok (.ireturn, 1) := by decide +kernel
theorem dX7_charge_0 : decode cX7_charge 0 = .ok (.aload_n 0, 1) := by decide +kernel
theorem dX7_charge_1 : decode cX7_charge 1 = .ok (.iconst 0, 1) := by decide +kernel
theorem dX7_charge_2 : decode cX7_charge 2 = .ok (.putfield 31, 3) := by decide +kernel
theorem dX7_charge_5 : decode cX7_charge 5 = .ok (.sipush 20000, 3) := by decide +kernel
theorem dX7_charge_8 : decode cX7_charge 8 = .ok (.aload_n 0, 1) := by decide +kernel
theorem dX7_charge_9 : decode cX7_charge 9 = .ok (.sipush 148, 3) := by decide +kernel
theorem dX7_charge_12 : decode cX7_charge 12 = .ok (.sipush 20000, 3) := by decide +kernel
theorem dX7_charge_15 : decode cX7_charge 15 = .ok (.invokevirtual 102, 3) := by decide +kernel
theorem dX7_charge_18 : decode cX7_charge 18 = .ok (.isub, 1) := by decide +kernel
theorem dX7_charge_19 : decode cX7_charge 19 = .ok (.istore_n 1, 1) := by decide +kernel
theorem dX7_charge_20 : decode cX7_charge 20 = .ok (.aload_n 0, 1) := by decide +kernel
theorem dX7_charge_21 : decode cX7_charge 21 = .ok (.getfield 7, 3) := by decide +kernel
theorem dX7_charge_24 : decode cX7_charge 24 = .ok (.sipush 149, 3) := by decide +kernel
theorem dX7_charge_27 : decode cX7_charge 27 = .ok (.dup2, 1) := by decide +kernel
theorem dX7_charge_28 : decode cX7_charge 28 = .ok (.iaload, 1) := by decide +kernel
theorem dX7_charge_29 : decode cX7_charge 29 = .ok (.iload_n 1, 1) := by decide +kernel
theorem dX7_charge_30 : decode cX7_charge 30 = .ok (.iadd, 1) := by decide +kernel
theorem dX7_charge_31 : decode cX7_charge 31 = .ok (.iastore, 1) := by decide +kernel
theorem dX7_charge_32 : decode cX7_charge 32 = .ok (.iload_n 1, 1) := by decide +kernel
theorem dX7_charge_33 : decode cX7_charge 33 = .ok (.ireturn, 1) := by decide +kernel
theorem dX7_battery_0 : decode cX7_battery 0 = .ok (.aload_n 0, 1) := by decide +kernel
theorem dX7_battery_1 : decode cX7_battery 1 = .ok (.iconst 0, 1) := by decide +kernel
theorem dX7_battery_2 : decode cX7_battery 2 = .ok (.putfield 31, 3) := by decide +kernel
theorem dX7_battery_5 : decode cX7_battery 5 = .ok (.aload_n 0, 1) := by decide +kernel
theorem dX7_battery_6 : decode cX7_battery 6 = .ok (.getfield 7, 3) := by decide +kernel
theorem dX7_battery_9 : decode cX7_battery 9 = .ok (.sipush 148, 3) := by decide +kernel
theorem dX7_battery_12 : decode cX7_battery 12 = .ok (.iaload, 1) := by decide +kernel
theorem dX7_battery_13 : decode cX7_battery 13 = .ok (.ireturn, 1) := by decide +kernel
theorem dX7_charged_0 : decode cX7_charged 0 = .ok (.aload_n 0, 1) := by decide +kernel
theorem dX7_charged_1 : decode cX7_charged 1 = .ok (.iconst 0, 1) := by decide +kernel
theorem dX7_charged_2 : decode cX7_charged 2 = .ok (.putfield 31, 3) := by decide +kernel
theorem dX7_charged_5 : decode cX7_charged 5 = .ok (.aload_n 0, 1) := by decide +kernel
theorem dX7_charged_6 : decode cX7_charged 6 = .ok (.getfield 7, 3) := by decide +kernel
theorem dX7_charged_9 : decode cX7_charged 9 = .ok (.sipush 149, 3) := by decide +kernel
theorem dX7_charged_12 : decode cX7_charged 12 = .ok (.iaload, 1) := by decide +kernel
theorem dX7_charged_13 : decode cX7_charged 13 = .ok (.ireturn, 1) := by decide +kernel
theorem dX7_frames_0 : decode cX7_frames 0 = .ok (.aload_n 0, 1) := by decide +kernel
theorem dX7_frames_1 : decode cX7_frames 1 = .ok (.iconst 0, 1) := by decide +kernel
theorem dX7_frames_2 : decode cX7_frames 2 = .ok (.putfield 31, 3) := by decide +kernel
theorem dX7_frames_5 : decode cX7_frames 5 = .ok (.aload_n 0, 1) := by decide +kernel
theorem dX7_frames_6 : decode cX7_frames 6 = .ok (.getfield 7, 3) := by decide +kernel
theorem dX7_frames_9 : decode cX7_frames 9 = .ok (.sipush 150, 3) := by decide +kernel
theorem dX7_frames_12 : decode cX7_frames 12 = .ok (.iaload, 1) := by decide +kernel
theorem dX7_frames_13 : decode cX7_frames 13 = .ok (.ireturn, 1) := by decide +kernel
theorem dX7_lostFrames_0 : decode cX7_lostFrames 0 = .ok (.aload_n 0, 1) := by decide +kernel
theorem dX7_lostFrames_1 : decode cX7_lostFrames 1 = .ok (.iconst 0, 1) := by decide +kernel
theorem dX7_lostFrames_2 : decode cX7_lostFrames 2 = .ok (.putfield 31, 3) := by decide +kernel
theorem dX7_lostFrames_5 : decode cX7_lostFrames 5 = .ok (.aload_n 0, 1) := by decide +kernel
theorem dX7_lostFrames_6 : decode cX7_lostFrames 6 = .ok (.getfield 7, 3) := by decide +kernel
theorem dX7_lostFrames_9 : decode cX7_lostFrames 9 = .ok (.sipush 151, 3) := by decide +kernel
theorem dX7_lostFrames_12 : decode cX7_lostFrames 12 = .ok (.iaload, 1) := by decide +kernel
theorem dX7_lostFrames_13 : decode cX7_lostFrames 13 = .ok (.ireturn, 1) := by decide +kernel
theorem dX7_deadFrames_0 : decode cX7_deadFrames 0 = .ok (.aload_n 0, 1) := by decide +kernel
theorem dX7_deadFrames_1 : decode cX7_deadFrames 1 = .ok (.iconst 0, 1) := by decide +kernel
theorem dX7_deadFrames_2 : decode cX7_deadFrames 2 = .ok (.putfield 31, 3) := by decide +kernel
theorem dX7_deadFrames_5 : decode cX7_deadFrames 5 = .ok (.aload_n 0, 1) := by decide +kernel
theorem dX7_deadFrames_6 : decode cX7_deadFrames 6 = .ok (.getfield 7, 3) := by decide +kernel
theorem dX7_deadFrames_9 : decode cX7_deadFrames 9 = .ok (.sipush 152, 3) := by decide +kernel
theorem dX7_deadFrames_12 : decode cX7_deadFrames 12 = .ok (.iaload, 1) := by decide +kernel
theorem dX7_deadFrames_13 : decode cX7_deadFrames 13 = .ok (.ireturn, 1) := by decide +kernel
theorem dX7_lostInRow_0 : decode cX7_lostInRow 0 = .ok (.aload_n 0, 1) := by decide +kernel
theorem dX7_lostInRow_1 : decode cX7_lostInRow 1 = .ok (.iconst 0, 1) := by decide +kernel
theorem dX7_lostInRow_2 : decode cX7_lostInRow 2 = .ok (.putfield 31, 3) := by decide +kernel
theorem dX7_lostInRow_5 : decode cX7_lostInRow 5 = .ok (.aload_n 0, 1) := by decide +kernel
theorem dX7_lostInRow_6 : decode cX7_lostInRow 6 = .ok (.getfield 7, 3) := by decide +kernel
theorem dX7_lostInRow_9 : decode cX7_lostInRow 9 = .ok (.sipush 153, 3) := by decide +kernel
theorem dX7_lostInRow_12 : decode cX7_lostInRow 12 = .ok (.iaload, 1) := by decide +kernel
theorem dX7_lostInRow_13 : decode cX7_lostInRow 13 = .ok (.ireturn, 1) := by decide +kernel
theorem dX7_isFailsafe_0 : decode cX7_isFailsafe 0 = .ok (.aload_n 0, 1) := by decide +kernel
theorem dX7_isFailsafe_1 : decode cX7_isFailsafe 1 = .ok (.iconst 0, 1) := by decide +kernel
theorem dX7_isFailsafe_2 : decode cX7_isFailsafe 2 = .ok (.putfield 31, 3) := by decide +kernel
theorem dX7_isFailsafe_5 : decode cX7_isFailsafe 5 = .ok (.aload_n 0, 1) := by decide +kernel
theorem dX7_isFailsafe_6 : decode cX7_isFailsafe 6 = .ok (.getfield 7, 3) := by decide +kernel
theorem dX7_isFailsafe_9 : decode cX7_isFailsafe 9 = .ok (.sipush 155, 3) := by decide +kernel
theorem dX7_isFailsafe_12 : decode cX7_isFailsafe 12 = .ok (.iaload, 1) := by decide +kernel
theorem dX7_isFailsafe_13 : decode cX7_isFailsafe 13 = .ok (.iconst 1, 1) := by decide +kernel
theorem dX7_isFailsafe_14 : decode cX7_isFailsafe 14 = .ok (.if_icmp .ne 7, 3) := by decide +kernel
theorem dX7_isFailsafe_17 : decode cX7_isFailsafe 17 = .ok (.iconst 1, 1) := by decide +kernel
theorem dX7_isFailsafe_18 : decode cX7_isFailsafe 18 = .ok (.goto 4, 3) := by decide +kernel
theorem dX7_isFailsafe_21 : decode cX7_isFailsafe 21 = .ok (.iconst 0, 1) := by decide +kernel
theorem dX7_isFailsafe_22 : decode cX7_isFailsafe 22 = .ok (.ireturn, 1) := by decide +kernel
theorem dX7_failsafes_0 : decode cX7_failsafes 0 = .ok (.aload_n 0, 1) := by decide +kernel
theorem dX7_failsafes_1 : decode cX7_failsafes 1 = .ok (.iconst 0, 1) := by decide +kernel
theorem dX7_failsafes_2 : decode cX7_failsafes 2 = .ok (.putfield 31, 3) := by decide +kernel
theorem dX7_failsafes_5 : decode cX7_failsafes 5 = .ok (.aload_n 0, 1) := by decide +kernel
theorem dX7_failsafes_6 : decode cX7_failsafes 6 = .ok (.getfield 7, 3) := by decide +kernel
theorem dX7_failsafes_9 : decode cX7_failsafes 9 = .ok (.sipush 154, 3) := by decide +kernel
theorem dX7_failsafes_12 : decode cX7_failsafes 12 = .ok (.iaload, 1) := by decide +kernel
theorem dX7_failsafes_13 : decode cX7_failsafes 13 = .ok (.ireturn, 1) := by decide +kernel
theorem dX7_reason_0 : decode cX7_reason 0 = .ok (.aload_n 0, 1) := by decide +kernel
theorem dX7_reason_1 : decode cX7_reason 1 = .ok (.iload_n 1, 1) := by decide +kernel
theorem dX7_reason_2 : decode cX7_reason 2 = .ok (.invokestatic 105, 3) := by decide +kernel
theorem dX7_reason_5 : decode cX7_reason 5 = .ok (.ifCond .eq 7, 3) := by decide +kernel
theorem dX7_reason_8 : decode cX7_reason 8 = .ok (.iconst 0, 1) := by decide +kernel
theorem dX7_reason_9 : decode cX7_reason 9 = .ok (.goto 4, 3) := by decide +kernel
theorem dX7_reason_12 : decode cX7_reason 12 = .ok (.iconst 1, 1) := by decide +kernel
theorem dX7_reason_13 : decode cX7_reason 13 = .ok (.invokevirtual 99, 3) := by decide +kernel
theorem dX7_reason_16 : decode cX7_reason 16 = .ok (.ifCond .ne 5, 3) := by decide +kernel
theorem dX7_reason_19 : decode cX7_reason 19 = .ok (.iconst 0, 1) := by decide +kernel
theorem dX7_reason_20 : decode cX7_reason 20 = .ok (.ireturn, 1) := by decide +kernel
theorem dX7_reason_21 : decode cX7_reason 21 = .ok (.aload_n 0, 1) := by decide +kernel
theorem dX7_reason_22 : decode cX7_reason 22 = .ok (.iconst 0, 1) := by decide +kernel
theorem dX7_reason_23 : decode cX7_reason 23 = .ok (.iload_n 1, 1) := by decide +kernel
theorem dX7_reason_24 : decode cX7_reason 24 = .ok (.bipush 8, 2) := by decide +kernel
theorem dX7_reason_26 : decode cX7_reason 26 = .ok (.invokevirtual 57, 3) := by decide +kernel
theorem dX7_reason_29 : decode cX7_reason 29 = .ok (.aload_n 0, 1) := by decide +kernel
theorem dX7_reason_30 : decode cX7_reason 30 = .ok (.iconst 0, 1) := by decide +kernel
theorem dX7_reason_31 : decode cX7_reason 31 = .ok (.iload_n 1, 1) := by decide +kernel
theorem dX7_reason_32 : decode cX7_reason 32 = .ok (.invokevirtual 117, 3) := by decide +kernel
theorem dX7_reason_35 : decode cX7_reason 35 = .ok (.if_icmp .ne 5, 3) := by decide +kernel
theorem dX7_reason_38 : decode cX7_reason 38 = .ok (.iconst 0, 1) := by decide +kernel
theorem dX7_reason_39 : decode cX7_reason 39 = .ok (.ireturn, 1) := by decide +kernel
theorem dX7_reason_40 : decode cX7_reason 40 = .ok (.aload_n 0, 1) := by decide +kernel
theorem dX7_reason_41 : decode cX7_reason 41 = .ok (.getfield 7, 3) := by decide +kernel
theorem dX7_reason_44 : decode cX7_reason 44 = .ok (.sipush 148, 3) := by decide +kernel
theorem dX7_reason_47 : decode cX7_reason 47 = .ok (.iaload, 1) := by decide +kernel
theorem dX7_reason_48 : decode cX7_reason 48 = .ok (.ifCond .ne 7, 3) := by decide +kernel
theorem dX7_reason_51 : decode cX7_reason 51 = .ok (.iconst 1, 1) := by decide +kernel
theorem dX7_reason_52 : decode cX7_reason 52 = .ok (.goto 35, 3) := by decide +kernel
theorem dX7_reason_55 : decode cX7_reason 55 = .ok (.aload_n 0, 1) := by decide +kernel
theorem dX7_reason_56 : decode cX7_reason 56 = .ok (.getfield 7, 3) := by decide +kernel
theorem dX7_reason_59 : decode cX7_reason 59 = .ok (.sipush 155, 3) := by decide +kernel
theorem dX7_reason_62 : decode cX7_reason 62 = .ok (.iaload, 1) := by decide +kernel
theorem dX7_reason_63 : decode cX7_reason 63 = .ok (.iconst 1, 1) := by decide +kernel
theorem dX7_reason_64 : decode cX7_reason 64 = .ok (.if_icmp .ne 7, 3) := by decide +kernel
theorem dX7_reason_67 : decode cX7_reason 67 = .ok (.iconst 2, 1) := by decide +kernel
theorem dX7_reason_68 : decode cX7_reason 68 = .ok (.goto 19, 3) := by decide +kernel
theorem dX7_reason_71 : decode cX7_reason 71 = .ok (.aload_n 0, 1) := by decide +kernel
theorem dX7_reason_72 : decode cX7_reason 72 = .ok (.getfield 7, 3) := by decide +kernel
theorem dX7_reason_75 : decode cX7_reason 75 = .ok (.sipush 153, 3) := by decide +kernel
theorem dX7_reason_78 : decode cX7_reason 78 = .ok (.iaload, 1) := by decide +kernel
theorem dX7_reason_79 : decode cX7_reason 79 = .ok (.ifCond .le 7, 3) := by decide +kernel
theorem dX7_reason_82 : decode cX7_reason 82 = .ok (.iconst 3, 1) := by decide +kernel
theorem dX7_reason_83 : decode cX7_reason 83 = .ok (.goto 4, 3) := by decide +kernel
theorem dX7_reason_86 : decode cX7_reason 86 = .ok (.iconst 4, 1) := by decide +kernel
theorem dX7_reason_87 : decode cX7_reason 87 = .ok (.ireturn, 1) := by decide +kernel
theorem dX7_framesToAim_0 : decode cX7_framesToAim 0 = .ok (.aload_n 0, 1) := by decide +kernel
theorem dX7_framesToAim_1 : decode cX7_framesToAim 1 = .ok (.iload_n 1, 1) := by decide +kernel
theorem dX7_framesToAim_2 : decode cX7_framesToAim 2 = .ok (.invokestatic 105, 3) := by decide +kernel
theorem dX7_framesToAim_5 : decode cX7_framesToAim 5 = .ok (.ifCond .eq 7, 3) := by decide +kernel
theorem dX7_framesToAim_8 : decode cX7_framesToAim 8 = .ok (.iconst 0, 1) := by decide +kernel
theorem dX7_framesToAim_9 : decode cX7_framesToAim 9 = .ok (.goto 4, 3) := by decide +kernel
theorem dX7_framesToAim_12 : decode cX7_framesToAim 12 = .ok (.iconst 1, 1) := by decide +kernel
theorem dX7_framesToAim_13 : decode cX7_framesToAim 13 = .ok (.invokevirtual 99, 3) := by decide +kernel
theorem dX7_framesToAim_16 : decode cX7_framesToAim 16 = .ok (.ifCond .ne 5, 3) := by decide +kernel
theorem dX7_framesToAim_19 : decode cX7_framesToAim 19 = .ok (.iconst 0, 1) := by decide +kernel
theorem dX7_framesToAim_20 : decode cX7_framesToAim 20 = .ok (.ireturn, 1) := by decide +kernel
theorem dX7_framesToAim_21 : decode cX7_framesToAim 21 = .ok (.aload_n 0, 1) := by decide +kernel
theorem dX7_framesToAim_22 : decode cX7_framesToAim 22 = .ok (.iconst 0, 1) := by decide +kernel
theorem dX7_framesToAim_23 : decode cX7_framesToAim 23 = .ok (.iload_n 1, 1) := by decide +kernel
theorem dX7_framesToAim_24 : decode cX7_framesToAim 24 = .ok (.iconst 4, 1) := by decide +kernel
theorem dX7_framesToAim_25 : decode cX7_framesToAim 25 = .ok (.invokevirtual 57, 3) := by decide +kernel
theorem dX7_framesToAim_28 : decode cX7_framesToAim 28 = .ok (.istore_n 2, 1) := by decide +kernel
theorem dX7_framesToAim_29 : decode cX7_framesToAim 29 = .ok (.aload_n 0, 1) := by decide +kernel
theorem dX7_framesToAim_30 : decode cX7_framesToAim 30 = .ok (.iconst 0, 1) := by decide +kernel
theorem dX7_framesToAim_31 : decode cX7_framesToAim 31 = .ok (.iload_n 1, 1) := by decide +kernel
theorem dX7_framesToAim_32 : decode cX7_framesToAim 32 = .ok (.invokevirtual 117, 3) := by decide +kernel
theorem dX7_framesToAim_35 : decode cX7_framesToAim 35 = .ok (.aload_n 0, 1) := by decide +kernel
theorem dX7_framesToAim_36 : decode cX7_framesToAim 36 = .ok (.iconst 0, 1) := by decide +kernel
theorem dX7_framesToAim_37 : decode cX7_framesToAim 37 = .ok (.iload_n 1, 1) := by decide +kernel
theorem dX7_framesToAim_38 : decode cX7_framesToAim 38 = .ok (.bipush 8, 2) := by decide +kernel
theorem dX7_framesToAim_40 : decode cX7_framesToAim 40 = .ok (.invokevirtual 57, 3) := by decide +kernel
theorem dX7_framesToAim_43 : decode cX7_framesToAim 43 = .ok (.isub, 1) := by decide +kernel
theorem dX7_framesToAim_44 : decode cX7_framesToAim 44 = .ok (.invokestatic 70, 3) := by decide +kernel
theorem dX7_framesToAim_47 : decode cX7_framesToAim 47 = .ok (.iload_n 2, 1) := by decide +kernel
theorem dX7_framesToAim_48 : decode cX7_framesToAim 48 = .ok (.iadd, 1) := by decide +kernel
theorem dX7_framesToAim_49 : decode cX7_framesToAim 49 = .ok (.iconst 1, 1) := by decide +kernel
theorem dX7_framesToAim_50 : decode cX7_framesToAim 50 = .ok (.isub, 1) := by decide +kernel
theorem dX7_framesToAim_51 : decode cX7_framesToAim 51 = .ok (.iload_n 2, 1) := by decide +kernel
theorem dX7_framesToAim_52 : decode cX7_framesToAim 52 = .ok (.idiv, 1) := by decide +kernel
theorem dX7_framesToAim_53 : decode cX7_framesToAim 53 = .ok (.ireturn, 1) := by decide +kernel
theorem dX7_aimIfMoved_0 : decode cX7_aimIfMoved 0 = .ok (.aload_n 0, 1) := by decide +kernel
theorem dX7_aimIfMoved_1 : decode cX7_aimIfMoved 1 = .ok (.iload_n 1, 1) := by decide +kernel
theorem dX7_aimIfMoved_2 : decode cX7_aimIfMoved 2 = .ok (.invokestatic 95, 3) := by decide +kernel
theorem dX7_aimIfMoved_5 : decode cX7_aimIfMoved 5 = .ok (.ifCond .eq 10, 3) := by decide +kernel
theorem dX7_aimIfMoved_8 : decode cX7_aimIfMoved 8 = .ok (.iload_n 3, 1) := by decide +kernel
theorem dX7_aimIfMoved_9 : decode cX7_aimIfMoved 9 = .ok (.invokestatic 105, 3) := by decide +kernel
theorem dX7_aimIfMoved_12 : decode cX7_aimIfMoved 12 = .ok (.ifCond .ne 7, 3) := by decide +kernel
theorem dX7_aimIfMoved_15 : decode cX7_aimIfMoved 15 = .ok (.iconst 1, 1) := by decide +kernel
theorem dX7_aimIfMoved_16 : decode cX7_aimIfMoved 16 = .ok (.goto 19, 3) := by decide +kernel
theorem dX7_aimIfMoved_19 : decode cX7_aimIfMoved 19 = .ok (.iload_n 2, 1) := by decide +kernel
theorem dX7_aimIfMoved_20 : decode cX7_aimIfMoved 20 = .ok (.bipush (-100), 2) := by decide +kernel
theorem dX7_aimIfMoved_22 : decode cX7_aimIfMoved 22 = .ok (.bipush 100, 2) := by decide +kernel
theorem dX7_aimIfMoved_24 : decode cX7_aimIfMoved 24 = .ok (.invokestatic 35, 3) := by decide +kernel
theorem dX7_aimIfMoved_27 : decode cX7_aimIfMoved 27 = .ok (.ifCond .ne 7, 3) := by decide +kernel
theorem dX7_aimIfMoved_30 : decode cX7_aimIfMoved 30 = .ok (.iconst 2, 1) := by decide +kernel
theorem dX7_aimIfMoved_31 : decode cX7_aimIfMoved 31 = .ok (.goto 4, 3) := by decide +kernel
theorem dX7_aimIfMoved_34 : decode cX7_aimIfMoved 34 = .ok (.iconst 0, 1) := by decide +kernel
theorem dX7_aimIfMoved_35 : decode cX7_aimIfMoved 35 = .ok (.invokevirtual 99, 3) := by decide +kernel
theorem dX7_aimIfMoved_38 : decode cX7_aimIfMoved 38 = .ok (.ifCond .ne 5, 3) := by decide +kernel
theorem dX7_aimIfMoved_41 : decode cX7_aimIfMoved 41 = .ok (.iconst 0, 1) := by decide +kernel
theorem dX7_aimIfMoved_42 : decode cX7_aimIfMoved 42 = .ok (.ireturn, 1) := by decide +kernel
theorem dX7_aimIfMoved_43 : decode cX7_aimIfMoved 43 = .ok (.aload_n 0, 1) := by decide +kernel
theorem dX7_aimIfMoved_44 : decode cX7_aimIfMoved 44 = .ok (.iconst 0, 1) := by decide +kernel
theorem dX7_aimIfMoved_45 : decode cX7_aimIfMoved 45 = .ok (.bipush 9, 2) := by decide +kernel
theorem dX7_aimIfMoved_47 : decode cX7_aimIfMoved 47 = .ok (.invokevirtual 88, 3) := by decide +kernel
theorem dX7_aimIfMoved_50 : decode cX7_aimIfMoved 50 = .ok (.aload_n 0, 1) := by decide +kernel
theorem dX7_aimIfMoved_51 : decode cX7_aimIfMoved 51 = .ok (.getfield 7, 3) := by decide +kernel
theorem dX7_aimIfMoved_54 : decode cX7_aimIfMoved 54 = .ok (.sipush 1404, 3) := by decide +kernel
theorem dX7_aimIfMoved_57 : decode cX7_aimIfMoved 57 = .ok (.iload_n 1, 1) := by decide +kernel
theorem dX7_aimIfMoved_58 : decode cX7_aimIfMoved 58 = .ok (.iadd, 1) := by decide +kernel
theorem dX7_aimIfMoved_59 : decode cX7_aimIfMoved 59 = .ok (.iload_n 2, 1) := by decide +kernel
theorem dX7_aimIfMoved_60 : decode cX7_aimIfMoved 60 = .ok (.iastore, 1) := by decide +kernel
theorem dX7_aimIfMoved_61 : decode cX7_aimIfMoved 61 = .ok (.aload_n 0, 1) := by decide +kernel
theorem dX7_aimIfMoved_62 : decode cX7_aimIfMoved 62 = .ok (.sipush 1404, 3) := by decide +kernel
theorem dX7_aimIfMoved_65 : decode cX7_aimIfMoved 65 = .ok (.iload_n 3, 1) := by decide +kernel
theorem dX7_aimIfMoved_66 : decode cX7_aimIfMoved 66 = .ok (.invokevirtual 117, 3) := by decide +kernel
theorem dX7_aimIfMoved_69 : decode cX7_aimIfMoved 69 = .ok (.ireturn, 1) := by decide +kernel
theorem dX7_driven_0 : decode cX7_driven 0 = .ok (.iconst 0, 1) := by decide +kernel
theorem dX7_driven_1 : decode cX7_driven 1 = .ok (.istore_n 2, 1) := by decide +kernel
theorem dX7_driven_2 : decode cX7_driven 2 = .ok (.iconst 0, 1) := by decide +kernel
theorem dX7_driven_3 : decode cX7_driven 3 = .ok (.istore_n 3, 1) := by decide +kernel
theorem dX7_driven_4 : decode cX7_driven 4 = .ok (.iload_n 3, 1) := by decide +kernel
theorem dX7_driven_5 : decode cX7_driven 5 = .ok (.bipush 6, 2) := by decide +kernel
theorem dX7_driven_7 : decode cX7_driven 7 = .ok (.if_icmp .ge 108, 3) := by decide +kernel
theorem dX7_driven_10 : decode cX7_driven 10 = .ok (.iconst 0, 1) := by decide +kernel
theorem dX7_driven_11 : decode cX7_driven 11 = .ok (.istore 4, 2) := by decide +kernel
theorem dX7_driven_13 : decode cX7_driven 13 = .ok (.iload 4, 2) := by decide +kernel
theorem dX7_driven_15 : decode cX7_driven 15 = .ok (.aload_n 0, 1) := by decide +kernel
theorem dX7_driven_16 : decode cX7_driven 16 = .ok (.getfield 7, 3) := by decide +kernel
theorem dX7_driven_19 : decode cX7_driven 19 = .ok (.bipush 26, 2) := by decide +kernel
theorem dX7_driven_21 : decode cX7_driven 21 = .ok (.iaload, 1) := by decide +kernel
theorem dX7_driven_22 : decode cX7_driven 22 = .ok (.if_icmp .ge 87, 3) := by decide +kernel
theorem dX7_driven_25 : decode cX7_driven 25 = .ok (.aload_n 0, 1) := by decide +kernel
theorem dX7_driven_26 : decode cX7_driven 26 = .ok (.iconst 0, 1) := by decide +kernel
theorem dX7_driven_27 : decode cX7_driven 27 = .ok (.iload 4, 2) := by decide +kernel
theorem dX7_driven_29 : decode cX7_driven 29 = .ok (.iconst 0, 1) := by decide +kernel
theorem dX7_driven_30 : decode cX7_driven 30 = .ok (.invokevirtual 39, 3) := by decide +kernel
theorem dX7_driven_33 : decode cX7_driven 33 = .ok (.istore 5, 2) := by decide +kernel
theorem dX7_driven_35 : decode cX7_driven 35 = .ok (.iload 5, 2) := by decide +kernel
theorem dX7_driven_37 : decode cX7_driven 37 = .ok (.iload_n 1, 1) := by decide +kernel
theorem dX7_driven_38 : decode cX7_driven 38 = .ok (.if_icmp .eq 21, 3) := by decide +kernel
theorem dX7_driven_41 : decode cX7_driven 41 = .ok (.iload 5, 2) := by decide +kernel
theorem dX7_driven_43 : decode cX7_driven 43 = .ok (.iconst 4, 1) := by decide +kernel
theorem dX7_driven_44 : decode cX7_driven 44 = .ok (.if_icmp .lt 19, 3) := by decide +kernel
theorem dX7_driven_47 : decode cX7_driven 47 = .ok (.iload_n 2, 1) := by decide +kernel
theorem dX7_driven_48 : decode cX7_driven 48 = .ok (.iload 5, 2) := by decide +kernel
theorem dX7_driven_50 : decode cX7_driven 50 = .ok (.iconst 4, 1) := by decide +kernel
theorem dX7_driven_51 : decode cX7_driven 51 = .ok (.isub, 1) := by decide +kernel
theorem dX7_driven_52 : decode cX7_driven 52 = .ok (.ishr, 1) := by decide +kernel
theorem dX7_driven_53 : decode cX7_driven 53 = .ok (.iconst 1, 1) := by decide +kernel
theorem dX7_driven_54 : decode cX7_driven 54 = .ok (.iand, 1) := by decide +kernel
theorem dX7_driven_55 : decode cX7_driven 55 = .ok (.iconst 1, 1) := by decide +kernel
theorem dX7_driven_56 : decode cX7_driven 56 = .ok (.if_icmp .ne 7, 3) := by decide +kernel
theorem dX7_driven_59 : decode cX7_driven 59 = .ok (.iconst 1, 1) := by decide +kernel
theorem dX7_driven_60 : decode cX7_driven 60 = .ok (.goto 4, 3) := by decide +kernel
theorem dX7_driven_63 : decode cX7_driven 63 = .ok (.iconst 0, 1) := by decide +kernel
theorem dX7_driven_64 : decode cX7_driven 64 = .ok (.istore 6, 2) := by decide +kernel
theorem dX7_driven_66 : decode cX7_driven 66 = .ok (.iload_n 2, 1) := by decide +kernel
theorem dX7_driven_67 : decode cX7_driven 67 = .ok (.iload 6, 2) := by decide +kernel
theorem dX7_driven_69 : decode cX7_driven 69 = .ok (.ifCond .eq 31, 3) := by decide +kernel
theorem dX7_driven_72 : decode cX7_driven 72 = .ok (.aload_n 0, 1) := by decide +kernel
theorem dX7_driven_73 : decode cX7_driven 73 = .ok (.iconst 0, 1) := by decide +kernel
theorem dX7_driven_74 : decode cX7_driven 74 = .ok (.iload 4, 2) := by decide +kernel
theorem dX7_driven_76 : decode cX7_driven 76 = .ok (.iconst 1, 1) := by decide +kernel
theorem dX7_driven_77 : decode cX7_driven 77 = .ok (.invokevirtual 39, 3) := by decide +kernel
theorem dX7_driven_80 : decode cX7_driven 80 = .ok (.iload_n 3, 1) := by decide +kernel
theorem dX7_driven_81 : decode cX7_driven 81 = .ok (.if_icmp .ne 19, 3) := by decide +kernel
theorem dX7_driven_84 : decode cX7_driven 84 = .ok (.aload_n 0, 1) := by decide +kernel
theorem dX7_driven_85 : decode cX7_driven 85 = .ok (.iconst 0, 1) := by decide +kernel
theorem dX7_driven_86 : decode cX7_driven 86 = .ok (.iload 4, 2) := by decide +kernel
theorem dX7_driven_88 : decode cX7_driven 88 = .ok (.invokevirtual 47, 3) := by decide +kernel
theorem dX7_driven_91 : decode cX7_driven 91 = .ok (.ifCond .eq 9, 3) := by decide +kernel
theorem dX7_driven_94 : decode cX7_driven 94 = .ok (.iconst 1, 1) := by decide +kernel
theorem dX7_driven_95 : decode cX7_driven 95 = .ok (.iload_n 3, 1) := by decide +kernel
theorem dX7_driven_96 : decode cX7_driven 96 = .ok (.ishl, 1) := by decide +kernel
theorem dX7_driven_97 : decode cX7_driven 97 = .ok (.goto 4, 3) := by decide +kernel
theorem dX7_driven_100 : decode cX7_driven 100 = .ok (.iconst 0, 1) := by decide +kernel
theorem dX7_driven_101 : decode cX7_driven 101 = .ok (.ior, 1) := by decide +kernel
theorem dX7_driven_102 : decode cX7_driven 102 = .ok (.istore_n 2, 1) := by decide +kernel
theorem dX7_driven_103 : decode cX7_driven 103 = .ok (.iinc 4 1, 3) := by decide +kernel
theorem dX7_driven_106 : decode cX7_driven 106 = .ok (.goto (-93), 3) := by decide +kernel
theorem dX7_driven_109 : decode cX7_driven 109 = .ok (.iinc 3 1, 3) := by decide +kernel
theorem dX7_driven_112 : decode cX7_driven 112 = .ok (.goto (-108), 3) := by decide +kernel
theorem dX7_driven_115 : decode cX7_driven 115 = .ok (.iload_n 2, 1) := by decide +kernel
theorem dX7_driven_116 : decode cX7_driven 116 = .ok (.ireturn, 1) := by decide +kernel
theorem dX7_drivenBy_0 : decode cX7_drivenBy 0 = .ok (.aload_n 0, 1) := by decide +kernel
theorem dX7_drivenBy_1 : decode cX7_drivenBy 1 = .ok (.iload_n 1, 1) := by decide +kernel
theorem dX7_drivenBy_2 : decode cX7_drivenBy 2 = .ok (.invokestatic 95, 3) := by decide +kernel
theorem dX7_drivenBy_5 : decode cX7_drivenBy 5 = .ok (.ifCond .eq 7, 3) := by decide +kernel
theorem dX7_drivenBy_8 : decode cX7_drivenBy 8 = .ok (.iconst 0, 1) := by decide +kernel
theorem dX7_drivenBy_9 : decode cX7_drivenBy 9 = .ok (.goto 4, 3) := by decide +kernel
theorem dX7_drivenBy_12 : decode cX7_drivenBy 12 = .ok (.iconst 1, 1) := by decide +kernel
theorem dX7_drivenBy_13 : decode cX7_drivenBy 13 = .ok (.invokevirtual 99, 3) := by decide +kernel
theorem dX7_drivenBy_16 : decode cX7_drivenBy 16 = .ok (.ifCond .eq 11, 3) := by decide +kernel
theorem dX7_drivenBy_19 : decode cX7_drivenBy 19 = .ok (.aload_n 0, 1) := by decide +kernel
theorem dX7_drivenBy_20 : decode cX7_drivenBy 20 = .ok (.iload_n 1, 1) := by decide +kernel
theorem dX7_drivenBy_21 : decode cX7_drivenBy 21 = .ok (.invokevirtual 124, 3) := by decide +kernel
theorem dX7_drivenBy_24 : decode cX7_drivenBy 24 = .ok (.goto 4, 3) := by decide +kernel
theorem dX7_drivenBy_27 : decode cX7_drivenBy 27 = .ok (.iconst 0, 1) := by decide +kernel
theorem dX7_drivenBy_28 : decode cX7_drivenBy 28 = .ok (.ireturn, 1) := by decide +kernel
theorem dX7_bestTrim_0 : decode cX7_bestTrim 0 = .ok (.aload_n 0, 1) := by decide +kernel
theorem dX7_bestTrim_1 : decode cX7_bestTrim 1 = .ok (.iload_n 1, 1) := by decide +kernel
theorem dX7_bestTrim_2 : decode cX7_bestTrim 2 = .ok (.invokestatic 95, 3) := by decide +kernel
theorem dX7_bestTrim_5 : decode cX7_bestTrim 5 = .ok (.ifCond .eq 14, 3) := by decide +kernel
theorem dX7_bestTrim_8 : decode cX7_bestTrim 8 = .ok (.iload_n 2, 1) := by decide +kernel
theorem dX7_bestTrim_9 : decode cX7_bestTrim 9 = .ok (.invokestatic 105, 3) := by decide +kernel
theorem dX7_bestTrim_12 : decode cX7_bestTrim 12 = .ok (.ifCond .eq 7, 3) := by decide +kernel
theorem dX7_bestTrim_15 : decode cX7_bestTrim 15 = .ok (.iconst 0, 1) := by decide +kernel
theorem dX7_bestTrim_16 : decode cX7_bestTrim 16 = .ok (.goto 4, 3) := by decide +kernel
theorem dX7_bestTrim_19 : decode cX7_bestTrim 19 = .ok (.iconst 1, 1) := by decide +kernel
theorem dX7_bestTrim_20 : decode cX7_bestTrim 20 = .ok (.invokevirtual 99, 3) := by decide +kernel
theorem dX7_bestTrim_23 : decode cX7_bestTrim 23 = .ok (.ifCond .ne 5, 3) := by decide +kernel
theorem dX7_bestTrim_26 : decode cX7_bestTrim 26 = .ok (.iconst 0, 1) := by decide +kernel
theorem dX7_bestTrim_27 : decode cX7_bestTrim 27 = .ok (.ireturn, 1) := by decide +kernel
theorem dX7_bestTrim_28 : decode cX7_bestTrim 28 = .ok (.aload_n 0, 1) := by decide +kernel
theorem dX7_bestTrim_29 : decode cX7_bestTrim 29 = .ok (.iconst 0, 1) := by decide +kernel
theorem dX7_bestTrim_30 : decode cX7_bestTrim 30 = .ok (.bipush 9, 2) := by decide +kernel
theorem dX7_bestTrim_32 : decode cX7_bestTrim 32 = .ok (.invokevirtual 88, 3) := by decide +kernel
theorem dX7_bestTrim_35 : decode cX7_bestTrim 35 = .ok (.iconst 0, 1) := by decide +kernel
theorem dX7_bestTrim_36 : decode cX7_bestTrim 36 = .ok (.istore_n 3, 1) := by decide +kernel
theorem dX7_bestTrim_37 : decode cX7_bestTrim 37 = .ok (.sipush 1000, 3) := by decide +kernel
theorem dX7_bestTrim_40 : decode cX7_bestTrim 40 = .ok (.istore 4, 2) := by decide +kernel
theorem dX7_bestTrim_42 : decode cX7_bestTrim 42 = .ok (.iconst 0, 1) := by decide +kernel
theorem dX7_bestTrim_43 : decode cX7_bestTrim 43 = .ok (.istore 5, 2) := by decide +kernel
theorem dX7_bestTrim_45 : decode cX7_bestTrim 45 = .ok (.iload 5, 2) := by decide +kernel
theorem dX7_bestTrim_47 : decode cX7_bestTrim 47 = .ok (.bipush 51, 2) := by decide +kernel
theorem dX7_bestTrim_49 : decode cX7_bestTrim 49 = .ok (.if_icmp .ge 98, 3) := by decide +kernel
theorem dX7_bestTrim_52 : decode cX7_bestTrim 52 = .ok (.iload 5, 2) := by decide +kernel
theorem dX7_bestTrim_54 : decode cX7_bestTrim 54 = .ok (.iconst 2, 1) := by decide +kernel
theorem dX7_bestTrim_55 : decode cX7_bestTrim 55 = .ok (.irem, 1) := by decide +kernel
theorem dX7_bestTrim_56 : decode cX7_bestTrim 56 = .ok (.iconst 1, 1) := by decide +kernel
theorem dX7_bestTrim_57 : decode cX7_bestTrim 57 = .ok (.if_icmp .ne 12, 3) := by decide +kernel
theorem dX7_bestTrim_60 : decode cX7_bestTrim 60 = .ok (.iload 5, 2) := by decide +kernel
theorem dX7_bestTrim_62 : decode cX7_bestTrim 62 = .ok (.iconst 1, 1) := by decide +kernel
theorem dX7_bestTrim_63 : decode cX7_bestTrim 63 = .ok (.iadd, 1) := by decide +kernel
theorem dX7_bestTrim_64 : decode cX7_bestTrim 64 = .ok (.iconst 2, 1) := by decide +kernel
theorem dX7_bestTrim_65 : decode cX7_bestTrim 65 = .ok (.idiv, 1) := by decide +kernel
theorem dX7_bestTrim_66 : decode cX7_bestTrim 66 = .ok (.goto 8, 3) := by decide +kernel
theorem dX7_bestTrim_69 : decode cX7_bestTrim 69 = .ok (.iload 5, 2) := by decide +kernel
theorem dX7_bestTrim_71 : decode cX7_bestTrim 71 = .ok (.ineg, 1) := by decide +kernel
theorem dX7_bestTrim_72 : decode cX7_bestTrim 72 = .ok (.iconst 2, 1) := by decide +kernel
theorem dX7_bestTrim_73 : decode cX7_bestTrim 73 = .ok (.idiv, 1) := by decide +kernel
theorem dX7_bestTrim_74 : decode cX7_bestTrim 74 = .ok (.istore 6, 2) := by decide +kernel
theorem dX7_bestTrim_76 : decode cX7_bestTrim 76 = .ok (.aload_n 0, 1) := by decide +kernel
theorem dX7_bestTrim_77 : decode cX7_bestTrim 77 = .ok (.getfield 7, 3) := by decide +kernel
theorem dX7_bestTrim_80 : decode cX7_bestTrim 80 = .ok (.sipush 1420, 3) := by decide +kernel
theorem dX7_bestTrim_83 : decode cX7_bestTrim 83 = .ok (.iconst 4, 1) := by decide +kernel
theorem dX7_bestTrim_84 : decode cX7_bestTrim 84 = .ok (.aload_n 0, 1) := by decide +kernel
theorem dX7_bestTrim_85 : decode cX7_bestTrim 85 = .ok (.getfield 7, 3) := by decide +kernel
theorem dX7_bestTrim_88 : decode cX7_bestTrim 88 = .ok (.bipush 24, 2) := by decide +kernel
theorem dX7_bestTrim_90 : decode cX7_bestTrim 90 = .ok (.iaload, 1) := by decide +kernel
theorem dX7_bestTrim_91 : decode cX7_bestTrim 91 = .ok (.imul, 1) := by decide +kernel
theorem dX7_bestTrim_92 : decode cX7_bestTrim 92 = .ok (.iadd, 1) := by decide +kernel
theorem dX7_bestTrim_93 : decode cX7_bestTrim 93 = .ok (.iload_n 1, 1) := by decide +kernel
theorem dX7_bestTrim_94 : decode cX7_bestTrim 94 = .ok (.iadd, 1) := by decide +kernel
theorem dX7_bestTrim_95 : decode cX7_bestTrim 95 = .ok (.iload 6, 2) := by decide +kernel
theorem dX7_bestTrim_97 : decode cX7_bestTrim 97 = .ok (.iastore, 1) := by decide +kernel
theorem dX7_bestTrim_98 : decode cX7_bestTrim 98 = .ok (.aload_n 0, 1) := by decide +kernel
theorem dX7_bestTrim_99 : decode cX7_bestTrim 99 = .ok (.sipush 1404, 3) := by decide +kernel
theorem dX7_bestTrim_102 : decode cX7_bestTrim 102 = .ok (.iload_n 2, 1) := by decide +kernel
theorem dX7_bestTrim_103 : decode cX7_bestTrim 103 = .ok (.invokevirtual 117, 3) := by decide +kernel
theorem dX7_bestTrim_106 : decode cX7_bestTrim 106 = .ok (.invokestatic 70, 3) := by decide +kernel
theorem dX7_bestTrim_109 : decode cX7_bestTrim 109 = .ok (.istore 7, 2) := by decide +kernel
theorem dX7_bestTrim_111 : decode cX7_bestTrim 111 = .ok (.iload 7, 2) := by decide +kernel
theorem dX7_bestTrim_113 : decode cX7_bestTrim 113 = .ok (.iload 4, 2) := by decide +kernel
theorem dX7_bestTrim_115 : decode cX7_bestTrim 115 = .ok (.if_icmp .ge 8, 3) := by decide +kernel
theorem dX7_bestTrim_118 : decode cX7_bestTrim 118 = .ok (.iload 6, 2) := by decide +kernel
theorem dX7_bestTrim_120 : decode cX7_bestTrim 120 = .ok (.goto 4, 3) := by decide +kernel
theorem dX7_bestTrim_123 : decode cX7_bestTrim 123 = .ok (.iload_n 3, 1) := by decide +kernel
theorem dX7_bestTrim_124 : decode cX7_bestTrim 124 = .ok (.istore_n 3, 1) := by decide +kernel
theorem dX7_bestTrim_125 : decode cX7_bestTrim 125 = .ok (.iload 7, 2) := by decide +kernel
theorem dX7_bestTrim_127 : decode cX7_bestTrim 127 = .ok (.iload 4, 2) := by decide +kernel
theorem dX7_bestTrim_129 : decode cX7_bestTrim 129 = .ok (.if_icmp .ge 8, 3) := by decide +kernel
theorem dX7_bestTrim_132 : decode cX7_bestTrim 132 = .ok (.iload 7, 2) := by decide +kernel
theorem dX7_bestTrim_134 : decode cX7_bestTrim 134 = .ok (.goto 5, 3) := by decide +kernel
theorem dX7_bestTrim_137 : decode cX7_bestTrim 137 = .ok (.iload 4, 2) := by decide +kernel
theorem dX7_bestTrim_139 : decode cX7_bestTrim 139 = .ok (.istore 4, 2) := by decide +kernel
theorem dX7_bestTrim_141 : decode cX7_bestTrim 141 = .ok (.iinc 5 1, 3) := by decide +kernel
theorem dX7_bestTrim_144 : decode cX7_bestTrim 144 = .ok (.goto (-99), 3) := by decide +kernel
theorem dX7_bestTrim_147 : decode cX7_bestTrim 147 = .ok (.iload_n 3, 1) := by decide +kernel
theorem dX7_bestTrim_148 : decode cX7_bestTrim 148 = .ok (.bipush 100, 2) := by decide +kernel
theorem dX7_bestTrim_150 : decode cX7_bestTrim 150 = .ok (.iadd, 1) := by decide +kernel
theorem dX7_bestTrim_151 : decode cX7_bestTrim 151 = .ok (.ireturn, 1) := by decide +kernel
theorem dX7_mostWorn_0 : decode cX7_mostWorn 0 = .ok (.aload_n 0, 1) := by decide +kernel
theorem dX7_mostWorn_1 : decode cX7_mostWorn 1 = .ok (.iconst 0, 1) := by decide +kernel
theorem dX7_mostWorn_2 : decode cX7_mostWorn 2 = .ok (.putfield 31, 3) := by decide +kernel
theorem dX7_mostWorn_5 : decode cX7_mostWorn 5 = .ok (.iconst (-1), 1) := by decide +kernel
theorem dX7_mostWorn_6 : decode cX7_mostWorn 6 = .ok (.istore_n 1, 1) := by decide +kernel
theorem dX7_mostWorn_7 : decode cX7_mostWorn 7 = .ok (.iconst 0, 1) := by decide +kernel
theorem dX7_mostWorn_8 : decode cX7_mostWorn 8 = .ok (.istore_n 2, 1) := by decide +kernel
theorem dX7_mostWorn_9 : decode cX7_mostWorn 9 = .ok (.iconst 0, 1) := by decide +kernel
theorem dX7_mostWorn_10 : decode cX7_mostWorn 10 = .ok (.istore_n 3, 1) := by decide +kernel
theorem dX7_mostWorn_11 : decode cX7_mostWorn 11 = .ok (.iload_n 3, 1) := by decide +kernel
theorem dX7_mostWorn_12 : decode cX7_mostWorn 12 = .ok (.bipush 6, 2) := by decide +kernel
theorem dX7_mostWorn_14 : decode cX7_mostWorn 14 = .ok (.if_icmp .ge 44, 3) := by decide +kernel
theorem dX7_mostWorn_17 : decode cX7_mostWorn 17 = .ok (.aload_n 0, 1) := by decide +kernel
theorem dX7_mostWorn_18 : decode cX7_mostWorn 18 = .ok (.iconst 0, 1) := by decide +kernel
theorem dX7_mostWorn_19 : decode cX7_mostWorn 19 = .ok (.iload_n 3, 1) := by decide +kernel
theorem dX7_mostWorn_20 : decode cX7_mostWorn 20 = .ok (.bipush 9, 2) := by decide +kernel
theorem dX7_mostWorn_22 : decode cX7_mostWorn 22 = .ok (.invokevirtual 57, 3) := by decide +kernel
theorem dX7_mostWorn_25 : decode cX7_mostWorn 25 = .ok (.istore 4, 2) := by decide +kernel
theorem dX7_mostWorn_27 : decode cX7_mostWorn 27 = .ok (.iload 4, 2) := by decide +kernel
theorem dX7_mostWorn_29 : decode cX7_mostWorn 29 = .ok (.iload_n 2, 1) := by decide +kernel
theorem dX7_mostWorn_30 : decode cX7_mostWorn 30 = .ok (.if_icmp .le 7, 3) := by decide +kernel
theorem dX7_mostWorn_33 : decode cX7_mostWorn 33 = .ok (.iload_n 3, 1) := by decide +kernel
theorem dX7_mostWorn_34 : decode cX7_mostWorn 34 = .ok (.goto 4, 3) := by decide +kernel
theorem dX7_mostWorn_37 : decode cX7_mostWorn 37 = .ok (.iload_n 1, 1) := by decide +kernel
theorem dX7_mostWorn_38 : decode cX7_mostWorn 38 = .ok (.istore_n 1, 1) := by decide +kernel
theorem dX7_mostWorn_39 : decode cX7_mostWorn 39 = .ok (.iload 4, 2) := by decide +kernel
theorem dX7_mostWorn_41 : decode cX7_mostWorn 41 = .ok (.iload_n 2, 1) := by decide +kernel
theorem dX7_mostWorn_42 : decode cX7_mostWorn 42 = .ok (.if_icmp .le 8, 3) := by decide +kernel
theorem dX7_mostWorn_45 : decode cX7_mostWorn 45 = .ok (.iload 4, 2) := by decide +kernel
theorem dX7_mostWorn_47 : decode cX7_mostWorn 47 = .ok (.goto 4, 3) := by decide +kernel
theorem dX7_mostWorn_50 : decode cX7_mostWorn 50 = .ok (.iload_n 2, 1) := by decide +kernel
theorem dX7_mostWorn_51 : decode cX7_mostWorn 51 = .ok (.istore_n 2, 1) := by decide +kernel
theorem dX7_mostWorn_52 : decode cX7_mostWorn 52 = .ok (.iinc 3 1, 3) := by decide +kernel
theorem dX7_mostWorn_55 : decode cX7_mostWorn 55 = .ok (.goto (-44), 3) := by decide +kernel
theorem dX7_mostWorn_58 : decode cX7_mostWorn 58 = .ok (.iload_n 1, 1) := by decide +kernel
theorem dX7_mostWorn_59 : decode cX7_mostWorn 59 = .ok (.ireturn, 1) := by decide +kernel
theorem dX7_linkQuality_0 : decode cX7_linkQuality 0 = .ok (.aload_n 0, 1) := by decide +kernel
theorem dX7_linkQuality_1 : decode cX7_linkQuality 1 = .ok (.iconst 0, 1) := by decide +kernel
theorem dX7_linkQuality_2 : decode cX7_linkQuality 2 = .ok (.putfield 31, 3) := by decide +kernel
theorem dX7_linkQuality_5 : decode cX7_linkQuality 5 = .ok (.aload_n 0, 1) := by decide +kernel
theorem dX7_linkQuality_6 : decode cX7_linkQuality 6 = .ok (.getfield 7, 3) := by decide +kernel
theorem dX7_linkQuality_9 : decode cX7_linkQuality 9 = .ok (.sipush 150, 3) := by decide +kernel
theorem dX7_linkQuality_12 : decode cX7_linkQuality 12 = .ok (.iaload, 1) := by decide +kernel
theorem dX7_linkQuality_13 : decode cX7_linkQuality 13 = .ok (.ifCond .ne 7, 3) := by decide +kernel
theorem dX7_linkQuality_16 : decode cX7_linkQuality 16 = .ok (.dconst 1, 1) := by decide +kernel
theorem dX7_linkQuality_17 : decode cX7_linkQuality 17 = .ok (.goto 31, 3) := by decide +kernel
theorem dX7_linkQuality_20 : decode cX7_linkQuality 20 = .ok (.aload_n 0, 1) := by decide +kernel
theorem dX7_linkQuality_21 : decode cX7_linkQuality 21 = .ok (.getfield 7, 3) := by decide +kernel
theorem dX7_linkQuality_24 : decode cX7_linkQuality 24 = .ok (.sipush 150, 3) := by decide +kernel
theorem dX7_linkQuality_27 : decode cX7_linkQuality 27 = .ok (.iaload, 1) := by decide +kernel
theorem dX7_linkQuality_28 : decode cX7_linkQuality 28 = .ok (.aload_n 0, 1) := by decide +kernel
theorem dX7_linkQuality_29 : decode cX7_linkQuality 29 = .ok (.getfield 7, 3) := by decide +kernel
theorem dX7_linkQuality_32 : decode cX7_linkQuality 32 = .ok (.sipush 151, 3) := by decide +kernel
theorem dX7_linkQuality_35 : decode cX7_linkQuality 35 = .ok (.iaload, 1) := by decide +kernel
theorem dX7_linkQuality_36 : decode cX7_linkQuality 36 = .ok (.isub, 1) := by decide +kernel
theorem dX7_linkQuality_37 : decode cX7_linkQuality 37 = .ok (.i2d, 1) := by decide +kernel
theorem dX7_linkQuality_38 : decode cX7_linkQuality 38 = .ok (.aload_n 0, 1) := by decide +kernel
theorem dX7_linkQuality_39 : decode cX7_linkQuality 39 = .ok (.getfield 7, 3) := by decide +kernel
theorem dX7_linkQuality_42 : decode cX7_linkQuality 42 = .ok (.sipush 150, 3) := by decide +kernel
theorem dX7_linkQuality_45 : decode cX7_linkQuality 45 = .ok (.iaload, 1) := by decide +kernel
theorem dX7_linkQuality_46 : decode cX7_linkQuality 46 = .ok (.i2d, 1) := by decide +kernel
theorem dX7_linkQuality_47 : decode cX7_linkQuality 47 = .ok (.ddiv, 1) := by decide +kernel
theorem dX7_linkQuality_48 : decode cX7_linkQuality 48 = .ok (.dreturn, 1) := by decide +kernel
theorem dX7_append_0 : decode cX7_append 0 = .ok (.aload_n 0, 1) := by decide +kernel
theorem dX7_append_1 : decode cX7_append 1 = .ok (.iload_n 1, 1) := by decide +kernel
theorem dX7_append_2 : decode cX7_append 2 = .ok (.bipush 33, 2) := by decide +kernel
theorem dX7_append_4 : decode cX7_append 4 = .ok (.bipush 126, 2) := by decide +kernel
theorem dX7_append_6 : decode cX7_append 6 = .ok (.invokestatic 35, 3) := by decide +kernel
theorem dX7_append_9 : decode cX7_append 9 = .ok (.ifCond .ne 7, 3) := by decide +kernel
theorem dX7_append_12 : decode cX7_append 12 = .ok (.iconst 1, 1) := by decide +kernel
theorem dX7_append_13 : decode cX7_append 13 = .ok (.goto 17, 3) := by decide +kernel
theorem dX7_append_16 : decode cX7_append 16 = .ok (.aload_n 0, 1) := by decide +kernel
theorem dX7_append_17 : decode cX7_append 17 = .ok (.getfield 127, 3) := by decide +kernel
theorem dX7_append_20 : decode cX7_append 20 = .ok (.bipush 60, 2) := by decide +kernel
theorem dX7_append_22 : decode cX7_append 22 = .ok (.if_icmp .ne 7, 3) := by decide +kernel
theorem dX7_append_25 : decode cX7_append 25 = .ok (.iconst 2, 1) := by decide +kernel
theorem dX7_append_26 : decode cX7_append 26 = .ok (.goto 4, 3) := by decide +kernel
theorem dX7_append_29 : decode cX7_append 29 = .ok (.iconst 0, 1) := by decide +kernel
theorem dX7_append_30 : decode cX7_append 30 = .ok (.invokevirtual 99, 3) := by decide +kernel
theorem dX7_append_33 : decode cX7_append 33 = .ok (.ifCond .ne 5, 3) := by decide +kernel
theorem dX7_append_36 : decode cX7_append 36 = .ok (.iconst 0, 1) := by decide +kernel
theorem dX7_append_37 : decode cX7_append 37 = .ok (.ireturn, 1) := by decide +kernel
theorem dX7_append_38 : decode cX7_append 38 = .ok (.aload_n 0, 1) := by decide +kernel
theorem dX7_append_39 : decode cX7_append 39 = .ok (.getfield 17, 3) := by decide +kernel
theorem dX7_append_42 : decode cX7_append 42 = .ok (.aload_n 0, 1) := by decide +kernel
theorem dX7_append_43 : decode cX7_append 43 = .ok (.getfield 127, 3) := by decide +kernel
theorem dX7_append_46 : decode cX7_append 46 = .ok (.iload_n 1, 1) := by decide +kernel
theorem dX7_append_47 : decode cX7_append 47 = .ok (.iastore, 1) := by decide +kernel
theorem dX7_append_48 : decode cX7_append 48 = .ok (.aload_n 0, 1) := by decide +kernel
theorem dX7_append_49 : decode cX7_append 49 = .ok (.dup, 1) := by decide +kernel
theorem dX7_append_50 : decode cX7_append 50 = .ok (.getfield 127, 3) := by decide +kernel
theorem dX7_append_53 : decode cX7_append 53 = .ok (.iconst 1, 1) := by decide +kernel
theorem dX7_append_54 : decode cX7_append 54 = .ok (.iadd, 1) := by decide +kernel
theorem dX7_append_55 : decode cX7_append 55 = .ok (.putfield 127, 3) := by decide +kernel
theorem dX7_append_58 : decode cX7_append 58 = .ok (.aload_n 0, 1) := by decide +kernel
theorem dX7_append_59 : decode cX7_append 59 = .ok (.getfield 127, 3) := by decide +kernel
theorem dX7_append_62 : decode cX7_append 62 = .ok (.ireturn, 1) := by decide +kernel
theorem dX7_clearText_0 : decode cX7_clearText 0 = .ok (.aload_n 0, 1) := by decide +kernel
theorem dX7_clearText_1 : decode cX7_clearText 1 = .ok (.iconst 0, 1) := by decide +kernel
theorem dX7_clearText_2 : decode cX7_clearText 2 = .ok (.putfield 31, 3) := by decide +kernel
theorem dX7_clearText_5 : decode cX7_clearText 5 = .ok (.aload_n 0, 1) := by decide +kernel
theorem dX7_clearText_6 : decode cX7_clearText 6 = .ok (.getfield 127, 3) := by decide +kernel
theorem dX7_clearText_9 : decode cX7_clearText 9 = .ok (.istore_n 1, 1) := by decide +kernel
theorem dX7_clearText_10 : decode cX7_clearText 10 = .ok (.aload_n 0, 1) := by decide +kernel
theorem dX7_clearText_11 : decode cX7_clearText 11 = .ok (.iconst 0, 1) := by decide +kernel
theorem dX7_clearText_12 : decode cX7_clearText 12 = .ok (.putfield 127, 3) := by decide +kernel
theorem dX7_clearText_15 : decode cX7_clearText 15 = .ok (.iload_n 1, 1) := by decide +kernel
theorem dX7_clearText_16 : decode cX7_clearText 16 = .ok (.ireturn, 1) := by decide +kernel
theorem dX7_sign_0 : decode cX7_sign 0 = .ok (.aload_n 0, 1) := by decide +kernel
theorem dX7_sign_1 : decode cX7_sign 1 = .ok (.getfield 130, 3) := by decide +kernel
theorem dX7_sign_4 : decode cX7_sign 4 = .ok (.aload_n 0, 1) := by decide +kernel
theorem dX7_sign_5 : decode cX7_sign 5 = .ok (.getfield 127, 3) := by decide +kernel
theorem dX7_sign_8 : decode cX7_sign 8 = .ok (.if_icmp .ge 15, 3) := by decide +kernel
theorem dX7_sign_11 : decode cX7_sign 11 = .ok (.aload_n 0, 1) := by decide +kernel
theorem dX7_sign_12 : decode cX7_sign 12 = .ok (.getfield 17, 3) := by decide +kernel
theorem dX7_sign_15 : decode cX7_sign 15 = .ok (.aload_n 0, 1) := by decide +kernel
theorem dX7_sign_16 : decode cX7_sign 16 = .ok (.getfield 130, 3) := by decide +kernel
theorem dX7_sign_19 : decode cX7_sign 19 = .ok (.iaload, 1) := by decide +kernel
theorem dX7_sign_20 : decode cX7_sign 20 = .ok (.goto 4, 3) := by decide +kernel
theorem dX7_sign_23 : decode cX7_sign 23 = .ok (.iconst 0, 1) := by decide +kernel
theorem dX7_sign_24 : decode cX7_sign 24 = .ok (.ireturn, 1) := by decide +kernel
theorem dX7_takes_0 : decode cX7_takes 0 = .ok (.aload_n 0, 1) := by decide +kernel
theorem dX7_takes_1 : decode cX7_takes 1 = .ok (.invokevirtual 133, 3) := by decide +kernel
theorem dX7_takes_4 : decode cX7_takes 4 = .ok (.iload_n 1, 1) := by decide +kernel
theorem dX7_takes_5 : decode cX7_takes 5 = .ok (.if_icmp .ne 7, 3) := by decide +kernel
theorem dX7_takes_8 : decode cX7_takes 8 = .ok (.iconst 1, 1) := by decide +kernel
theorem dX7_takes_9 : decode cX7_takes 9 = .ok (.goto 4, 3) := by decide +kernel
theorem dX7_takes_12 : decode cX7_takes 12 = .ok (.iconst 0, 1) := by decide +kernel
theorem dX7_takes_13 : decode cX7_takes 13 = .ok (.istore_n 2, 1) := by decide +kernel
theorem dX7_takes_14 : decode cX7_takes 14 = .ok (.aload_n 0, 1) := by decide +kernel
theorem dX7_takes_15 : decode cX7_takes 15 = .ok (.dup, 1) := by decide +kernel
theorem dX7_takes_16 : decode cX7_takes 16 = .ok (.getfield 130, 3) := by decide +kernel
theorem dX7_takes_19 : decode cX7_takes 19 = .ok (.iload_n 2, 1) := by decide +kernel
theorem dX7_takes_20 : decode cX7_takes 20 = .ok (.ifCond .eq 7, 3) := by decide +kernel
theorem dX7_takes_23 : decode cX7_takes 23 = .ok (.iconst 1, 1) := by decide +kernel
theorem dX7_takes_24 : decode cX7_takes 24 = .ok (.goto 4, 3) := by decide +kernel
theorem dX7_takes_27 : decode cX7_takes 27 = .ok (.iconst 0, 1) := by decide +kernel
theorem dX7_takes_28 : decode cX7_takes 28 = .ok (.iadd, 1) := by decide +kernel
theorem dX7_takes_29 : decode cX7_takes 29 = .ok (.putfield 130, 3) := by decide +kernel
theorem dX7_takes_32 : decode cX7_takes 32 = .ok (.iload_n 2, 1) := by decide +kernel
theorem dX7_takes_33 : decode cX7_takes 33 = .ok (.ireturn, 1) := by decide +kernel
theorem dX7_readsDigits_0 : decode cX7_readsDigits 0 = .ok (.aload_n 0, 1) := by decide +kernel
theorem dX7_readsDigits_1 : decode cX7_readsDigits 1 = .ok (.invokevirtual 133, 3) := by decide +kernel
theorem dX7_readsDigits_4 : decode cX7_readsDigits 4 = .ok (.bipush 48, 2) := by decide +kernel
theorem dX7_readsDigits_6 : decode cX7_readsDigits 6 = .ok (.iload_n 1, 1) := by decide +kernel
theorem dX7_readsDigits_7 : decode cX7_readsDigits 7 = .ok (.iadd, 1) := by decide +kernel
theorem dX7_readsDigits_8 : decode cX7_readsDigits 8 = .ok (.bipush 57, 2) := by decide +kernel
theorem dX7_readsDigits_10 : decode cX7_readsDigits 10 = .ok (.invokestatic 35, 3) := by decide +kernel
theorem dX7_readsDigits_13 : decode cX7_readsDigits 13 = .ok (.ifCond .ne 5, 3) := by decide +kernel
theorem dX7_readsDigits_16 : decode cX7_readsDigits 16 = .ok (.iconst 0, 1) := by decide +kernel
theorem dX7_readsDigits_17 : decode cX7_readsDigits 17 = .ok (.ireturn, 1) := by decide +kernel
theorem dX7_readsDigits_18 : decode cX7_readsDigits 18 = .ok (.aload_n 0, 1) := by decide +kernel
theorem dX7_readsDigits_19 : decode cX7_readsDigits 19 = .ok (.aload_n 0, 1) := by decide +kernel
theorem dX7_readsDigits_20 : decode cX7_readsDigits 20 = .ok (.invokevirtual 133, 3) := by decide +kernel
theorem dX7_readsDigits_23 : decode cX7_readsDigits 23 = .ok (.bipush 48, 2) := by decide +kernel
theorem dX7_readsDigits_25 : decode cX7_readsDigits 25 = .ok (.isub, 1) := by decide +kernel
theorem dX7_readsDigits_26 : decode cX7_readsDigits 26 = .ok (.putfield 137, 3) := by decide +kernel
theorem dX7_readsDigits_29 : decode cX7_readsDigits 29 = .ok (.aload_n 0, 1) := by decide +kernel
theorem dX7_readsDigits_30 : decode cX7_readsDigits 30 = .ok (.dup, 1) := by decide +kernel
theorem dX7_readsDigits_31 : decode cX7_readsDigits 31 = .ok (.getfield 130, 3) := by decide +kernel
theorem dX7_readsDigits_34 : decode cX7_readsDigits 34 = .ok (.iconst 1, 1) := by decide +kernel
theorem dX7_readsDigits_35 : decode cX7_readsDigits 35 = .ok (.iadd, 1) := by decide +kernel
theorem dX7_readsDigits_36 : decode cX7_readsDigits 36 = .ok (.putfield 130, 3) := by decide +kernel
theorem dX7_readsDigits_39 : decode cX7_readsDigits 39 = .ok (.aload_n 0, 1) := by decide +kernel
theorem dX7_readsDigits_40 : decode cX7_readsDigits 40 = .ok (.getfield 137, 3) := by decide +kernel
theorem dX7_readsDigits_43 : decode cX7_readsDigits 43 = .ok (.ifCond .le 68, 3) := by decide +kernel
theorem dX7_readsDigits_46 : decode cX7_readsDigits 46 = .ok (.aload_n 0, 1) := by decide +kernel
theorem dX7_readsDigits_47 : decode cX7_readsDigits 47 = .ok (.invokevirtual 133, 3) := by decide +kernel
theorem dX7_readsDigits_50 : decode cX7_readsDigits 50 = .ok (.bipush 48, 2) := by decide +kernel
theorem dX7_readsDigits_52 : decode cX7_readsDigits 52 = .ok (.bipush 57, 2) := by decide +kernel
theorem dX7_readsDigits_54 : decode cX7_readsDigits 54 = .ok (.invokestatic 35, 3) := by decide +kernel
theorem dX7_readsDigits_57 : decode cX7_readsDigits 57 = .ok (.ifCond .eq 54, 3) := by decide +kernel
theorem dX7_readsDigits_60 : decode cX7_readsDigits 60 = .ok (.bipush 10, 2) := by decide +kernel
theorem dX7_readsDigits_62 : decode cX7_readsDigits 62 = .ok (.aload_n 0, 1) := by decide +kernel
theorem dX7_readsDigits_63 : decode cX7_readsDigits 63 = .ok (.getfield 137, 3) := by decide +kernel
theorem dX7_readsDigits_66 : decode cX7_readsDigits 66 = .ok (.imul, 1) := by decide +kernel
theorem dX7_readsDigits_67 : decode cX7_readsDigits 67 = .ok (.aload_n 0, 1) := by decide +kernel
theorem dX7_readsDigits_68 : decode cX7_readsDigits 68 = .ok (.invokevirtual 133, 3) := by decide +kernel
theorem dX7_readsDigits_71 : decode cX7_readsDigits 71 = .ok (.iadd, 1) := by decide +kernel
theorem dX7_readsDigits_72 : decode cX7_readsDigits 72 = .ok (.bipush 48, 2) := by decide +kernel
theorem dX7_readsDigits_74 : decode cX7_readsDigits 74 = .ok (.isub, 1) := by decide +kernel
theorem dX7_readsDigits_75 : decode cX7_readsDigits 75 = .ok (.iload_n 2, 1) := by decide +kernel
theorem dX7_readsDigits_76 : decode cX7_readsDigits 76 = .ok (.if_icmp .gt 35, 3) := by decide +kernel
theorem dX7_readsDigits_79 : decode cX7_readsDigits 79 = .ok (.aload_n 0, 1) := by decide +kernel
theorem dX7_readsDigits_80 : decode cX7_readsDigits 80 = .ok (.bipush 10, 2) := by decide +kernel
theorem dX7_readsDigits_82 : decode cX7_readsDigits 82 = .ok (.aload_n 0, 1) := by decide +kernel
theorem dX7_readsDigits_83 : decode cX7_readsDigits 83 = .ok (.getfield 137, 3) := by decide +kernel
theorem dX7_readsDigits_86 : decode cX7_readsDigits 86 = .ok (.imul, 1) := by decide +kernel
theorem dX7_readsDigits_87 : decode cX7_readsDigits 87 = .ok (.aload_n 0, 1) := by decide +kernel
theorem dX7_readsDigits_88 : decode cX7_readsDigits 88 = .ok (.invokevirtual 133, 3) := by decide +kernel
theorem dX7_readsDigits_91 : decode cX7_readsDigits 91 = .ok (.iadd, 1) := by decide +kernel
theorem dX7_readsDigits_92 : decode cX7_readsDigits 92 = .ok (.bipush 48, 2) := by decide +kernel
theorem dX7_readsDigits_94 : decode cX7_readsDigits 94 = .ok (.isub, 1) := by decide +kernel
theorem dX7_readsDigits_95 : decode cX7_readsDigits 95 = .ok (.putfield 137, 3) := by decide +kernel
theorem dX7_readsDigits_98 : decode cX7_readsDigits 98 = .ok (.aload_n 0, 1) := by decide +kernel
theorem dX7_readsDigits_99 : decode cX7_readsDigits 99 = .ok (.dup, 1) := by decide +kernel
theorem dX7_readsDigits_100 : decode cX7_readsDigits 100 = .ok (.getfield 130, 3) := by decide +kernel
theorem dX7_readsDigits_103 : decode cX7_readsDigits 103 = .ok (.iconst 1, 1) := by decide +kernel
theorem dX7_readsDigits_104 : decode cX7_readsDigits 104 = .ok (.iadd, 1) := by decide +kernel
theorem dX7_readsDigits_105 : decode cX7_readsDigits 105 = .ok (.putfield 130, 3) := by decide +kernel
theorem dX7_readsDigits_108 : decode cX7_readsDigits 108 = .ok (.goto (-69), 3) := by decide +kernel
theorem dX7_readsDigits_111 : decode cX7_readsDigits 111 = .ok (.iconst 1, 1) := by decide +kernel
theorem dX7_readsDigits_112 : decode cX7_readsDigits 112 = .ok (.ireturn, 1) := by decide +kernel
theorem dX7_readsNumber_0 : decode cX7_readsNumber 0 = .ok (.aload_n 0, 1) := by decide +kernel
theorem dX7_readsNumber_1 : decode cX7_readsNumber 1 = .ok (.bipush 45, 2) := by decide +kernel
theorem dX7_readsNumber_3 : decode cX7_readsNumber 3 = .ok (.invokevirtual 140, 3) := by decide +kernel
theorem dX7_readsNumber_6 : decode cX7_readsNumber 6 = .ok (.istore_n 2, 1) := by decide +kernel
theorem dX7_readsNumber_7 : decode cX7_readsNumber 7 = .ok (.aload_n 0, 1) := by decide +kernel
theorem dX7_readsNumber_8 : decode cX7_readsNumber 8 = .ok (.iload_n 2, 1) := by decide +kernel
theorem dX7_readsNumber_9 : decode cX7_readsNumber 9 = .ok (.ifCond .eq 7, 3) := by decide +kernel
theorem dX7_readsNumber_12 : decode cX7_readsNumber 12 = .ok (.iconst 1, 1) := by decide +kernel
theorem dX7_readsNumber_13 : decode cX7_readsNumber 13 = .ok (.goto 4, 3) := by decide +kernel
theorem dX7_readsNumber_16 : decode cX7_readsNumber 16 = .ok (.iconst 0, 1) := by decide +kernel
theorem dX7_readsNumber_17 : decode cX7_readsNumber 17 = .ok (.iload_n 1, 1) := by decide +kernel
theorem dX7_readsNumber_18 : decode cX7_readsNumber 18 = .ok (.invokevirtual 143, 3) := by decide +kernel
theorem dX7_readsNumber_21 : decode cX7_readsNumber 21 = .ok (.istore_n 3, 1) := by decide +kernel
theorem dX7_readsNumber_22 : decode cX7_readsNumber 22 = .ok (.aload_n 0, 1) := by decide +kernel
theorem dX7_readsNumber_23 : decode cX7_readsNumber 23 = .ok (.iload_n 2, 1) := by decide +kernel
theorem dX7_readsNumber_24 : decode cX7_readsNumber 24 = .ok (.ifCond .eq 11, 3) := by decide +kernel
theorem dX7_readsNumber_27 : decode cX7_readsNumber 27 = .ok (.aload_n 0, 1) := by decide +kernel
theorem dX7_readsNumber_28 : decode cX7_readsNumber 28 = .ok (.getfield 137, 3) := by decide +kernel
theorem dX7_readsNumber_31 : decode cX7_readsNumber 31 = .ok (.ineg, 1) := by decide +kernel
theorem dX7_readsNumber_32 : decode cX7_readsNumber 32 = .ok (.goto 7, 3) := by decide +kernel
theorem dX7_readsNumber_35 : decode cX7_readsNumber 35 = .ok (.aload_n 0, 1) := by decide +kernel
theorem dX7_readsNumber_36 : decode cX7_readsNumber 36 = .ok (.getfield 137, 3) := by decide +kernel
theorem dX7_readsNumber_39 : decode cX7_readsNumber 39 = .ok (.putfield 137, 3) := by decide +kernel
theorem dX7_readsNumber_42 : decode cX7_readsNumber 42 = .ok (.iload_n 3, 1) := by decide +kernel
theorem dX7_readsNumber_43 : decode cX7_readsNumber 43 = .ok (.ireturn, 1) := by decide +kernel
theorem dX7_readsCommand_0 : decode cX7_readsCommand 0 = .ok (.aload_n 0, 1) := by decide +kernel
theorem dX7_readsCommand_1 : decode cX7_readsCommand 1 = .ok (.aload_n 0, 1) := by decide +kernel
theorem dX7_readsCommand_2 : decode cX7_readsCommand 2 = .ok (.invokevirtual 133, 3) := by decide +kernel
theorem dX7_readsCommand_5 : decode cX7_readsCommand 5 = .ok (.putfield 146, 3) := by decide +kernel
theorem dX7_readsCommand_8 : decode cX7_readsCommand 8 = .ok (.aload_n 0, 1) := by decide +kernel
theorem dX7_readsCommand_9 : decode cX7_readsCommand 9 = .ok (.bipush 115, 2) := by decide +kernel
theorem dX7_readsCommand_11 : decode cX7_readsCommand 11 = .ok (.invokevirtual 140, 3) := by decide +kernel
theorem dX7_readsCommand_14 : decode cX7_readsCommand 14 = .ok (.ifCond .ne 12, 3) := by decide +kernel
theorem dX7_readsCommand_17 : decode cX7_readsCommand 17 = .ok (.aload_n 0, 1) := by decide +kernel
theorem dX7_readsCommand_18 : decode cX7_readsCommand 18 = .ok (.bipush 116, 2) := by decide +kernel
theorem dX7_readsCommand_20 : decode cX7_readsCommand 20 = .ok (.invokevirtual 140, 3) := by decide +kernel
theorem dX7_readsCommand_23 : decode cX7_readsCommand 23 = .ok (.ifCond .eq 82, 3) := by decide +kernel
theorem dX7_readsCommand_26 : decode cX7_readsCommand 26 = .ok (.aload_n 0, 1) := by decide +kernel
theorem dX7_readsCommand_27 : decode cX7_readsCommand 27 = .ok (.aload_n 0, 1) := by decide +kernel
theorem dX7_readsCommand_28 : decode cX7_readsCommand 28 = .ok (.invokevirtual 133, 3) := by decide +kernel
theorem dX7_readsCommand_31 : decode cX7_readsCommand 31 = .ok (.bipush 48, 2) := by decide +kernel
theorem dX7_readsCommand_33 : decode cX7_readsCommand 33 = .ok (.isub, 1) := by decide +kernel
theorem dX7_readsCommand_34 : decode cX7_readsCommand 34 = .ok (.putfield 149, 3) := by decide +kernel
theorem dX7_readsCommand_37 : decode cX7_readsCommand 37 = .ok (.aload_n 0, 1) := by decide +kernel
theorem dX7_readsCommand_38 : decode cX7_readsCommand 38 = .ok (.getfield 149, 3) := by decide +kernel
theorem dX7_readsCommand_41 : decode cX7_readsCommand 41 = .ok (.invokestatic 95, 3) := by decide +kernel
theorem dX7_readsCommand_44 : decode cX7_readsCommand 44 = .ok (.istore_n 1, 1) := by decide +kernel
theorem dX7_readsCommand_45 : decode cX7_readsCommand 45 = .ok (.aload_n 0, 1) := by decide +kernel
theorem dX7_readsCommand_46 : decode cX7_readsCommand 46 = .ok (.dup, 1) := by decide +kernel
theorem dX7_readsCommand_47 : decode cX7_readsCommand 47 = .ok (.getfield 130, 3) := by decide +kernel
theorem dX7_readsCommand_50 : decode cX7_readsCommand 50 = .ok (.iload_n 1, 1) := by decide +kernel
theorem dX7_readsCommand_51 : decode cX7_readsCommand 51 = .ok (.ifCond .eq 7, 3) := by decide +kernel
theorem dX7_readsCommand_54 : decode cX7_readsCommand 54 = .ok (.iconst 1, 1) := by decide +kernel
theorem dX7_readsCommand_55 : decode cX7_readsCommand 55 = .ok (.goto 4, 3) := by decide +kernel
theorem dX7_readsCommand_58 : decode cX7_readsCommand 58 = .ok (.iconst 0, 1) := by decide +kernel
theorem dX7_readsCommand_59 : decode cX7_readsCommand 59 = .ok (.iadd, 1) := by decide +kernel
theorem dX7_readsCommand_60 : decode cX7_readsCommand 60 = .ok (.putfield 130, 3) := by decide +kernel
theorem dX7_readsCommand_63 : decode cX7_readsCommand 63 = .ok (.iload_n 1, 1) := by decide +kernel
theorem dX7_readsCommand_64 : decode cX7_readsCommand 64 = .ok (.ifCond .eq 39, 3) := by decide +kernel
theorem dX7_readsCommand_67 : decode cX7_readsCommand 67 = .ok (.aload_n 0, 1) := by decide +kernel
theorem dX7_readsCommand_68 : decode cX7_readsCommand 68 = .ok (.bipush 61, 2) := by decide +kernel
theorem dX7_readsCommand_70 : decode cX7_readsCommand 70 = .ok (.invokevirtual 140, 3) := by decide +kernel
theorem dX7_readsCommand_73 : decode cX7_readsCommand 73 = .ok (.ifCond .eq 30, 3) := by decide +kernel
theorem dX7_readsCommand_76 : decode cX7_readsCommand 76 = .ok (.aload_n 0, 1) := by decide +kernel
theorem dX7_readsCommand_77 : decode cX7_readsCommand 77 = .ok (.aload_n 0, 1) := by decide +kernel
theorem dX7_readsCommand_78 : decode cX7_readsCommand 78 = .ok (.getfield 146, 3) := by decide +kernel
theorem dX7_readsCommand_81 : decode cX7_readsCommand 81 = .ok (.bipush 115, 2) := by decide +kernel
theorem dX7_readsCommand_83 : decode cX7_readsCommand 83 = .ok (.if_icmp .ne 8, 3) := by decide +kernel
theorem dX7_readsCommand_86 : decode cX7_readsCommand 86 = .ok (.bipush 100, 2) := by decide +kernel
theorem dX7_readsCommand_88 : decode cX7_readsCommand 88 = .ok (.goto 5, 3) := by decide +kernel
theorem dX7_readsCommand_91 : decode cX7_readsCommand 91 = .ok (.bipush 25, 2) := by decide +kernel
theorem dX7_readsCommand_93 : decode cX7_readsCommand 93 = .ok (.invokevirtual 152, 3) := by decide +kernel
theorem dX7_readsCommand_96 : decode cX7_readsCommand 96 = .ok (.ifCond .eq 7, 3) := by decide +kernel
theorem dX7_readsCommand_99 : decode cX7_readsCommand 99 = .ok (.iconst 1, 1) := by decide +kernel
theorem dX7_readsCommand_100 : decode cX7_readsCommand 100 = .ok (.goto 4, 3) := by decide +kernel
theorem dX7_readsCommand_103 : decode cX7_readsCommand 103 = .ok (.iconst 0, 1) := by decide +kernel
theorem dX7_readsCommand_104 : decode cX7_readsCommand 104 = .ok (.ireturn, 1) := by decide +kernel
theorem dX7_readsCommand_105 : decode cX7_readsCommand 105 = .ok (.aload_n 0, 1) := by decide +kernel
theorem dX7_readsCommand_106 : decode cX7_readsCommand 106 = .ok (.bipush 102, 2) := by decide +kernel
theorem dX7_readsCommand_108 : decode cX7_readsCommand 108 = .ok (.invokevirtual 140, 3) := by decide +kernel
theorem dX7_readsCommand_111 : decode cX7_readsCommand 111 = .ok (.ifCond .ne 12, 3) := by decide +kernel
theorem dX7_readsCommand_114 : decode cX7_readsCommand 114 = .ok (.aload_n 0, 1) := by decide +kernel
theorem dX7_readsCommand_115 : decode cX7_readsCommand 115 = .ok (.bipush 108, 2) := by decide +kernel
theorem dX7_readsCommand_117 : decode cX7_readsCommand 117 = .ok (.invokevirtual 140, 3) := by decide +kernel
theorem dX7_readsCommand_120 : decode cX7_readsCommand 120 = .ok (.ifCond .eq 11, 3) := by decide +kernel
theorem dX7_readsCommand_123 : decode cX7_readsCommand 123 = .ok (.aload_n 0, 1) := by decide +kernel
theorem dX7_readsCommand_124 : decode cX7_readsCommand 124 = .ok (.iconst 1, 1) := by decide +kernel
theorem dX7_readsCommand_125 : decode cX7_readsCommand 125 = .ok (.bipush 50, 2) := by decide +kernel
theorem dX7_readsCommand_127 : decode cX7_readsCommand 127 = .ok (.invokevirtual 143, 3) := by decide +kernel
theorem dX7_readsCommand_130 : decode cX7_readsCommand 130 = .ok (.ireturn, 1) := by decide +kernel
theorem dX7_readsCommand_131 : decode cX7_readsCommand 131 = .ok (.aload_n 0, 1) := by decide +kernel
theorem dX7_readsCommand_132 : decode cX7_readsCommand 132 = .ok (.bipush 114, 2) := by decide +kernel
theorem dX7_readsCommand_134 : decode cX7_readsCommand 134 = .ok (.invokevirtual 140, 3) := by decide +kernel
theorem dX7_readsCommand_137 : decode cX7_readsCommand 137 = .ok (.ifCond .ne 12, 3) := by decide +kernel
theorem dX7_readsCommand_140 : decode cX7_readsCommand 140 = .ok (.aload_n 0, 1) := by decide +kernel
theorem dX7_readsCommand_141 : decode cX7_readsCommand 141 = .ok (.bipush 99, 2) := by decide +kernel
theorem dX7_readsCommand_143 : decode cX7_readsCommand 143 = .ok (.invokevirtual 140, 3) := by decide +kernel
theorem dX7_readsCommand_146 : decode cX7_readsCommand 146 = .ok (.ifCond .eq 7, 3) := by decide +kernel
theorem dX7_readsCommand_149 : decode cX7_readsCommand 149 = .ok (.iconst 1, 1) := by decide +kernel
theorem dX7_readsCommand_150 : decode cX7_readsCommand 150 = .ok (.goto 4, 3) := by decide +kernel
theorem dX7_readsCommand_153 : decode cX7_readsCommand 153 = .ok (.iconst 0, 1) := by decide +kernel
theorem dX7_readsCommand_154 : decode cX7_readsCommand 154 = .ok (.ireturn, 1) := by decide +kernel
theorem dX7_isProgram_0 : decode cX7_isProgram 0 = .ok (.aload_n 0, 1) := by decide +kernel
theorem dX7_isProgram_1 : decode cX7_isProgram 1 = .ok (.iconst 0, 1) := by decide +kernel
theorem dX7_isProgram_2 : decode cX7_isProgram 2 = .ok (.putfield 130, 3) := by decide +kernel
theorem dX7_isProgram_5 : decode cX7_isProgram 5 = .ok (.aload_n 0, 1) := by decide +kernel
theorem dX7_isProgram_6 : decode cX7_isProgram 6 = .ok (.invokevirtual 155, 3) := by decide +kernel
theorem dX7_isProgram_9 : decode cX7_isProgram 9 = .ok (.ifCond .eq 27, 3) := by decide +kernel
theorem dX7_isProgram_12 : decode cX7_isProgram 12 = .ok (.aload_n 0, 1) := by decide +kernel
theorem dX7_isProgram_13 : decode cX7_isProgram 13 = .ok (.getfield 130, 3) := by decide +kernel
theorem dX7_isProgram_16 : decode cX7_isProgram 16 = .ok (.aload_n 0, 1) := by decide +kernel
theorem dX7_isProgram_17 : decode cX7_isProgram 17 = .ok (.getfield 127, 3) := by decide +kernel
theorem dX7_isProgram_20 : decode cX7_isProgram 20 = .ok (.if_icmp .ne 5, 3) := by decide +kernel
theorem dX7_isProgram_23 : decode cX7_isProgram 23 = .ok (.iconst 1, 1) := by decide +kernel
theorem dX7_isProgram_24 : decode cX7_isProgram 24 = .ok (.ireturn, 1) := by decide +kernel
theorem dX7_isProgram_25 : decode cX7_isProgram 25 = .ok (.aload_n 0, 1) := by decide +kernel
theorem dX7_isProgram_26 : decode cX7_isProgram 26 = .ok (.bipush 59, 2) := by decide +kernel
theorem dX7_isProgram_28 : decode cX7_isProgram 28 = .ok (.invokevirtual 140, 3) := by decide +kernel
theorem dX7_isProgram_31 : decode cX7_isProgram 31 = .ok (.ifCond .ne (-26), 3) := by decide +kernel
theorem dX7_isProgram_34 : decode cX7_isProgram 34 = .ok (.iconst 0, 1) := by decide +kernel
theorem dX7_isProgram_35 : decode cX7_isProgram 35 = .ok (.ireturn, 1) := by decide +kernel
theorem dX7_isProgram_36 : decode cX7_isProgram 36 = .ok (.iconst 0, 1) := by decide +kernel
theorem dX7_isProgram_37 : decode cX7_isProgram 37 = .ok (.ireturn, 1) := by decide +kernel
theorem dX7_firstError_0 : decode cX7_firstError 0 = .ok (.aload_n 0, 1) := by decide +kernel
theorem dX7_firstError_1 : decode cX7_firstError 1 = .ok (.iconst 0, 1) := by decide +kernel
theorem dX7_firstError_2 : decode cX7_firstError 2 = .ok (.putfield 31, 3) := by decide +kernel
theorem dX7_firstError_5 : decode cX7_firstError 5 = .ok (.aload_n 0, 1) := by decide +kernel
theorem dX7_firstError_6 : decode cX7_firstError 6 = .ok (.invokevirtual 159, 3) := by decide +kernel
theorem dX7_firstError_9 : decode cX7_firstError 9 = .ok (.pop, 1) := by decide +kernel
theorem dX7_firstError_10 : decode cX7_firstError 10 = .ok (.aload_n 0, 1) := by decide +kernel
theorem dX7_firstError_11 : decode cX7_firstError 11 = .ok (.getfield 130, 3) := by decide +kernel
theorem dX7_firstError_14 : decode cX7_firstError 14 = .ok (.ireturn, 1) := by decide +kernel
theorem dX7_does_0 : decode cX7_does 0 = .ok (.aload_n 0, 1) := by decide +kernel
theorem dX7_does_1 : decode cX7_does 1 = .ok (.getfield 146, 3) := by decide +kernel
theorem dX7_does_4 : decode cX7_does 4 = .ok (.lookupswitch 125 #[(99, 107), (114, 89), (115, 44), (116, 61)], 44) := by decide +kernel
theorem dX7_does_48 : decode cX7_does 48 = .ok (.aload_n 0, 1) := by decide +kernel
theorem dX7_does_49 : decode cX7_does 49 = .ok (.getfield 7, 3) := by decide +kernel
theorem dX7_does_52 : decode cX7_does 52 = .ok (.iconst 0, 1) := by decide +kernel
theorem dX7_does_53 : decode cX7_does 53 = .ok (.aload_n 0, 1) := by decide +kernel
theorem dX7_does_54 : decode cX7_does 54 = .ok (.getfield 149, 3) := by decide +kernel
theorem dX7_does_57 : decode cX7_does 57 = .ok (.iadd, 1) := by decide +kernel
theorem dX7_does_58 : decode cX7_does 58 = .ok (.aload_n 0, 1) := by decide +kernel
theorem dX7_does_59 : decode cX7_does 59 = .ok (.getfield 137, 3) := by decide +kernel
theorem dX7_does_62 : decode cX7_does 62 = .ok (.iastore, 1) := by decide +kernel
theorem dX7_does_63 : decode cX7_does 63 = .ok (.iconst 0, 1) := by decide +kernel
theorem dX7_does_64 : decode cX7_does 64 = .ok (.ireturn, 1) := by decide +kernel
theorem dX7_does_65 : decode cX7_does 65 = .ok (.aload_n 0, 1) := by decide +kernel
theorem dX7_does_66 : decode cX7_does 66 = .ok (.getfield 7, 3) := by decide +kernel
theorem dX7_does_69 : decode cX7_does 69 = .ok (.bipush 16, 2) := by decide +kernel
theorem dX7_does_71 : decode cX7_does 71 = .ok (.iconst 4, 1) := by decide +kernel
theorem dX7_does_72 : decode cX7_does 72 = .ok (.aload_n 0, 1) := by decide +kernel
theorem dX7_does_73 : decode cX7_does 73 = .ok (.getfield 7, 3) := by decide +kernel
theorem dX7_does_76 : decode cX7_does 76 = .ok (.bipush 24, 2) := by decide +kernel
theorem dX7_does_78 : decode cX7_does 78 = .ok (.iaload, 1) := by decide +kernel
theorem dX7_does_79 : decode cX7_does 79 = .ok (.imul, 1) := by decide +kernel
theorem dX7_does_80 : decode cX7_does 80 = .ok (.iadd, 1) := by decide +kernel
theorem dX7_does_81 : decode cX7_does 81 = .ok (.aload_n 0, 1) := by decide +kernel
theorem dX7_does_82 : decode cX7_does 82 = .ok (.getfield 149, 3) := by decide +kernel
theorem dX7_does_85 : decode cX7_does 85 = .ok (.iadd, 1) := by decide +kernel
theorem dX7_does_86 : decode cX7_does 86 = .ok (.aload_n 0, 1) := by decide +kernel
theorem dX7_does_87 : decode cX7_does 87 = .ok (.getfield 137, 3) := by decide +kernel
theorem dX7_does_90 : decode cX7_does 90 = .ok (.iastore, 1) := by decide +kernel
theorem dX7_does_91 : decode cX7_does 91 = .ok (.iconst 0, 1) := by decide +kernel
theorem dX7_does_92 : decode cX7_does 92 = .ok (.ireturn, 1) := by decide +kernel
theorem dX7_does_93 : decode cX7_does 93 = .ok (.aload_n 0, 1) := by decide +kernel
theorem dX7_does_94 : decode cX7_does 94 = .ok (.getfield 7, 3) := by decide +kernel
theorem dX7_does_97 : decode cX7_does 97 = .ok (.bipush 24, 2) := by decide +kernel
theorem dX7_does_99 : decode cX7_does 99 = .ok (.iconst 1, 1) := by decide +kernel
theorem dX7_does_100 : decode cX7_does 100 = .ok (.aload_n 0, 1) := by decide +kernel
theorem dX7_does_101 : decode cX7_does 101 = .ok (.getfield 7, 3) := by decide +kernel
theorem dX7_does_104 : decode cX7_does 104 = .ok (.bipush 24, 2) := by decide +kernel
theorem dX7_does_106 : decode cX7_does 106 = .ok (.iaload, 1) := by decide +kernel
theorem dX7_does_107 : decode cX7_does 107 = .ok (.isub, 1) := by decide +kernel
theorem dX7_does_108 : decode cX7_does 108 = .ok (.iastore, 1) := by decide +kernel
theorem dX7_does_109 : decode cX7_does 109 = .ok (.iconst 0, 1) := by decide +kernel
theorem dX7_does_110 : decode cX7_does 110 = .ok (.ireturn, 1) := by decide +kernel
theorem dX7_does_111 : decode cX7_does 111 = .ok (.aload_n 0, 1) := by decide +kernel
theorem dX7_does_112 : decode cX7_does 112 = .ok (.getfield 7, 3) := by decide +kernel
theorem dX7_does_115 : decode cX7_does 115 = .ok (.bipush 25, 2) := by decide +kernel
theorem dX7_does_117 : decode cX7_does 117 = .ok (.iconst 1, 1) := by decide +kernel
theorem dX7_does_118 : decode cX7_does 118 = .ok (.aload_n 0, 1) := by decide +kernel
theorem dX7_does_119 : decode cX7_does 119 = .ok (.getfield 7, 3) := by decide +kernel
theorem dX7_does_122 : decode cX7_does 122 = .ok (.bipush 25, 2) := by decide +kernel
theorem dX7_does_124 : decode cX7_does 124 = .ok (.iaload, 1) := by decide +kernel
theorem dX7_does_125 : decode cX7_does 125 = .ok (.isub, 1) := by decide +kernel
theorem dX7_does_126 : decode cX7_does 126 = .ok (.iastore, 1) := by decide +kernel
theorem dX7_does_127 : decode cX7_does 127 = .ok (.iconst 0, 1) := by decide +kernel
theorem dX7_does_128 : decode cX7_does 128 = .ok (.ireturn, 1) := by decide +kernel
theorem dX7_does_129 : decode cX7_does 129 = .ok (.aload_n 0, 1) := by decide +kernel
theorem dX7_does_130 : decode cX7_does 130 = .ok (.aload_n 0, 1) := by decide +kernel
theorem dX7_does_131 : decode cX7_does 131 = .ok (.getfield 137, 3) := by decide +kernel
theorem dX7_does_134 : decode cX7_does 134 = .ok (.aload_n 0, 1) := by decide +kernel
theorem dX7_does_135 : decode cX7_does 135 = .ok (.getfield 146, 3) := by decide +kernel
theorem dX7_does_138 : decode cX7_does 138 = .ok (.bipush 102, 2) := by decide +kernel
theorem dX7_does_140 : decode cX7_does 140 = .ok (.if_icmp .ne 7, 3) := by decide +kernel
theorem dX7_does_143 : decode cX7_does 143 = .ok (.iconst 1, 1) := by decide +kernel
theorem dX7_does_144 : decode cX7_does 144 = .ok (.goto 4, 3) := by decide +kernel
theorem dX7_does_147 : decode cX7_does 147 = .ok (.iconst 0, 1) := by decide +kernel
theorem dX7_does_148 : decode cX7_does 148 = .ok (.invokevirtual 120, 3) := by decide +kernel
theorem dX7_does_151 : decode cX7_does 151 = .ok (.ireturn, 1) := by decide +kernel
theorem dX7_run_0 : decode cX7_run 0 = .ok (.aload_n 0, 1) := by decide +kernel
theorem dX7_run_1 : decode cX7_run 1 = .ok (.aload_n 0, 1) := by decide +kernel
theorem dX7_run_2 : decode cX7_run 2 = .ok (.invokevirtual 159, 3) := by decide +kernel
theorem dX7_run_5 : decode cX7_run 5 = .ok (.ifCond .eq 7, 3) := by decide +kernel
theorem dX7_run_8 : decode cX7_run 8 = .ok (.iconst 0, 1) := by decide +kernel
theorem dX7_run_9 : decode cX7_run 9 = .ok (.goto 4, 3) := by decide +kernel
theorem dX7_run_12 : decode cX7_run 12 = .ok (.iconst 1, 1) := by decide +kernel
theorem dX7_run_13 : decode cX7_run 13 = .ok (.invokevirtual 99, 3) := by decide +kernel
theorem dX7_run_16 : decode cX7_run 16 = .ok (.ifCond .ne 5, 3) := by decide +kernel
theorem dX7_run_19 : decode cX7_run 19 = .ok (.iconst 0, 1) := by decide +kernel
theorem dX7_run_20 : decode cX7_run 20 = .ok (.ireturn, 1) := by decide +kernel
theorem dX7_run_21 : decode cX7_run 21 = .ok (.aload_n 0, 1) := by decide +kernel
theorem dX7_run_22 : decode cX7_run 22 = .ok (.invokevirtual 92, 3) := by decide +kernel
theorem dX7_run_25 : decode cX7_run 25 = .ok (.aload_n 0, 1) := by decide +kernel
theorem dX7_run_26 : decode cX7_run 26 = .ok (.iconst 0, 1) := by decide +kernel
theorem dX7_run_27 : decode cX7_run 27 = .ok (.putfield 130, 3) := by decide +kernel
theorem dX7_run_30 : decode cX7_run 30 = .ok (.iconst 0, 1) := by decide +kernel
theorem dX7_run_31 : decode cX7_run 31 = .ok (.istore_n 1, 1) := by decide +kernel
theorem dX7_run_32 : decode cX7_run 32 = .ok (.aload_n 0, 1) := by decide +kernel
theorem dX7_run_33 : decode cX7_run 33 = .ok (.invokevirtual 155, 3) := by decide +kernel
theorem dX7_run_36 : decode cX7_run 36 = .ok (.ifCond .eq 20, 3) := by decide +kernel
theorem dX7_run_39 : decode cX7_run 39 = .ok (.iload_n 1, 1) := by decide +kernel
theorem dX7_run_40 : decode cX7_run 40 = .ok (.aload_n 0, 1) := by decide +kernel
theorem dX7_run_41 : decode cX7_run 41 = .ok (.invokevirtual 162, 3) := by decide +kernel
theorem dX7_run_44 : decode cX7_run 44 = .ok (.iadd, 1) := by decide +kernel
theorem dX7_run_45 : decode cX7_run 45 = .ok (.istore_n 1, 1) := by decide +kernel
theorem dX7_run_46 : decode cX7_run 46 = .ok (.aload_n 0, 1) := by decide +kernel
theorem dX7_run_47 : decode cX7_run 47 = .ok (.bipush 59, 2) := by decide +kernel
theorem dX7_run_49 : decode cX7_run 49 = .ok (.invokevirtual 140, 3) := by decide +kernel
theorem dX7_run_52 : decode cX7_run 52 = .ok (.pop, 1) := by decide +kernel
theorem dX7_run_53 : decode cX7_run 53 = .ok (.goto (-21), 3) := by decide +kernel
theorem dX7_run_56 : decode cX7_run 56 = .ok (.aload_n 0, 1) := by decide +kernel
theorem dX7_run_57 : decode cX7_run 57 = .ok (.iconst 0, 1) := by decide +kernel
theorem dX7_run_58 : decode cX7_run 58 = .ok (.putfield 127, 3) := by decide +kernel
theorem dX7_run_61 : decode cX7_run 61 = .ok (.iload_n 1, 1) := by decide +kernel
theorem dX7_run_62 : decode cX7_run 62 = .ok (.ireturn, 1) := by decide +kernel
theorem dX7_undo_0 : decode cX7_undo 0 = .ok (.aload_n 0, 1) := by decide +kernel
theorem dX7_undo_1 : decode cX7_undo 1 = .ok (.aload_n 0, 1) := by decide +kernel
theorem dX7_undo_2 : decode cX7_undo 2 = .ok (.getfield 85, 3) := by decide +kernel
theorem dX7_undo_5 : decode cX7_undo 5 = .ok (.ifCond .le 7, 3) := by decide +kernel
theorem dX7_undo_8 : decode cX7_undo 8 = .ok (.iconst 0, 1) := by decide +kernel
theorem dX7_undo_9 : decode cX7_undo 9 = .ok (.goto 4, 3) := by decide +kernel
theorem dX7_undo_12 : decode cX7_undo 12 = .ok (.iconst 1, 1) := by decide +kernel
theorem dX7_undo_13 : decode cX7_undo 13 = .ok (.invokevirtual 99, 3) := by decide +kernel
theorem dX7_undo_16 : decode cX7_undo 16 = .ok (.ifCond .ne 5, 3) := by decide +kernel
theorem dX7_undo_19 : decode cX7_undo 19 = .ok (.iconst 0, 1) := by decide +kernel
theorem dX7_undo_20 : decode cX7_undo 20 = .ok (.ireturn, 1) := by decide +kernel
theorem dX7_undo_21 : decode cX7_undo 21 = .ok (.aload_n 0, 1) := by decide +kernel
theorem dX7_undo_22 : decode cX7_undo 22 = .ok (.aload_n 0, 1) := by decide +kernel
theorem dX7_undo_23 : decode cX7_undo 23 = .ok (.getfield 85, 3) := by decide +kernel
theorem dX7_undo_26 : decode cX7_undo 26 = .ok (.iconst 0, 1) := by decide +kernel
theorem dX7_undo_27 : decode cX7_undo 27 = .ok (.invokevirtual 88, 3) := by decide +kernel
theorem dX7_undo_30 : decode cX7_undo 30 = .ok (.aload_n 0, 1) := by decide +kernel
theorem dX7_undo_31 : decode cX7_undo 31 = .ok (.dup, 1) := by decide +kernel
theorem dX7_undo_32 : decode cX7_undo 32 = .ok (.getfield 85, 3) := by decide +kernel
theorem dX7_undo_35 : decode cX7_undo 35 = .ok (.iconst 1, 1) := by decide +kernel
theorem dX7_undo_36 : decode cX7_undo 36 = .ok (.isub, 1) := by decide +kernel
theorem dX7_undo_37 : decode cX7_undo 37 = .ok (.putfield 85, 3) := by decide +kernel
theorem dX7_undo_40 : decode cX7_undo 40 = .ok (.aload_n 0, 1) := by decide +kernel
theorem dX7_undo_41 : decode cX7_undo 41 = .ok (.getfield 85, 3) := by decide +kernel
theorem dX7_undo_44 : decode cX7_undo 44 = .ok (.ireturn, 1) := by decide +kernel
theorem dX7_savedStates_0 : decode cX7_savedStates 0 = .ok (.aload_n 0, 1) := by decide +kernel
theorem dX7_savedStates_1 : decode cX7_savedStates 1 = .ok (.iconst 0, 1) := by decide +kernel
theorem dX7_savedStates_2 : decode cX7_savedStates 2 = .ok (.putfield 31, 3) := by decide +kernel
theorem dX7_savedStates_5 : decode cX7_savedStates 5 = .ok (.aload_n 0, 1) := by decide +kernel
theorem dX7_savedStates_6 : decode cX7_savedStates 6 = .ok (.getfield 85, 3) := by decide +kernel
theorem dX7_savedStates_9 : decode cX7_savedStates 9 = .ok (.ireturn, 1) := by decide +kernel
theorem dX7_store_0 : decode cX7_store 0 = .ok (.aload_n 0, 1) := by decide +kernel
theorem dX7_store_1 : decode cX7_store 1 = .ok (.iload_n 1, 1) := by decide +kernel
theorem dX7_store_2 : decode cX7_store 2 = .ok (.iconst 0, 1) := by decide +kernel
theorem dX7_store_3 : decode cX7_store 3 = .ok (.iconst 1, 1) := by decide +kernel
theorem dX7_store_4 : decode cX7_store 4 = .ok (.invokestatic 35, 3) := by decide +kernel
theorem dX7_store_7 : decode cX7_store 7 = .ok (.ifCond .eq 7, 3) := by decide +kernel
theorem dX7_store_10 : decode cX7_store 10 = .ok (.iconst 0, 1) := by decide +kernel
theorem dX7_store_11 : decode cX7_store 11 = .ok (.goto 4, 3) := by decide +kernel
theorem dX7_store_14 : decode cX7_store 14 = .ok (.iconst 1, 1) := by decide +kernel
theorem dX7_store_15 : decode cX7_store 15 = .ok (.invokevirtual 99, 3) := by decide +kernel
theorem dX7_store_18 : decode cX7_store 18 = .ok (.ifCond .ne 5, 3) := by decide +kernel
theorem dX7_store_21 : decode cX7_store 21 = .ok (.iconst 0, 1) := by decide +kernel
theorem dX7_store_22 : decode cX7_store 22 = .ok (.ireturn, 1) := by decide +kernel
theorem dX7_store_23 : decode cX7_store 23 = .ok (.aload_n 0, 1) := by decide +kernel
theorem dX7_store_24 : decode cX7_store 24 = .ok (.iconst 0, 1) := by decide +kernel
theorem dX7_store_25 : decode cX7_store 25 = .ok (.bipush 7, 2) := by decide +kernel
theorem dX7_store_27 : decode cX7_store 27 = .ok (.iload_n 1, 1) := by decide +kernel
theorem dX7_store_28 : decode cX7_store 28 = .ok (.iadd, 1) := by decide +kernel
theorem dX7_store_29 : decode cX7_store 29 = .ok (.invokevirtual 88, 3) := by decide +kernel
theorem dX7_store_32 : decode cX7_store 32 = .ok (.aload_n 0, 1) := by decide +kernel
theorem dX7_store_33 : decode cX7_store 33 = .ok (.getfield 13, 3) := by decide +kernel
theorem dX7_store_36 : decode cX7_store 36 = .ok (.iload_n 1, 1) := by decide +kernel
theorem dX7_store_37 : decode cX7_store 37 = .ok (.iconst 1, 1) := by decide +kernel
theorem dX7_store_38 : decode cX7_store 38 = .ok (.bastore, 1) := by decide +kernel
theorem dX7_store_39 : decode cX7_store 39 = .ok (.aload_n 0, 1) := by decide +kernel
theorem dX7_store_40 : decode cX7_store 40 = .ok (.getfield 7, 3) := by decide +kernel
theorem dX7_store_43 : decode cX7_store 43 = .ok (.bipush 26, 2) := by decide +kernel
theorem dX7_store_45 : decode cX7_store 45 = .ok (.iaload, 1) := by decide +kernel
theorem dX7_store_46 : decode cX7_store 46 = .ok (.ireturn, 1) := by decide +kernel
theorem dX7_recall_0 : decode cX7_recall 0 = .ok (.aload_n 0, 1) := by decide +kernel
theorem dX7_recall_1 : decode cX7_recall 1 = .ok (.iload_n 1, 1) := by decide +kernel
theorem dX7_recall_2 : decode cX7_recall 2 = .ok (.iconst 0, 1) := by decide +kernel
theorem dX7_recall_3 : decode cX7_recall 3 = .ok (.iconst 1, 1) := by decide +kernel
theorem dX7_recall_4 : decode cX7_recall 4 = .ok (.invokestatic 35, 3) := by decide +kernel
theorem dX7_recall_7 : decode cX7_recall 7 = .ok (.ifCond .ne 7, 3) := by decide +kernel
theorem dX7_recall_10 : decode cX7_recall 10 = .ok (.iconst 1, 1) := by decide +kernel
theorem dX7_recall_11 : decode cX7_recall 11 = .ok (.goto 17, 3) := by decide +kernel
theorem dX7_recall_14 : decode cX7_recall 14 = .ok (.aload_n 0, 1) := by decide +kernel
theorem dX7_recall_15 : decode cX7_recall 15 = .ok (.getfield 13, 3) := by decide +kernel
theorem dX7_recall_18 : decode cX7_recall 18 = .ok (.iload_n 1, 1) := by decide +kernel
theorem dX7_recall_19 : decode cX7_recall 19 = .ok (.baload, 1) := by decide +kernel
theorem dX7_recall_20 : decode cX7_recall 20 = .ok (.ifCond .ne 7, 3) := by decide +kernel
theorem dX7_recall_23 : decode cX7_recall 23 = .ok (.iconst 2, 1) := by decide +kernel
theorem dX7_recall_24 : decode cX7_recall 24 = .ok (.goto 4, 3) := by decide +kernel
theorem dX7_recall_27 : decode cX7_recall 27 = .ok (.iconst 0, 1) := by decide +kernel
theorem dX7_recall_28 : decode cX7_recall 28 = .ok (.invokevirtual 99, 3) := by decide +kernel
theorem dX7_recall_31 : decode cX7_recall 31 = .ok (.ifCond .ne 5, 3) := by decide +kernel
theorem dX7_recall_34 : decode cX7_recall 34 = .ok (.iconst 0, 1) := by decide +kernel
theorem dX7_recall_35 : decode cX7_recall 35 = .ok (.ireturn, 1) := by decide +kernel
theorem dX7_recall_36 : decode cX7_recall 36 = .ok (.aload_n 0, 1) := by decide +kernel
theorem dX7_recall_37 : decode cX7_recall 37 = .ok (.invokevirtual 92, 3) := by decide +kernel
theorem dX7_recall_40 : decode cX7_recall 40 = .ok (.aload_n 0, 1) := by decide +kernel
theorem dX7_recall_41 : decode cX7_recall 41 = .ok (.bipush 7, 2) := by decide +kernel
theorem dX7_recall_43 : decode cX7_recall 43 = .ok (.iload_n 1, 1) := by decide +kernel
theorem dX7_recall_44 : decode cX7_recall 44 = .ok (.iadd, 1) := by decide +kernel
theorem dX7_recall_45 : decode cX7_recall 45 = .ok (.iconst 0, 1) := by decide +kernel
theorem dX7_recall_46 : decode cX7_recall 46 = .ok (.invokevirtual 88, 3) := by decide +kernel
theorem dX7_recall_49 : decode cX7_recall 49 = .ok (.aload_n 0, 1) := by decide +kernel
theorem dX7_recall_50 : decode cX7_recall 50 = .ok (.getfield 7, 3) := by decide +kernel
theorem dX7_recall_53 : decode cX7_recall 53 = .ok (.bipush 26, 2) := by decide +kernel
theorem dX7_recall_55 : decode cX7_recall 55 = .ok (.iaload, 1) := by decide +kernel
theorem dX7_recall_56 : decode cX7_recall 56 = .ok (.ireturn, 1) := by decide +kernel
theorem dX7_mixIn_0 : decode cX7_mixIn 0 = .ok (.aload_n 0, 1) := by decide +kernel
theorem dX7_mixIn_1 : decode cX7_mixIn 1 = .ok (.ldc2_w 165, 3) := by decide +kernel
theorem dX7_mixIn_4 : decode cX7_mixIn 4 = .ok (.aload_n 0, 1) := by decide +kernel
theorem dX7_mixIn_5 : decode cX7_mixIn 5 = .ok (.getfield 167, 3) := by decide +kernel
theorem dX7_mixIn_8 : decode cX7_mixIn 8 = .ok (.lmul, 1) := by decide +kernel
theorem dX7_mixIn_9 : decode cX7_mixIn 9 = .ok (.lload_n 1, 1) := by decide +kernel
theorem dX7_mixIn_10 : decode cX7_mixIn 10 = .ok (.ladd, 1) := by decide +kernel
theorem dX7_mixIn_11 : decode cX7_mixIn 11 = .ok (.putfield 167, 3) := by decide +kernel
theorem dX7_mixIn_14 : decode cX7_mixIn 14 = .ok (.return_, 1) := by decide +kernel
theorem dX7_digest_0 : decode cX7_digest 0 = .ok (.aload_n 0, 1) := by decide +kernel
theorem dX7_digest_1 : decode cX7_digest 1 = .ok (.iconst 0, 1) := by decide +kernel
theorem dX7_digest_2 : decode cX7_digest 2 = .ok (.putfield 31, 3) := by decide +kernel
theorem dX7_digest_5 : decode cX7_digest 5 = .ok (.aload_n 0, 1) := by decide +kernel
theorem dX7_digest_6 : decode cX7_digest 6 = .ok (.ldc2_w 171, 3) := by decide +kernel
theorem dX7_digest_9 : decode cX7_digest 9 = .ok (.putfield 167, 3) := by decide +kernel
theorem dX7_digest_12 : decode cX7_digest 12 = .ok (.iconst 0, 1) := by decide +kernel
theorem dX7_digest_13 : decode cX7_digest 13 = .ok (.istore_n 1, 1) := by decide +kernel
theorem dX7_digest_14 : decode cX7_digest 14 = .ok (.iload_n 1, 1) := by decide +kernel
theorem dX7_digest_15 : decode cX7_digest 15 = .ok (.iconst 4, 1) := by decide +kernel
theorem dX7_digest_16 : decode cX7_digest 16 = .ok (.if_icmp .ge 94, 3) := by decide +kernel
theorem dX7_digest_19 : decode cX7_digest 19 = .ok (.aload_n 0, 1) := by decide +kernel
theorem dX7_digest_20 : decode cX7_digest 20 = .ok (.aload_n 0, 1) := by decide +kernel
theorem dX7_digest_21 : decode cX7_digest 21 = .ok (.getfield 7, 3) := by decide +kernel
theorem dX7_digest_24 : decode cX7_digest 24 = .ok (.iconst 0, 1) := by decide +kernel
theorem dX7_digest_25 : decode cX7_digest 25 = .ok (.iload_n 1, 1) := by decide +kernel
theorem dX7_digest_26 : decode cX7_digest 26 = .ok (.iadd, 1) := by decide +kernel
theorem dX7_digest_27 : decode cX7_digest 27 = .ok (.iaload, 1) := by decide +kernel
theorem dX7_digest_28 : decode cX7_digest 28 = .ok (.i2l, 1) := by decide +kernel
theorem dX7_digest_29 : decode cX7_digest 29 = .ok (.invokevirtual 173, 3) := by decide +kernel
theorem dX7_digest_32 : decode cX7_digest 32 = .ok (.aload_n 0, 1) := by decide +kernel
theorem dX7_digest_33 : decode cX7_digest 33 = .ok (.aload_n 0, 1) := by decide +kernel
theorem dX7_digest_34 : decode cX7_digest 34 = .ok (.getfield 7, 3) := by decide +kernel
theorem dX7_digest_37 : decode cX7_digest 37 = .ok (.iconst 4, 1) := by decide +kernel
theorem dX7_digest_38 : decode cX7_digest 38 = .ok (.iload_n 1, 1) := by decide +kernel
theorem dX7_digest_39 : decode cX7_digest 39 = .ok (.iadd, 1) := by decide +kernel
theorem dX7_digest_40 : decode cX7_digest 40 = .ok (.iaload, 1) := by decide +kernel
theorem dX7_digest_41 : decode cX7_digest 41 = .ok (.i2l, 1) := by decide +kernel
theorem dX7_digest_42 : decode cX7_digest 42 = .ok (.invokevirtual 173, 3) := by decide +kernel
theorem dX7_digest_45 : decode cX7_digest 45 = .ok (.aload_n 0, 1) := by decide +kernel
theorem dX7_digest_46 : decode cX7_digest 46 = .ok (.aload_n 0, 1) := by decide +kernel
theorem dX7_digest_47 : decode cX7_digest 47 = .ok (.getfield 7, 3) := by decide +kernel
theorem dX7_digest_50 : decode cX7_digest 50 = .ok (.bipush 8, 2) := by decide +kernel
theorem dX7_digest_52 : decode cX7_digest 52 = .ok (.iconst 4, 1) := by decide +kernel
theorem dX7_digest_53 : decode cX7_digest 53 = .ok (.aload_n 0, 1) := by decide +kernel
theorem dX7_digest_54 : decode cX7_digest 54 = .ok (.getfield 7, 3) := by decide +kernel
theorem dX7_digest_57 : decode cX7_digest 57 = .ok (.bipush 24, 2) := by decide +kernel
theorem dX7_digest_59 : decode cX7_digest 59 = .ok (.iaload, 1) := by decide +kernel
theorem dX7_digest_60 : decode cX7_digest 60 = .ok (.imul, 1) := by decide +kernel
theorem dX7_digest_61 : decode cX7_digest 61 = .ok (.iadd, 1) := by decide +kernel
theorem dX7_digest_62 : decode cX7_digest 62 = .ok (.iload_n 1, 1) := by decide +kernel
theorem dX7_digest_63 : decode cX7_digest 63 = .ok (.iadd, 1) := by decide +kernel
theorem dX7_digest_64 : decode cX7_digest 64 = .ok (.iaload, 1) := by decide +kernel
theorem dX7_digest_65 : decode cX7_digest 65 = .ok (.i2l, 1) := by decide +kernel
theorem dX7_digest_66 : decode cX7_digest 66 = .ok (.invokevirtual 173, 3) := by decide +kernel
theorem dX7_digest_69 : decode cX7_digest 69 = .ok (.aload_n 0, 1) := by decide +kernel
theorem dX7_digest_70 : decode cX7_digest 70 = .ok (.aload_n 0, 1) := by decide +kernel
theorem dX7_digest_71 : decode cX7_digest 71 = .ok (.getfield 7, 3) := by decide +kernel
theorem dX7_digest_74 : decode cX7_digest 74 = .ok (.bipush 16, 2) := by decide +kernel
theorem dX7_digest_76 : decode cX7_digest 76 = .ok (.iconst 4, 1) := by decide +kernel
theorem dX7_digest_77 : decode cX7_digest 77 = .ok (.aload_n 0, 1) := by decide +kernel
theorem dX7_digest_78 : decode cX7_digest 78 = .ok (.getfield 7, 3) := by decide +kernel
theorem dX7_digest_81 : decode cX7_digest 81 = .ok (.bipush 24, 2) := by decide +kernel
theorem dX7_digest_83 : decode cX7_digest 83 = .ok (.iaload, 1) := by decide +kernel
theorem dX7_digest_84 : decode cX7_digest 84 = .ok (.imul, 1) := by decide +kernel
theorem dX7_digest_85 : decode cX7_digest 85 = .ok (.iadd, 1) := by decide +kernel
theorem dX7_digest_86 : decode cX7_digest 86 = .ok (.iload_n 1, 1) := by decide +kernel
theorem dX7_digest_87 : decode cX7_digest 87 = .ok (.iadd, 1) := by decide +kernel
theorem dX7_digest_88 : decode cX7_digest 88 = .ok (.iaload, 1) := by decide +kernel
theorem dX7_digest_89 : decode cX7_digest 89 = .ok (.i2l, 1) := by decide +kernel
theorem dX7_digest_90 : decode cX7_digest 90 = .ok (.invokevirtual 173, 3) := by decide +kernel
theorem dX7_digest_93 : decode cX7_digest 93 = .ok (.aload_n 0, 1) := by decide +kernel
theorem dX7_digest_94 : decode cX7_digest 94 = .ok (.aload_n 0, 1) := by decide +kernel
theorem dX7_digest_95 : decode cX7_digest 95 = .ok (.iconst 0, 1) := by decide +kernel
theorem dX7_digest_96 : decode cX7_digest 96 = .ok (.iload_n 1, 1) := by decide +kernel
theorem dX7_digest_97 : decode cX7_digest 97 = .ok (.invokevirtual 43, 3) := by decide +kernel
theorem dX7_digest_100 : decode cX7_digest 100 = .ok (.i2l, 1) := by decide +kernel
theorem dX7_digest_101 : decode cX7_digest 101 = .ok (.invokevirtual 173, 3) := by decide +kernel
theorem dX7_digest_104 : decode cX7_digest 104 = .ok (.iinc 1 1, 3) := by decide +kernel
theorem dX7_digest_107 : decode cX7_digest 107 = .ok (.goto (-93), 3) := by decide +kernel
theorem dX7_digest_110 : decode cX7_digest 110 = .ok (.aload_n 0, 1) := by decide +kernel
theorem dX7_digest_111 : decode cX7_digest 111 = .ok (.aload_n 0, 1) := by decide +kernel
theorem dX7_digest_112 : decode cX7_digest 112 = .ok (.getfield 7, 3) := by decide +kernel
theorem dX7_digest_115 : decode cX7_digest 115 = .ok (.bipush 24, 2) := by decide +kernel
theorem dX7_digest_117 : decode cX7_digest 117 = .ok (.iaload, 1) := by decide +kernel
theorem dX7_digest_118 : decode cX7_digest 118 = .ok (.i2l, 1) := by decide +kernel
theorem dX7_digest_119 : decode cX7_digest 119 = .ok (.invokevirtual 173, 3) := by decide +kernel
theorem dX7_digest_122 : decode cX7_digest 122 = .ok (.aload_n 0, 1) := by decide +kernel
theorem dX7_digest_123 : decode cX7_digest 123 = .ok (.aload_n 0, 1) := by decide +kernel
theorem dX7_digest_124 : decode cX7_digest 124 = .ok (.getfield 7, 3) := by decide +kernel
theorem dX7_digest_127 : decode cX7_digest 127 = .ok (.bipush 25, 2) := by decide +kernel
theorem dX7_digest_129 : decode cX7_digest 129 = .ok (.iaload, 1) := by decide +kernel
theorem dX7_digest_130 : decode cX7_digest 130 = .ok (.i2l, 1) := by decide +kernel
theorem dX7_digest_131 : decode cX7_digest 131 = .ok (.invokevirtual 173, 3) := by decide +kernel
theorem dX7_digest_134 : decode cX7_digest 134 = .ok (.aload_n 0, 1) := by decide +kernel
theorem dX7_digest_135 : decode cX7_digest 135 = .ok (.aload_n 0, 1) := by decide +kernel
theorem dX7_digest_136 : decode cX7_digest 136 = .ok (.getfield 7, 3) := by decide +kernel
theorem dX7_digest_139 : decode cX7_digest 139 = .ok (.bipush 26, 2) := by decide +kernel
theorem dX7_digest_141 : decode cX7_digest 141 = .ok (.iaload, 1) := by decide +kernel
theorem dX7_digest_142 : decode cX7_digest 142 = .ok (.i2l, 1) := by decide +kernel
theorem dX7_digest_143 : decode cX7_digest 143 = .ok (.invokevirtual 173, 3) := by decide +kernel
theorem dX7_digest_146 : decode cX7_digest 146 = .ok (.aload_n 0, 1) := by decide +kernel
theorem dX7_digest_147 : decode cX7_digest 147 = .ok (.iconst 0, 1) := by decide +kernel
theorem dX7_digest_148 : decode cX7_digest 148 = .ok (.invokevirtual 63, 3) := by decide +kernel
theorem dX7_digest_151 : decode cX7_digest 151 = .ok (.iconst 0, 1) := by decide +kernel
theorem dX7_digest_152 : decode cX7_digest 152 = .ok (.istore_n 1, 1) := by decide +kernel
theorem dX7_digest_153 : decode cX7_digest 153 = .ok (.iload_n 1, 1) := by decide +kernel
theorem dX7_digest_154 : decode cX7_digest 154 = .ok (.aload_n 0, 1) := by decide +kernel
theorem dX7_digest_155 : decode cX7_digest 155 = .ok (.getfield 7, 3) := by decide +kernel
theorem dX7_digest_158 : decode cX7_digest 158 = .ok (.bipush 26, 2) := by decide +kernel
theorem dX7_digest_160 : decode cX7_digest 160 = .ok (.iaload, 1) := by decide +kernel
theorem dX7_digest_161 : decode cX7_digest 161 = .ok (.if_icmp .ge 44, 3) := by decide +kernel
theorem dX7_digest_164 : decode cX7_digest 164 = .ok (.aload_n 0, 1) := by decide +kernel
theorem dX7_digest_165 : decode cX7_digest 165 = .ok (.aload_n 0, 1) := by decide +kernel
theorem dX7_digest_166 : decode cX7_digest 166 = .ok (.iconst 0, 1) := by decide +kernel
theorem dX7_digest_167 : decode cX7_digest 167 = .ok (.iload_n 1, 1) := by decide +kernel
theorem dX7_digest_168 : decode cX7_digest 168 = .ok (.iconst 0, 1) := by decide +kernel
theorem dX7_digest_169 : decode cX7_digest 169 = .ok (.invokevirtual 39, 3) := by decide +kernel
theorem dX7_digest_172 : decode cX7_digest 172 = .ok (.i2l, 1) := by decide +kernel
theorem dX7_digest_173 : decode cX7_digest 173 = .ok (.invokevirtual 173, 3) := by decide +kernel
theorem dX7_digest_176 : decode cX7_digest 176 = .ok (.aload_n 0, 1) := by decide +kernel
theorem dX7_digest_177 : decode cX7_digest 177 = .ok (.aload_n 0, 1) := by decide +kernel
theorem dX7_digest_178 : decode cX7_digest 178 = .ok (.iconst 0, 1) := by decide +kernel
theorem dX7_digest_179 : decode cX7_digest 179 = .ok (.iload_n 1, 1) := by decide +kernel
theorem dX7_digest_180 : decode cX7_digest 180 = .ok (.iconst 1, 1) := by decide +kernel
theorem dX7_digest_181 : decode cX7_digest 181 = .ok (.invokevirtual 39, 3) := by decide +kernel
theorem dX7_digest_184 : decode cX7_digest 184 = .ok (.i2l, 1) := by decide +kernel
theorem dX7_digest_185 : decode cX7_digest 185 = .ok (.invokevirtual 173, 3) := by decide +kernel
theorem dX7_digest_188 : decode cX7_digest 188 = .ok (.aload_n 0, 1) := by decide +kernel
theorem dX7_digest_189 : decode cX7_digest 189 = .ok (.aload_n 0, 1) := by decide +kernel
theorem dX7_digest_190 : decode cX7_digest 190 = .ok (.iconst 0, 1) := by decide +kernel
theorem dX7_digest_191 : decode cX7_digest 191 = .ok (.iload_n 1, 1) := by decide +kernel
theorem dX7_digest_192 : decode cX7_digest 192 = .ok (.invokevirtual 51, 3) := by decide +kernel
theorem dX7_digest_195 : decode cX7_digest 195 = .ok (.i2l, 1) := by decide +kernel
theorem dX7_digest_196 : decode cX7_digest 196 = .ok (.invokevirtual 173, 3) := by decide +kernel
theorem dX7_digest_199 : decode cX7_digest 199 = .ok (.iinc 1 1, 3) := by decide +kernel
theorem dX7_digest_202 : decode cX7_digest 202 = .ok (.goto (-49), 3) := by decide +kernel
theorem dX7_digest_205 : decode cX7_digest 205 = .ok (.iconst 0, 1) := by decide +kernel
theorem dX7_digest_206 : decode cX7_digest 206 = .ok (.istore_n 1, 1) := by decide +kernel
theorem dX7_digest_207 : decode cX7_digest 207 = .ok (.iload_n 1, 1) := by decide +kernel
theorem dX7_digest_208 : decode cX7_digest 208 = .ok (.bipush 6, 2) := by decide +kernel
theorem dX7_digest_210 : decode cX7_digest 210 = .ok (.if_icmp .ge 70, 3) := by decide +kernel
theorem dX7_digest_213 : decode cX7_digest 213 = .ok (.aload_n 0, 1) := by decide +kernel
theorem dX7_digest_214 : decode cX7_digest 214 = .ok (.aload_n 0, 1) := by decide +kernel
theorem dX7_digest_215 : decode cX7_digest 215 = .ok (.getfield 20, 3) := by decide +kernel
theorem dX7_digest_218 : decode cX7_digest 218 = .ok (.iload_n 1, 1) := by decide +kernel
theorem dX7_digest_219 : decode cX7_digest 219 = .ok (.iaload, 1) := by decide +kernel
theorem dX7_digest_220 : decode cX7_digest 220 = .ok (.i2l, 1) := by decide +kernel
theorem dX7_digest_221 : decode cX7_digest 221 = .ok (.invokevirtual 173, 3) := by decide +kernel
theorem dX7_digest_224 : decode cX7_digest 224 = .ok (.aload_n 0, 1) := by decide +kernel
theorem dX7_digest_225 : decode cX7_digest 225 = .ok (.aload_n 0, 1) := by decide +kernel
theorem dX7_digest_226 : decode cX7_digest 226 = .ok (.iconst 0, 1) := by decide +kernel
theorem dX7_digest_227 : decode cX7_digest 227 = .ok (.iload_n 1, 1) := by decide +kernel
theorem dX7_digest_228 : decode cX7_digest 228 = .ok (.invokevirtual 67, 3) := by decide +kernel
theorem dX7_digest_231 : decode cX7_digest 231 = .ok (.i2l, 1) := by decide +kernel
theorem dX7_digest_232 : decode cX7_digest 232 = .ok (.invokevirtual 173, 3) := by decide +kernel
theorem dX7_digest_235 : decode cX7_digest 235 = .ok (.aload_n 0, 1) := by decide +kernel
theorem dX7_digest_236 : decode cX7_digest 236 = .ok (.aload_n 0, 1) := by decide +kernel
theorem dX7_digest_237 : decode cX7_digest 237 = .ok (.iconst 0, 1) := by decide +kernel
theorem dX7_digest_238 : decode cX7_digest 238 = .ok (.iload_n 1, 1) := by decide +kernel
theorem dX7_digest_239 : decode cX7_digest 239 = .ok (.bipush 7, 2) := by decide +kernel
theorem dX7_digest_241 : decode cX7_digest 241 = .ok (.invokevirtual 57, 3) := by decide +kernel
theorem dX7_digest_244 : decode cX7_digest 244 = .ok (.i2l, 1) := by decide +kernel
theorem dX7_digest_245 : decode cX7_digest 245 = .ok (.invokevirtual 173, 3) := by decide +kernel
theorem dX7_digest_248 : decode cX7_digest 248 = .ok (.aload_n 0, 1) := by decide +kernel
theorem dX7_digest_249 : decode cX7_digest 249 = .ok (.aload_n 0, 1) := by decide +kernel
theorem dX7_digest_250 : decode cX7_digest 250 = .ok (.iconst 0, 1) := by decide +kernel
theorem dX7_digest_251 : decode cX7_digest 251 = .ok (.iload_n 1, 1) := by decide +kernel
theorem dX7_digest_252 : decode cX7_digest 252 = .ok (.bipush 8, 2) := by decide +kernel
theorem dX7_digest_254 : decode cX7_digest 254 = .ok (.invokevirtual 57, 3) := by decide +kernel
theorem dX7_digest_257 : decode cX7_digest 257 = .ok (.i2l, 1) := by decide +kernel
theorem dX7_digest_258 : decode cX7_digest 258 = .ok (.invokevirtual 173, 3) := by decide +kernel
theorem dX7_digest_261 : decode cX7_digest 261 = .ok (.aload_n 0, 1) := by decide +kernel
theorem dX7_digest_262 : decode cX7_digest 262 = .ok (.aload_n 0, 1) := by decide +kernel
theorem dX7_digest_263 : decode cX7_digest 263 = .ok (.iconst 0, 1) := by decide +kernel
theorem dX7_digest_264 : decode cX7_digest 264 = .ok (.iload_n 1, 1) := by decide +kernel
theorem dX7_digest_265 : decode cX7_digest 265 = .ok (.bipush 9, 2) := by decide +kernel
theorem dX7_digest_267 : decode cX7_digest 267 = .ok (.invokevirtual 57, 3) := by decide +kernel
theorem dX7_digest_270 : decode cX7_digest 270 = .ok (.i2l, 1) := by decide +kernel
theorem dX7_digest_271 : decode cX7_digest 271 = .ok (.invokevirtual 173, 3) := by decide +kernel
theorem dX7_digest_274 : decode cX7_digest 274 = .ok (.iinc 1 1, 3) := by decide +kernel
theorem dX7_digest_277 : decode cX7_digest 277 = .ok (.goto (-70), 3) := by decide +kernel
theorem dX7_digest_280 : decode cX7_digest 280 = .ok (.sipush 148, 3) := by decide +kernel
theorem dX7_digest_283 : decode cX7_digest 283 = .ok (.istore_n 1, 1) := by decide +kernel
theorem dX7_digest_284 : decode cX7_digest 284 = .ok (.iload_n 1, 1) := by decide +kernel
theorem dX7_digest_285 : decode cX7_digest 285 = .ok (.sipush 154, 3) := by decide +kernel
theorem dX7_digest_288 : decode cX7_digest 288 = .ok (.if_icmp .gt 20, 3) := by decide +kernel
theorem dX7_digest_291 : decode cX7_digest 291 = .ok (.aload_n 0, 1) := by decide +kernel
theorem dX7_digest_292 : decode cX7_digest 292 = .ok (.aload_n 0, 1) := by decide +kernel
theorem dX7_digest_293 : decode cX7_digest 293 = .ok (.getfield 7, 3) := by decide +kernel
theorem dX7_digest_296 : decode cX7_digest 296 = .ok (.iload_n 1, 1) := by decide +kernel
theorem dX7_digest_297 : decode cX7_digest 297 = .ok (.iaload, 1) := by decide +kernel
theorem dX7_digest_298 : decode cX7_digest 298 = .ok (.i2l, 1) := by decide +kernel
theorem dX7_digest_299 : decode cX7_digest 299 = .ok (.invokevirtual 173, 3) := by decide +kernel
theorem dX7_digest_302 : decode cX7_digest 302 = .ok (.iinc 1 1, 3) := by decide +kernel
theorem dX7_digest_305 : decode cX7_digest 305 = .ok (.goto (-21), 3) := by decide +kernel
theorem dX7_digest_308 : decode cX7_digest 308 = .ok (.aload_n 0, 1) := by decide +kernel
theorem dX7_digest_309 : decode cX7_digest 309 = .ok (.getfield 167, 3) := by decide +kernel
theorem dX7_digest_312 : decode cX7_digest 312 = .ok (.lreturn, 1) := by decide +kernel
