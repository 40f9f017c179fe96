theorem dX0_init_0 : decode cX0_init 0 = .ok (.aload_n 0, 1) := by decide +kernel
theorem dX0_init_1 : decode cX0_init 1 = .ok (.invokespecial 3, 3) := by decide +kernel
theorem dX0_init_4 : decode cX0_init 4 = .ok (.aload_n 0, 1) := by decide +kernel
theorem dX0_init_5 : decode cX0_init 5 = .ok (.sipush 200, 3) := by decide +kernel
theorem dX0_init_8 : decode cX0_init 8 = .ok (.newarray .char, 2) := by decide +kernel
theorem dX0_init_10 : decode cX0_init 10 = .ok (.putfield 9, 3) := by decide +kernel
theorem dX0_init_13 : decode cX0_init 13 = .ok (.aload_n 0, 1) := by decide +kernel
theorem dX0_init_14 : decode cX0_init 14 = .ok (.iconst 0, 1) := by decide +kernel
theorem dX0_init_15 : decode cX0_init 15 = .ok (.putfield 15, 3) := by decide +kernel
theorem dX0_init_18 : decode cX0_init 18 = .ok (.return_, 1) := by decide +kernel
theorem dX0_append_0 : decode cX0_append 0 = .ok (.aload_n 0, 1) := by decide +kernel
theorem dX0_append_1 : decode cX0_append 1 = .ok (.getfield 15, 3) := by decide +kernel
theorem dX0_append_4 : decode cX0_append 4 = .ok (.aload_n 0, 1) := by decide +kernel
theorem dX0_append_5 : decode cX0_append 5 = .ok (.getfield 9, 3) := by decide +kernel
theorem dX0_append_8 : decode cX0_append 8 = .ok (.arraylength, 1) := by decide +kernel
theorem dX0_append_9 : decode cX0_append 9 = .ok (.if_icmp .ge 23, 3) := by decide +kernel
theorem dX0_append_12 : decode cX0_append 12 = .ok (.aload_n 0, 1) := by decide +kernel
theorem dX0_append_13 : decode cX0_append 13 = .ok (.getfield 9, 3) := by decide +kernel
theorem dX0_append_16 : decode cX0_append 16 = .ok (.aload_n 0, 1) := by decide +kernel
theorem dX0_append_17 : decode cX0_append 17 = .ok (.getfield 15, 3) := by decide +kernel
theorem dX0_append_20 : decode cX0_append 20 = .ok (.iload_n 1, 1) := by decide +kernel
theorem dX0_append_21 : decode cX0_append 21 = .ok (.castore, 1) := by decide +kernel
theorem dX0_append_22 : decode cX0_append 22 = .ok (.aload_n 0, 1) := by decide +kernel
theorem dX0_append_23 : decode cX0_append 23 = .ok (.dup, 1) := by decide +kernel
theorem dX0_append_24 : decode cX0_append 24 = .ok (.getfield 15, 3) := by decide +kernel
theorem dX0_append_27 : decode cX0_append 27 = .ok (.iconst 1, 1) := by decide +kernel
theorem dX0_append_28 : decode cX0_append 28 = .ok (.iadd, 1) := by decide +kernel
theorem dX0_append_29 : decode cX0_append 29 = .ok (.putfield 15, 3) := by decide +kernel
theorem dX0_append_32 : decode cX0_append 32 = .ok (.return_, 1) := by decide +kernel
theorem dX0_signAt_0 : decode cX0_signAt 0 = .ok (.iload_n 1, 1) := by decide +kernel
theorem dX0_signAt_1 : decode cX0_signAt 1 = .ok (.ifCond .lt 20, 3) := by decide +kernel
theorem dX0_signAt_4 : decode cX0_signAt 4 = .ok (.iload_n 1, 1) := by decide +kernel
theorem dX0_signAt_5 : decode cX0_signAt 5 = .ok (.aload_n 0, 1) := by decide +kernel
theorem dX0_signAt_6 : decode cX0_signAt 6 = .ok (.getfield 15, 3) := by decide +kernel
theorem dX0_signAt_9 : decode cX0_signAt 9 = .ok (.if_icmp .ge 12, 3) := by decide +kernel
theorem dX0_signAt_12 : decode cX0_signAt 12 = .ok (.aload_n 0, 1) := by decide +kernel
theorem dX0_signAt_13 : decode cX0_signAt 13 = .ok (.getfield 9, 3) := by decide +kernel
theorem dX0_signAt_16 : decode cX0_signAt 16 = .ok (.iload_n 1, 1) := by decide +kernel
theorem dX0_signAt_17 : decode cX0_signAt 17 = .ok (.caload, 1) := by decide +kernel
theorem dX0_signAt_18 : decode cX0_signAt 18 = .ok (.goto 4, 3) := by decide +kernel
theorem dX0_signAt_21 : decode cX0_signAt 21 = .ok (.iconst 0, 1) := by decide +kernel
theorem dX0_signAt_22 : decode cX0_signAt 22 = .ok (.ireturn, 1) := by decide +kernel
theorem dX0_clear_0 : decode cX0_clear 0 = .ok (.aload_n 0, 1) := by decide +kernel
theorem dX0_clear_1 : decode cX0_clear 1 = .ok (.iconst 0, 1) := by decide +kernel
theorem dX0_clear_2 : decode cX0_clear 2 = .ok (.putfield 15, 3) := by decide +kernel
theorem dX0_clear_5 : decode cX0_clear 5 = .ok (.return_, 1) := by decide +kernel
theorem dX1_init_0 : decode cX1_init 0 = .ok (.aload_n 0, 1) := by decide +kernel
theorem dX1_init_1 : decode cX1_init 1 = .ok (.invokespecial 3, 3) := by decide +kernel
theorem dX1_init_4 : decode cX1_init 4 = .ok (.aload_n 0, 1) := by decide +kernel
theorem dX1_init_5 : decode cX1_init 5 = .ok (.bipush 8, 2) := by decide +kernel
theorem dX1_init_7 : decode cX1_init 7 = .ok (.newarray .int, 2) := by decide +kernel
theorem dX1_init_9 : decode cX1_init 9 = .ok (.putfield 9, 3) := by decide +kernel
theorem dX1_init_12 : decode cX1_init 12 = .ok (.aload_n 0, 1) := by decide +kernel
theorem dX1_init_13 : decode cX1_init 13 = .ok (.bipush 64, 2) := by decide +kernel
theorem dX1_init_15 : decode cX1_init 15 = .ok (.newarray .int, 2) := by decide +kernel
theorem dX1_init_17 : decode cX1_init 17 = .ok (.putfield 15, 3) := by decide +kernel
theorem dX1_init_20 : decode cX1_init 20 = .ok (.aload_n 0, 1) := by decide +kernel
theorem dX1_init_21 : decode cX1_init 21 = .ok (.iconst 5, 1) := by decide +kernel
theorem dX1_init_22 : decode cX1_init 22 = .ok (.newarray .int, 2) := by decide +kernel
theorem dX1_init_24 : decode cX1_init 24 = .ok (.putfield 18, 3) := by decide +kernel
theorem dX1_init_27 : decode cX1_init 27 = .ok (.aload_n 0, 1) := by decide +kernel
theorem dX1_init_28 : decode cX1_init 28 = .ok (.iconst 5, 1) := by decide +kernel
theorem dX1_init_29 : decode cX1_init 29 = .ok (.newarray .int, 2) := by decide +kernel
theorem dX1_init_31 : decode cX1_init 31 = .ok (.putfield 21, 3) := by decide +kernel
theorem dX1_init_34 : decode cX1_init 34 = .ok (.aload_n 0, 1) := by decide +kernel
theorem dX1_init_35 : decode cX1_init 35 = .ok (.bipush 6, 2) := by decide +kernel
theorem dX1_init_37 : decode cX1_init 37 = .ok (.newarray .int, 2) := by decide +kernel
theorem dX1_init_39 : decode cX1_init 39 = .ok (.putfield 24, 3) := by decide +kernel
theorem dX1_init_42 : decode cX1_init 42 = .ok (.aload_n 0, 1) := by decide +kernel
theorem dX1_init_43 : decode cX1_init 43 = .ok (.iconst 4, 1) := by decide +kernel
theorem dX1_init_44 : decode cX1_init 44 = .ok (.putfield 27, 3) := by decide +kernel
theorem dX1_init_47 : decode cX1_init 47 = .ok (.aload_n 0, 1) := by decide +kernel
theorem dX1_init_48 : decode cX1_init 48 = .ok (.iconst 0, 1) := by decide +kernel
theorem dX1_init_49 : decode cX1_init 49 = .ok (.putfield 31, 3) := by decide +kernel
theorem dX1_init_52 : decode cX1_init 52 = .ok (.aload_n 0, 1) := by decide +kernel
theorem dX1_init_53 : decode cX1_init 53 = .ok (.iconst 0, 1) := by decide +kernel
theorem dX1_init_54 : decode cX1_init 54 = .ok (.putfield 34, 3) := by decide +kernel
theorem dX1_init_57 : decode cX1_init 57 = .ok (.aload_n 0, 1) := by decide +kernel
theorem dX1_init_58 : decode cX1_init 58 = .ok (.iconst 0, 1) := by decide +kernel
theorem dX1_init_59 : decode cX1_init 59 = .ok (.putfield 37, 3) := by decide +kernel
theorem dX1_init_62 : decode cX1_init 62 = .ok (.aload_n 0, 1) := by decide +kernel
theorem dX1_init_63 : decode cX1_init 63 = .ok (.iconst 3, 1) := by decide +kernel
theorem dX1_init_64 : decode cX1_init 64 = .ok (.putfield 40, 3) := by decide +kernel
theorem dX1_init_67 : decode cX1_init 67 = .ok (.return_, 1) := by decide +kernel
theorem dX1_clear_0 : decode cX1_clear 0 = .ok (.aload_n 0, 1) := by decide +kernel
theorem dX1_clear_1 : decode cX1_clear 1 = .ok (.iconst 4, 1) := by decide +kernel
theorem dX1_clear_2 : decode cX1_clear 2 = .ok (.putfield 27, 3) := by decide +kernel
theorem dX1_clear_5 : decode cX1_clear 5 = .ok (.aload_n 0, 1) := by decide +kernel
theorem dX1_clear_6 : decode cX1_clear 6 = .ok (.iconst 0, 1) := by decide +kernel
theorem dX1_clear_7 : decode cX1_clear 7 = .ok (.putfield 31, 3) := by decide +kernel
theorem dX1_clear_10 : decode cX1_clear 10 = .ok (.aload_n 0, 1) := by decide +kernel
theorem dX1_clear_11 : decode cX1_clear 11 = .ok (.iconst 0, 1) := by decide +kernel
theorem dX1_clear_12 : decode cX1_clear 12 = .ok (.putfield 34, 3) := by decide +kernel
theorem dX1_clear_15 : decode cX1_clear 15 = .ok (.aload_n 0, 1) := by decide +kernel
theorem dX1_clear_16 : decode cX1_clear 16 = .ok (.iconst 0, 1) := by decide +kernel
theorem dX1_clear_17 : decode cX1_clear 17 = .ok (.putfield 37, 3) := by decide +kernel
theorem dX1_clear_20 : decode cX1_clear 20 = .ok (.aload_n 0, 1) := by decide +kernel
theorem dX1_clear_21 : decode cX1_clear 21 = .ok (.iconst 3, 1) := by decide +kernel
theorem dX1_clear_22 : decode cX1_clear 22 = .ok (.putfield 40, 3) := by decide +kernel
theorem dX1_clear_25 : decode cX1_clear 25 = .ok (.return_, 1) := by decide +kernel
theorem dX1_isWhole_0 : decode cX1_isWhole 0 = .ok (.aload_n 0, 1) := by decide +kernel
theorem dX1_isWhole_1 : decode cX1_isWhole 1 = .ok (.getfield 31, 3) := by decide +kernel
theorem dX1_isWhole_4 : decode cX1_isWhole 4 = .ok (.aload_n 0, 1) := by decide +kernel
theorem dX1_isWhole_5 : decode cX1_isWhole 5 = .ok (.getfield 27, 3) := by decide +kernel
theorem dX1_isWhole_8 : decode cX1_isWhole 8 = .ok (.if_icmp .ne 14, 3) := by decide +kernel
theorem dX1_isWhole_11 : decode cX1_isWhole 11 = .ok (.aload_n 0, 1) := by decide +kernel
theorem dX1_isWhole_12 : decode cX1_isWhole 12 = .ok (.getfield 34, 3) := by decide +kernel
theorem dX1_isWhole_15 : decode cX1_isWhole 15 = .ok (.ifCond .le 7, 3) := by decide +kernel
theorem dX1_isWhole_18 : decode cX1_isWhole 18 = .ok (.iconst 1, 1) := by decide +kernel
theorem dX1_isWhole_19 : decode cX1_isWhole 19 = .ok (.goto 4, 3) := by decide +kernel
theorem dX1_isWhole_22 : decode cX1_isWhole 22 = .ok (.iconst 0, 1) := by decide +kernel
theorem dX1_isWhole_23 : decode cX1_isWhole 23 = .ok (.ireturn, 1) := by decide +kernel
theorem dX1_copyFrom_0 : decode cX1_copyFrom 0 = .ok (.aload_n 1, 1) := by decide +kernel
theorem dX1_copyFrom_1 : decode cX1_copyFrom 1 = .ok (.getfield 9, 3) := by decide +kernel
theorem dX1_copyFrom_4 : decode cX1_copyFrom 4 = .ok (.iconst 0, 1) := by decide +kernel
theorem dX1_copyFrom_5 : decode cX1_copyFrom 5 = .ok (.aload_n 0, 1) := by decide +kernel
theorem dX1_copyFrom_6 : decode cX1_copyFrom 6 = .ok (.getfield 9, 3) := by decide +kernel
theorem dX1_copyFrom_9 : decode cX1_copyFrom 9 = .ok (.iconst 0, 1) := by decide +kernel
theorem dX1_copyFrom_10 : decode cX1_copyFrom 10 = .ok (.aload_n 0, 1) := by decide +kernel
theorem dX1_copyFrom_11 : decode cX1_copyFrom 11 = .ok (.getfield 9, 3) := by decide +kernel
theorem dX1_copyFrom_14 : decode cX1_copyFrom 14 = .ok (.arraylength, 1) := by decide +kernel
theorem dX1_copyFrom_15 : decode cX1_copyFrom 15 = .ok (.invokestatic 43, 3) := by decide +kernel
theorem dX1_copyFrom_18 : decode cX1_copyFrom 18 = .ok (.aload_n 1, 1) := by decide +kernel
theorem dX1_copyFrom_19 : decode cX1_copyFrom 19 = .ok (.getfield 15, 3) := by decide +kernel
theorem dX1_copyFrom_22 : decode cX1_copyFrom 22 = .ok (.iconst 0, 1) := by decide +kernel
theorem dX1_copyFrom_23 : decode cX1_copyFrom 23 = .ok (.aload_n 0, 1) := by decide +kernel
theorem dX1_copyFrom_24 : decode cX1_copyFrom 24 = .ok (.getfield 15, 3) := by decide +kernel
theorem dX1_copyFrom_27 : decode cX1_copyFrom 27 = .ok (.iconst 0, 1) := by decide +kernel
theorem dX1_copyFrom_28 : decode cX1_copyFrom 28 = .ok (.aload_n 0, 1) := by decide +kernel
theorem dX1_copyFrom_29 : decode cX1_copyFrom 29 = .ok (.getfield 15, 3) := by decide +kernel
theorem dX1_copyFrom_32 : decode cX1_copyFrom 32 = .ok (.arraylength, 1) := by decide +kernel
theorem dX1_copyFrom_33 : decode cX1_copyFrom 33 = .ok (.invokestatic 43, 3) := by decide +kernel
theorem dX1_copyFrom_36 : decode cX1_copyFrom 36 = .ok (.aload_n 1, 1) := by decide +kernel
theorem dX1_copyFrom_37 : decode cX1_copyFrom 37 = .ok (.getfield 18, 3) := by decide +kernel
theorem dX1_copyFrom_40 : decode cX1_copyFrom 40 = .ok (.iconst 0, 1) := by decide +kernel
theorem dX1_copyFrom_41 : decode cX1_copyFrom 41 = .ok (.aload_n 0, 1) := by decide +kernel
theorem dX1_copyFrom_42 : decode cX1_copyFrom 42 = .ok (.getfield 18, 3) := by decide +kernel
theorem dX1_copyFrom_45 : decode cX1_copyFrom 45 = .ok (.iconst 0, 1) := by decide +kernel
theorem dX1_copyFrom_46 : decode cX1_copyFrom 46 = .ok (.aload_n 0, 1) := by decide +kernel
theorem dX1_copyFrom_47 : decode cX1_copyFrom 47 = .ok (.getfield 18, 3) := by decide +kernel
theorem dX1_copyFrom_50 : decode cX1_copyFrom 50 = .ok (.arraylength, 1) := by decide +kernel
theorem dX1_copyFrom_51 : decode cX1_copyFrom 51 = .ok (.invokestatic 43, 3) := by decide +kernel
theorem dX1_copyFrom_54 : decode cX1_copyFrom 54 = .ok (.aload_n 1, 1) := by decide +kernel
theorem dX1_copyFrom_55 : decode cX1_copyFrom 55 = .ok (.getfield 21, 3) := by decide +kernel
theorem dX1_copyFrom_58 : decode cX1_copyFrom 58 = .ok (.iconst 0, 1) := by decide +kernel
theorem dX1_copyFrom_59 : decode cX1_copyFrom 59 = .ok (.aload_n 0, 1) := by decide +kernel
theorem dX1_copyFrom_60 : decode cX1_copyFrom 60 = .ok (.getfield 21, 3) := by decide +kernel
theorem dX1_copyFrom_63 : decode cX1_copyFrom 63 = .ok (.iconst 0, 1) := by decide +kernel
theorem dX1_copyFrom_64 : decode cX1_copyFrom 64 = .ok (.aload_n 0, 1) := by decide +kernel
theorem dX1_copyFrom_65 : decode cX1_copyFrom 65 = .ok (.getfield 21, 3) := by decide +kernel
theorem dX1_copyFrom_68 : decode cX1_copyFrom 68 = .ok (.arraylength, 1) := by decide +kernel
theorem dX1_copyFrom_69 : decode cX1_copyFrom 69 = .ok (.invokestatic 43, 3) := by decide +kernel
theorem dX1_copyFrom_72 : decode cX1_copyFrom 72 = .ok (.aload_n 1, 1) := by decide +kernel
theorem dX1_copyFrom_73 : decode cX1_copyFrom 73 = .ok (.getfield 24, 3) := by decide +kernel
theorem dX1_copyFrom_76 : decode cX1_copyFrom 76 = .ok (.iconst 0, 1) := by decide +kernel
theorem dX1_copyFrom_77 : decode cX1_copyFrom 77 = .ok (.aload_n 0, 1) := by decide +kernel
theorem dX1_copyFrom_78 : decode cX1_copyFrom 78 = .ok (.getfield 24, 3) := by decide +kernel
theorem dX1_copyFrom_81 : decode cX1_copyFrom 81 = .ok (.iconst 0, 1) := by decide +kernel
theorem dX1_copyFrom_82 : decode cX1_copyFrom 82 = .ok (.aload_n 0, 1) := by decide +kernel
theorem dX1_copyFrom_83 : decode cX1_copyFrom 83 = .ok (.getfield 24, 3) := by decide +kernel
theorem dX1_copyFrom_86 : decode cX1_copyFrom 86 = .ok (.arraylength, 1) := by decide +kernel
theorem dX1_copyFrom_87 : decode cX1_copyFrom 87 = .ok (.invokestatic 43, 3) := by decide +kernel
theorem dX1_copyFrom_90 : decode cX1_copyFrom 90 = .ok (.aload_n 0, 1) := by decide +kernel
theorem dX1_copyFrom_91 : decode cX1_copyFrom 91 = .ok (.aload_n 1, 1) := by decide +kernel
theorem dX1_copyFrom_92 : decode cX1_copyFrom 92 = .ok (.getfield 27, 3) := by decide +kernel
theorem dX1_copyFrom_95 : decode cX1_copyFrom 95 = .ok (.putfield 27, 3) := by decide +kernel
theorem dX1_copyFrom_98 : decode cX1_copyFrom 98 = .ok (.aload_n 0, 1) := by decide +kernel
theorem dX1_copyFrom_99 : decode cX1_copyFrom 99 = .ok (.aload_n 1, 1) := by decide +kernel
theorem dX1_copyFrom_100 : decode cX1_copyFrom 100 = .ok (.getfield 31, 3) := by decide +kernel
theorem dX1_copyFrom_103 : decode cX1_copyFrom 103 = .ok (.putfield 31, 3) := by decide +kernel
theorem dX1_copyFrom_106 : decode cX1_copyFrom 106 = .ok (.aload_n 0, 1) := by decide +kernel
theorem dX1_copyFrom_107 : decode cX1_copyFrom 107 = .ok (.aload_n 1, 1) := by decide +kernel
theorem dX1_copyFrom_108 : decode cX1_copyFrom 108 = .ok (.getfield 34, 3) := by decide +kernel
theorem dX1_copyFrom_111 : decode cX1_copyFrom 111 = .ok (.putfield 34, 3) := by decide +kernel
theorem dX1_copyFrom_114 : decode cX1_copyFrom 114 = .ok (.aload_n 0, 1) := by decide +kernel
theorem dX1_copyFrom_115 : decode cX1_copyFrom 115 = .ok (.aload_n 1, 1) := by decide +kernel
theorem dX1_copyFrom_116 : decode cX1_copyFrom 116 = .ok (.getfield 37, 3) := by decide +kernel
theorem dX1_copyFrom_119 : decode cX1_copyFrom 119 = .ok (.putfield 37, 3) := by decide +kernel
theorem dX1_copyFrom_122 : decode cX1_copyFrom 122 = .ok (.aload_n 0, 1) := by decide +kernel
theorem dX1_copyFrom_123 : decode cX1_copyFrom 123 = .ok (.aload_n 1, 1) := by decide +kernel
theorem dX1_copyFrom_124 : decode cX1_copyFrom 124 = .ok (.getfield 40, 3) := by decide +kernel
theorem dX1_copyFrom_127 : decode cX1_copyFrom 127 = .ok (.putfield 40, 3) := by decide +kernel
theorem dX1_copyFrom_130 : decode cX1_copyFrom 130 = .ok (.return_, 1) := by decide +kernel
theorem dX1_rankOf_0 : decode cX1_rankOf 0 = .ok (.iconst 0, 1) := by decide +kernel
theorem dX1_rankOf_1 : decode cX1_rankOf 1 = .ok (.istore_n 2, 1) := by decide +kernel
theorem dX1_rankOf_2 : decode cX1_rankOf 2 = .ok (.iconst 0, 1) := by decide +kernel
theorem dX1_rankOf_3 : decode cX1_rankOf 3 = .ok (.istore_n 3, 1) := by decide +kernel
theorem dX1_rankOf_4 : decode cX1_rankOf 4 = .ok (.iload_n 3, 1) := by decide +kernel
theorem dX1_rankOf_5 : decode cX1_rankOf 5 = .ok (.aload_n 0, 1) := by decide +kernel
theorem dX1_rankOf_6 : decode cX1_rankOf 6 = .ok (.getfield 37, 3) := by decide +kernel
theorem dX1_rankOf_9 : decode cX1_rankOf 9 = .ok (.if_icmp .ge 71, 3) := by decide +kernel
theorem dX1_rankOf_12 : decode cX1_rankOf 12 = .ok (.aload_n 0, 1) := by decide +kernel
theorem dX1_rankOf_13 : decode cX1_rankOf 13 = .ok (.getfield 24, 3) := by decide +kernel
theorem dX1_rankOf_16 : decode cX1_rankOf 16 = .ok (.iload_n 3, 1) := by decide +kernel
theorem dX1_rankOf_17 : decode cX1_rankOf 17 = .ok (.iaload, 1) := by decide +kernel
theorem dX1_rankOf_18 : decode cX1_rankOf 18 = .ok (.aload_n 0, 1) := by decide +kernel
theorem dX1_rankOf_19 : decode cX1_rankOf 19 = .ok (.getfield 24, 3) := by decide +kernel
theorem dX1_rankOf_22 : decode cX1_rankOf 22 = .ok (.iload_n 1, 1) := by decide +kernel
theorem dX1_rankOf_23 : decode cX1_rankOf 23 = .ok (.iaload, 1) := by decide +kernel
theorem dX1_rankOf_24 : decode cX1_rankOf 24 = .ok (.if_icmp .le 7, 3) := by decide +kernel
theorem dX1_rankOf_27 : decode cX1_rankOf 27 = .ok (.iconst 1, 1) := by decide +kernel
theorem dX1_rankOf_28 : decode cX1_rankOf 28 = .ok (.goto 4, 3) := by decide +kernel
theorem dX1_rankOf_31 : decode cX1_rankOf 31 = .ok (.iconst 0, 1) := by decide +kernel
theorem dX1_rankOf_32 : decode cX1_rankOf 32 = .ok (.istore 4, 2) := by decide +kernel
theorem dX1_rankOf_34 : decode cX1_rankOf 34 = .ok (.aload_n 0, 1) := by decide +kernel
theorem dX1_rankOf_35 : decode cX1_rankOf 35 = .ok (.getfield 24, 3) := by decide +kernel
theorem dX1_rankOf_38 : decode cX1_rankOf 38 = .ok (.iload_n 3, 1) := by decide +kernel
theorem dX1_rankOf_39 : decode cX1_rankOf 39 = .ok (.iaload, 1) := by decide +kernel
theorem dX1_rankOf_40 : decode cX1_rankOf 40 = .ok (.aload_n 0, 1) := by decide +kernel
theorem dX1_rankOf_41 : decode cX1_rankOf 41 = .ok (.getfield 24, 3) := by decide +kernel
theorem dX1_rankOf_44 : decode cX1_rankOf 44 = .ok (.iload_n 1, 1) := by decide +kernel
theorem dX1_rankOf_45 : decode cX1_rankOf 45 = .ok (.iaload, 1) := by decide +kernel
theorem dX1_rankOf_46 : decode cX1_rankOf 46 = .ok (.if_icmp .ne 12, 3) := by decide +kernel
theorem dX1_rankOf_49 : decode cX1_rankOf 49 = .ok (.iload_n 3, 1) := by decide +kernel
theorem dX1_rankOf_50 : decode cX1_rankOf 50 = .ok (.iload_n 1, 1) := by decide +kernel
theorem dX1_rankOf_51 : decode cX1_rankOf 51 = .ok (.if_icmp .ge 7, 3) := by decide +kernel
theorem dX1_rankOf_54 : decode cX1_rankOf 54 = .ok (.iconst 1, 1) := by decide +kernel
theorem dX1_rankOf_55 : decode cX1_rankOf 55 = .ok (.goto 4, 3) := by decide +kernel
theorem dX1_rankOf_58 : decode cX1_rankOf 58 = .ok (.iconst 0, 1) := by decide +kernel
theorem dX1_rankOf_59 : decode cX1_rankOf 59 = .ok (.istore 5, 2) := by decide +kernel
theorem dX1_rankOf_61 : decode cX1_rankOf 61 = .ok (.iload 4, 2) := by decide +kernel
theorem dX1_rankOf_63 : decode cX1_rankOf 63 = .ok (.ifCond .ne 8, 3) := by decide +kernel
theorem dX1_rankOf_66 : decode cX1_rankOf 66 = .ok (.iload 5, 2) := by decide +kernel
theorem dX1_rankOf_68 : decode cX1_rankOf 68 = .ok (.ifCond .eq 6, 3) := by decide +kernel
theorem dX1_rankOf_71 : decode cX1_rankOf 71 = .ok (.iinc 2 1, 3) := by decide +kernel
theorem dX1_rankOf_74 : decode cX1_rankOf 74 = .ok (.iinc 3 1, 3) := by decide +kernel
theorem dX1_rankOf_77 : decode cX1_rankOf 77 = .ok (.goto (-73), 3) := by decide +kernel
theorem dX1_rankOf_80 : decode cX1_rankOf 80 = .ok (.iload_n 2, 1) := by decide +kernel
theorem dX1_rankOf_81 : decode cX1_rankOf 81 = .ok (.ireturn, 1) := by decide +kernel
theorem dX1_allParts_0 : decode cX1_allParts 0 = .ok (.iconst 0, 1) := by decide +kernel
theorem dX1_allParts_1 : decode cX1_allParts 1 = .ok (.istore_n 1, 1) := by decide +kernel
theorem dX1_allParts_2 : decode cX1_allParts 2 = .ok (.iconst 0, 1) := by decide +kernel
theorem dX1_allParts_3 : decode cX1_allParts 3 = .ok (.istore_n 2, 1) := by decide +kernel
theorem dX1_allParts_4 : decode cX1_allParts 4 = .ok (.iload_n 2, 1) := by decide +kernel
theorem dX1_allParts_5 : decode cX1_allParts 5 = .ok (.aload_n 0, 1) := by decide +kernel
theorem dX1_allParts_6 : decode cX1_allParts 6 = .ok (.getfield 37, 3) := by decide +kernel
theorem dX1_allParts_9 : decode cX1_allParts 9 = .ok (.if_icmp .ge 18, 3) := by decide +kernel
theorem dX1_allParts_12 : decode cX1_allParts 12 = .ok (.iload_n 1, 1) := by decide +kernel
theorem dX1_allParts_13 : decode cX1_allParts 13 = .ok (.aload_n 0, 1) := by decide +kernel
theorem dX1_allParts_14 : decode cX1_allParts 14 = .ok (.getfield 24, 3) := by decide +kernel
theorem dX1_allParts_17 : decode cX1_allParts 17 = .ok (.iload_n 2, 1) := by decide +kernel
theorem dX1_allParts_18 : decode cX1_allParts 18 = .ok (.iaload, 1) := by decide +kernel
theorem dX1_allParts_19 : decode cX1_allParts 19 = .ok (.iadd, 1) := by decide +kernel
theorem dX1_allParts_20 : decode cX1_allParts 20 = .ok (.istore_n 1, 1) := by decide +kernel
theorem dX1_allParts_21 : decode cX1_allParts 21 = .ok (.iinc 2 1, 3) := by decide +kernel
theorem dX1_allParts_24 : decode cX1_allParts 24 = .ok (.goto (-20), 3) := by decide +kernel
theorem dX1_allParts_27 : decode cX1_allParts 27 = .ok (.iload_n 1, 1) := by decide +kernel
theorem dX1_allParts_28 : decode cX1_allParts 28 = .ok (.ireturn, 1) := by decide +kernel
theorem dX2_init_0 : decode cX2_init 0 = .ok (.aload_n 0, 1) := by decide +kernel
theorem dX2_init_1 : decode cX2_init 1 = .ok (.invokespecial 3, 3) := by decide +kernel
theorem dX2_init_4 : decode cX2_init 4 = .ok (.aload_n 0, 1) := by decide +kernel
theorem dX2_init_5 : decode cX2_init 5 = .ok (.iconst 0, 1) := by decide +kernel
theorem dX2_init_6 : decode cX2_init 6 = .ok (.putfield 9, 3) := by decide +kernel
theorem dX2_init_9 : decode cX2_init 9 = .ok (.aload_n 0, 1) := by decide +kernel
theorem dX2_init_10 : decode cX2_init 10 = .ok (.iconst 1, 1) := by decide +kernel
theorem dX2_init_11 : decode cX2_init 11 = .ok (.putfield 15, 3) := by decide +kernel
theorem dX2_init_14 : decode cX2_init 14 = .ok (.aload_n 0, 1) := by decide +kernel
theorem dX2_init_15 : decode cX2_init 15 = .ok (.aload_n 1, 1) := by decide +kernel
theorem dX2_init_16 : decode cX2_init 16 = .ok (.putfield 19, 3) := by decide +kernel
theorem dX2_init_19 : decode cX2_init 19 = .ok (.aload_n 0, 1) := by decide +kernel
theorem dX2_init_20 : decode cX2_init 20 = .ok (.aload_n 2, 1) := by decide +kernel
theorem dX2_init_21 : decode cX2_init 21 = .ok (.putfield 23, 3) := by decide +kernel
theorem dX2_init_24 : decode cX2_init 24 = .ok (.return_, 1) := by decide +kernel
theorem gX2_findFault_X1_clear : GoodIn wsX2_findFault (wsV RX2 27 RX1 yX1_clear wsX1_clear) := gwV aw_158 aw_159 aw_160 aw_15 aw_161
theorem gX2_findFault_X0_signAt : GoodIn wsX2_findFault (wsV RX2 37 RX0 yX0_signAt wsX0_signAt) := gwV aw_162 aw_163 aw_164 aw_11 aw_165
theorem gX2_findFault_X2_readBody : GoodIn wsX2_findFault (wsV RX2 41 RX2 yX2_readBody wsX2_readBody) := gwV aw_166 aw_167 aw_168 aw_19 aw_169
theorem gX2_findFault_X2_take : GoodIn wsX2_findFault (wsV RX2 45 RX2 yX2_take wsX2_take) := gwV aw_199 aw_200 aw_201 aw_19 aw_202
theorem dX2_findFault_0 : decode cX2_findFault 0 = .ok (.aload_n 0, 1) := by decide +kernel
theorem dX2_findFault_1 : decode cX2_findFault 1 = .ok (.getfield 23, 3) := by decide +kernel
theorem dX2_findFault_4 : decode cX2_findFault 4 = .ok (.invokevirtual 27, 3) := by decide +kernel
theorem dX2_findFault_7 : decode cX2_findFault 7 = .ok (.aload_n 0, 1) := by decide +kernel
theorem dX2_findFault_8 : decode cX2_findFault 8 = .ok (.iconst 0, 1) := by decide +kernel
theorem dX2_findFault_9 : decode cX2_findFault 9 = .ok (.putfield 9, 3) := by decide +kernel
theorem dX2_findFault_12 : decode cX2_findFault 12 = .ok (.aload_n 0, 1) := by decide +kernel
theorem dX2_findFault_13 : decode cX2_findFault 13 = .ok (.iconst 1, 1) := by decide +kernel
theorem dX2_findFault_14 : decode cX2_findFault 14 = .ok (.putfield 15, 3) := by decide +kernel
theorem dX2_findFault_17 : decode cX2_findFault 17 = .ok (.iconst 0, 1) := by decide +kernel
theorem dX2_findFault_18 : decode cX2_findFault 18 = .ok (.istore_n 1, 1) := by decide +kernel
theorem dX2_findFault_19 : decode cX2_findFault 19 = .ok (.iload_n 1, 1) := by decide +kernel
theorem dX2_findFault_20 : decode cX2_findFault 20 = .ok (.sipush 200, 3) := by decide +kernel
theorem dX2_findFault_23 : decode cX2_findFault 23 = .ok (.if_icmp .ge 64, 3) := by decide +kernel
theorem dX2_findFault_26 : decode cX2_findFault 26 = .ok (.aload_n 0, 1) := by decide +kernel
theorem dX2_findFault_27 : decode cX2_findFault 27 = .ok (.getfield 9, 3) := by decide +kernel
theorem dX2_findFault_30 : decode cX2_findFault 30 = .ok (.aload_n 0, 1) := by decide +kernel
theorem dX2_findFault_31 : decode cX2_findFault 31 = .ok (.getfield 19, 3) := by decide +kernel
theorem dX2_findFault_34 : decode cX2_findFault 34 = .ok (.getfield 32, 3) := by decide +kernel
theorem dX2_findFault_37 : decode cX2_findFault 37 = .ok (.if_icmp .ge 50, 3) := by decide +kernel
theorem dX2_findFault_40 : decode cX2_findFault 40 = .ok (.aload_n 0, 1) := by decide +kernel
theorem dX2_findFault_41 : decode cX2_findFault 41 = .ok (.getfield 9, 3) := by decide +kernel
theorem dX2_findFault_44 : decode cX2_findFault 44 = .ok (.istore_n 2, 1) := by decide +kernel
theorem dX2_findFault_45 : decode cX2_findFault 45 = .ok (.aload_n 0, 1) := by decide +kernel
theorem dX2_findFault_46 : decode cX2_findFault 46 = .ok (.dup, 1) := by decide +kernel
theorem dX2_findFault_47 : decode cX2_findFault 47 = .ok (.getfield 9, 3) := by decide +kernel
theorem dX2_findFault_50 : decode cX2_findFault 50 = .ok (.iconst 1, 1) := by decide +kernel
theorem dX2_findFault_51 : decode cX2_findFault 51 = .ok (.iadd, 1) := by decide +kernel
theorem dX2_findFault_52 : decode cX2_findFault 52 = .ok (.putfield 9, 3) := by decide +kernel
theorem dX2_findFault_55 : decode cX2_findFault 55 = .ok (.aload_n 0, 1) := by decide +kernel
theorem dX2_findFault_56 : decode cX2_findFault 56 = .ok (.aload_n 0, 1) := by decide +kernel
theorem dX2_findFault_57 : decode cX2_findFault 57 = .ok (.getfield 19, 3) := by decide +kernel
theorem dX2_findFault_60 : decode cX2_findFault 60 = .ok (.iload_n 2, 1) := by decide +kernel
theorem dX2_findFault_61 : decode cX2_findFault 61 = .ok (.invokevirtual 37, 3) := by decide +kernel
theorem dX2_findFault_64 : decode cX2_findFault 64 = .ok (.invokevirtual 41, 3) := by decide +kernel
theorem dX2_findFault_67 : decode cX2_findFault 67 = .ok (.ifCond .eq 12, 3) := by decide +kernel
theorem dX2_findFault_70 : decode cX2_findFault 70 = .ok (.aload_n 0, 1) := by decide +kernel
theorem dX2_findFault_71 : decode cX2_findFault 71 = .ok (.bipush 59, 2) := by decide +kernel
theorem dX2_findFault_73 : decode cX2_findFault 73 = .ok (.invokevirtual 45, 3) := by decide +kernel
theorem dX2_findFault_76 : decode cX2_findFault 76 = .ok (.ifCond .ne 5, 3) := by decide +kernel
theorem dX2_findFault_79 : decode cX2_findFault 79 = .ok (.iload_n 2, 1) := by decide +kernel
theorem dX2_findFault_80 : decode cX2_findFault 80 = .ok (.ireturn, 1) := by decide +kernel
theorem dX2_findFault_81 : decode cX2_findFault 81 = .ok (.iinc 1 1, 3) := by decide +kernel
theorem dX2_findFault_84 : decode cX2_findFault 84 = .ok (.goto (-65), 3) := by decide +kernel
theorem dX2_findFault_87 : decode cX2_findFault 87 = .ok (.bipush (-4), 2) := by decide +kernel
theorem dX2_findFault_89 : decode cX2_findFault 89 = .ok (.ireturn, 1) := by decide +kernel
theorem gX2_readBody_X2_readPersons : GoodIn wsX2_readBody (wsV RX2 48 RX2 yX2_readPersons wsX2_readPersons) := gwV aw_170 aw_171 aw_172 aw_19 aw_173
theorem gX2_readBody_X2_readPerson : GoodIn wsX2_readBody (wsV RX2 52 RX2 yX2_readPerson wsX2_readPerson) := gwV aw_183 aw_184 aw_185 aw_19 aw_186
theorem gX2_readBody_X2_readDoor : GoodIn wsX2_readBody (wsV RX2 55 RX2 yX2_readDoor wsX2_readDoor) := gwV aw_192 aw_193 aw_194 aw_19 aw_195
theorem gX2_readBody_X2_readWord : GoodIn wsX2_readBody (wsV RX2 58 RX2 yX2_readWord wsX2_readWord) := gwV aw_207 aw_208 aw_209 aw_19 aw_210
theorem gX2_readBody_X2_readLimit : GoodIn wsX2_readBody (wsV RX2 61 RX2 yX2_readLimit wsX2_readLimit) := gwV aw_213 aw_214 aw_215 aw_19 aw_216
theorem dX2_readBody_0 : decode cX2_readBody 0 = .ok (.iload_n 1, 1) := by decide +kernel
theorem dX2_readBody_1 : decode cX2_readBody 1 = .ok (.bipush 110, 2) := by decide +kernel
theorem dX2_readBody_3 : decode cX2_readBody 3 = .ok (.if_icmp .eq 8, 3) := by decide +kernel
theorem dX2_readBody_6 : decode cX2_readBody 6 = .ok (.aload_n 0, 1) := by decide +kernel
theorem dX2_readBody_7 : decode cX2_readBody 7 = .ok (.iconst 0, 1) := by decide +kernel
theorem dX2_readBody_8 : decode cX2_readBody 8 = .ok (.putfield 15, 3) := by decide +kernel
theorem dX2_readBody_11 : decode cX2_readBody 11 = .ok (.iload_n 1, 1) := by decide +kernel
theorem dX2_readBody_12 : decode cX2_readBody 12 = .ok (.lookupswitch 77 #[(98, 72), (100, 62), (110, 52), (112, 57), (119, 67)], 52) := by decide +kernel
theorem dX2_readBody_64 : decode cX2_readBody 64 = .ok (.aload_n 0, 1) := by decide +kernel
theorem dX2_readBody_65 : decode cX2_readBody 65 = .ok (.invokevirtual 48, 3) := by decide +kernel
theorem dX2_readBody_68 : decode cX2_readBody 68 = .ok (.ireturn, 1) := by decide +kernel
theorem dX2_readBody_69 : decode cX2_readBody 69 = .ok (.aload_n 0, 1) := by decide +kernel
theorem dX2_readBody_70 : decode cX2_readBody 70 = .ok (.invokevirtual 52, 3) := by decide +kernel
theorem dX2_readBody_73 : decode cX2_readBody 73 = .ok (.ireturn, 1) := by decide +kernel
theorem dX2_readBody_74 : decode cX2_readBody 74 = .ok (.aload_n 0, 1) := by decide +kernel
theorem dX2_readBody_75 : decode cX2_readBody 75 = .ok (.invokevirtual 55, 3) := by decide +kernel
theorem dX2_readBody_78 : decode cX2_readBody 78 = .ok (.ireturn, 1) := by decide +kernel
theorem dX2_readBody_79 : decode cX2_readBody 79 = .ok (.aload_n 0, 1) := by decide +kernel
theorem dX2_readBody_80 : decode cX2_readBody 80 = .ok (.invokevirtual 58, 3) := by decide +kernel
theorem dX2_readBody_83 : decode cX2_readBody 83 = .ok (.ireturn, 1) := by decide +kernel
theorem dX2_readBody_84 : decode cX2_readBody 84 = .ok (.aload_n 0, 1) := by decide +kernel
theorem dX2_readBody_85 : decode cX2_readBody 85 = .ok (.invokevirtual 61, 3) := by decide +kernel
theorem dX2_readBody_88 : decode cX2_readBody 88 = .ok (.ireturn, 1) := by decide +kernel
theorem dX2_readBody_89 : decode cX2_readBody 89 = .ok (.iconst 0, 1) := by decide +kernel
theorem dX2_readBody_90 : decode cX2_readBody 90 = .ok (.ireturn, 1) := by decide +kernel
theorem gX2_readPersons_X2_number : GoodIn wsX2_readPersons (wsV RX2 64 RX2 yX2_number wsX2_number) := gwV aw_175 aw_176 aw_177 aw_19 aw_178
theorem dX2_readPersons_0 : decode cX2_readPersons 0 = .ok (.aload_n 0, 1) := by decide +kernel
theorem dX2_readPersons_1 : decode cX2_readPersons 1 = .ok (.invokevirtual 64, 3) := by decide +kernel
theorem dX2_readPersons_4 : decode cX2_readPersons 4 = .ok (.istore_n 1, 1) := by decide +kernel
theorem dX2_readPersons_5 : decode cX2_readPersons 5 = .ok (.aload_n 0, 1) := by decide +kernel
theorem dX2_readPersons_6 : decode cX2_readPersons 6 = .ok (.getfield 15, 3) := by decide +kernel
theorem dX2_readPersons_9 : decode cX2_readPersons 9 = .ok (.ifCond .eq 14, 3) := by decide +kernel
theorem dX2_readPersons_12 : decode cX2_readPersons 12 = .ok (.iload_n 1, 1) := by decide +kernel
theorem dX2_readPersons_13 : decode cX2_readPersons 13 = .ok (.iconst 2, 1) := by decide +kernel
theorem dX2_readPersons_14 : decode cX2_readPersons 14 = .ok (.if_icmp .lt 9, 3) := by decide +kernel
theorem dX2_readPersons_17 : decode cX2_readPersons 17 = .ok (.iload_n 1, 1) := by decide +kernel
theorem dX2_readPersons_18 : decode cX2_readPersons 18 = .ok (.bipush 8, 2) := by decide +kernel
theorem dX2_readPersons_20 : decode cX2_readPersons 20 = .ok (.if_icmp .le 5, 3) := by decide +kernel
theorem dX2_readPersons_23 : decode cX2_readPersons 23 = .ok (.iconst 0, 1) := by decide +kernel
theorem dX2_readPersons_24 : decode cX2_readPersons 24 = .ok (.ireturn, 1) := by decide +kernel
theorem dX2_readPersons_25 : decode cX2_readPersons 25 = .ok (.aload_n 0, 1) := by decide +kernel
theorem dX2_readPersons_26 : decode cX2_readPersons 26 = .ok (.getfield 23, 3) := by decide +kernel
theorem dX2_readPersons_29 : decode cX2_readPersons 29 = .ok (.iload_n 1, 1) := by decide +kernel
theorem dX2_readPersons_30 : decode cX2_readPersons 30 = .ok (.putfield 68, 3) := by decide +kernel
theorem dX2_readPersons_33 : decode cX2_readPersons 33 = .ok (.iconst 1, 1) := by decide +kernel
theorem dX2_readPersons_34 : decode cX2_readPersons 34 = .ok (.ireturn, 1) := by decide +kernel
theorem gX2_readPerson_X2_figure : GoodIn wsX2_readPerson (wsV RX2 71 RX2 yX2_figure wsX2_figure) := gwV aw_179 aw_180 aw_181 aw_19 aw_182
theorem gX2_readPerson_X7_pair_n81 : GoodIn wsX2_readPerson wsX7_pair := gwc aw_191
theorem dX2_readPerson_0 : decode cX2_readPerson 0 = .ok (.aload_n 0, 1) := by decide +kernel
theorem dX2_readPerson_1 : decode cX2_readPerson 1 = .ok (.invokevirtual 71, 3) := by decide +kernel
theorem dX2_readPerson_4 : decode cX2_readPerson 4 = .ok (.istore_n 1, 1) := by decide +kernel
theorem dX2_readPerson_5 : decode cX2_readPerson 5 = .ok (.aload_n 0, 1) := by decide +kernel
theorem dX2_readPerson_6 : decode cX2_readPerson 6 = .ok (.getfield 23, 3) := by decide +kernel
theorem dX2_readPerson_9 : decode cX2_readPerson 9 = .ok (.getfield 74, 3) := by decide +kernel
theorem dX2_readPerson_12 : decode cX2_readPerson 12 = .ok (.istore_n 2, 1) := by decide +kernel
theorem dX2_readPerson_13 : decode cX2_readPerson 13 = .ok (.iload_n 2, 1) := by decide +kernel
theorem dX2_readPerson_14 : decode cX2_readPerson 14 = .ok (.aload_n 0, 1) := by decide +kernel
theorem dX2_readPerson_15 : decode cX2_readPerson 15 = .ok (.getfield 23, 3) := by decide +kernel
theorem dX2_readPerson_18 : decode cX2_readPerson 18 = .ok (.getfield 68, 3) := by decide +kernel
theorem dX2_readPerson_21 : decode cX2_readPerson 21 = .ok (.if_icmp .ge 12, 3) := by decide +kernel
theorem dX2_readPerson_24 : decode cX2_readPerson 24 = .ok (.iload_n 1, 1) := by decide +kernel
theorem dX2_readPerson_25 : decode cX2_readPerson 25 = .ok (.ifCond .lt 8, 3) := by decide +kernel
theorem dX2_readPerson_28 : decode cX2_readPerson 28 = .ok (.iload_n 1, 1) := by decide +kernel
theorem dX2_readPerson_29 : decode cX2_readPerson 29 = .ok (.iconst 3, 1) := by decide +kernel
theorem dX2_readPerson_30 : decode cX2_readPerson 30 = .ok (.if_icmp .le 5, 3) := by decide +kernel
theorem dX2_readPerson_33 : decode cX2_readPerson 33 = .ok (.iconst 0, 1) := by decide +kernel
theorem dX2_readPerson_34 : decode cX2_readPerson 34 = .ok (.ireturn, 1) := by decide +kernel
theorem dX2_readPerson_35 : decode cX2_readPerson 35 = .ok (.iconst 0, 1) := by decide +kernel
theorem dX2_readPerson_36 : decode cX2_readPerson 36 = .ok (.istore_n 3, 1) := by decide +kernel
theorem dX2_readPerson_37 : decode cX2_readPerson 37 = .ok (.iload_n 3, 1) := by decide +kernel
theorem dX2_readPerson_38 : decode cX2_readPerson 38 = .ok (.aload_n 0, 1) := by decide +kernel
theorem dX2_readPerson_39 : decode cX2_readPerson 39 = .ok (.getfield 23, 3) := by decide +kernel
theorem dX2_readPerson_42 : decode cX2_readPerson 42 = .ok (.getfield 68, 3) := by decide +kernel
theorem dX2_readPerson_45 : decode cX2_readPerson 45 = .ok (.if_icmp .ge 37, 3) := by decide +kernel
theorem dX2_readPerson_48 : decode cX2_readPerson 48 = .ok (.aload_n 0, 1) := by decide +kernel
theorem dX2_readPerson_49 : decode cX2_readPerson 49 = .ok (.invokevirtual 71, 3) := by decide +kernel
theorem dX2_readPerson_52 : decode cX2_readPerson 52 = .ok (.istore 4, 2) := by decide +kernel
theorem dX2_readPerson_54 : decode cX2_readPerson 54 = .ok (.iload 4, 2) := by decide +kernel
theorem dX2_readPerson_56 : decode cX2_readPerson 56 = .ok (.ifCond .ge 5, 3) := by decide +kernel
theorem dX2_readPerson_59 : decode cX2_readPerson 59 = .ok (.iconst 0, 1) := by decide +kernel
theorem dX2_readPerson_60 : decode cX2_readPerson 60 = .ok (.ireturn, 1) := by decide +kernel
theorem dX2_readPerson_61 : decode cX2_readPerson 61 = .ok (.aload_n 0, 1) := by decide +kernel
theorem dX2_readPerson_62 : decode cX2_readPerson 62 = .ok (.getfield 23, 3) := by decide +kernel
theorem dX2_readPerson_65 : decode cX2_readPerson 65 = .ok (.getfield 77, 3) := by decide +kernel
theorem dX2_readPerson_68 : decode cX2_readPerson 68 = .ok (.iload_n 2, 1) := by decide +kernel
theorem dX2_readPerson_69 : decode cX2_readPerson 69 = .ok (.iload_n 3, 1) := by decide +kernel
theorem dX2_readPerson_70 : decode cX2_readPerson 70 = .ok (.invokestatic 81, 3) := by decide +kernel
theorem dX2_readPerson_73 : decode cX2_readPerson 73 = .ok (.iload 4, 2) := by decide +kernel
theorem dX2_readPerson_75 : decode cX2_readPerson 75 = .ok (.iastore, 1) := by decide +kernel
theorem dX2_readPerson_76 : decode cX2_readPerson 76 = .ok (.iinc 3 1, 3) := by decide +kernel
theorem dX2_readPerson_79 : decode cX2_readPerson 79 = .ok (.goto (-42), 3) := by decide +kernel
theorem dX2_readPerson_82 : decode cX2_readPerson 82 = .ok (.aload_n 0, 1) := by decide +kernel
theorem dX2_readPerson_83 : decode cX2_readPerson 83 = .ok (.getfield 23, 3) := by decide +kernel
theorem dX2_readPerson_86 : decode cX2_readPerson 86 = .ok (.getfield 85, 3) := by decide +kernel
theorem dX2_readPerson_89 : decode cX2_readPerson 89 = .ok (.iload_n 2, 1) := by decide +kernel
theorem dX2_readPerson_90 : decode cX2_readPerson 90 = .ok (.iload_n 1, 1) := by decide +kernel
theorem dX2_readPerson_91 : decode cX2_readPerson 91 = .ok (.iastore, 1) := by decide +kernel
theorem dX2_readPerson_92 : decode cX2_readPerson 92 = .ok (.aload_n 0, 1) := by decide +kernel
theorem dX2_readPerson_93 : decode cX2_readPerson 93 = .ok (.getfield 23, 3) := by decide +kernel
theorem dX2_readPerson_96 : decode cX2_readPerson 96 = .ok (.dup, 1) := by decide +kernel
theorem dX2_readPerson_97 : decode cX2_readPerson 97 = .ok (.getfield 74, 3) := by decide +kernel
theorem dX2_readPerson_100 : decode cX2_readPerson 100 = .ok (.iconst 1, 1) := by decide +kernel
theorem dX2_readPerson_101 : decode cX2_readPerson 101 = .ok (.iadd, 1) := by decide +kernel
theorem dX2_readPerson_102 : decode cX2_readPerson 102 = .ok (.putfield 74, 3) := by decide +kernel
theorem dX2_readPerson_105 : decode cX2_readPerson 105 = .ok (.iconst 1, 1) := by decide +kernel
theorem dX2_readPerson_106 : decode cX2_readPerson 106 = .ok (.ireturn, 1) := by decide +kernel
theorem gX2_readDoor_X2_number : GoodIn wsX2_readDoor (wsV RX2 64 RX2 yX2_number wsX2_number) := gwV aw_175 aw_176 aw_177 aw_19 aw_178
theorem gX2_readDoor_X2_take : GoodIn wsX2_readDoor (wsV RX2 45 RX2 yX2_take wsX2_take) := gwV aw_199 aw_200 aw_201 aw_19 aw_202
theorem gX2_readDoor_X2_isOneOfAll : GoodIn wsX2_readDoor (wsV RX2 91 RX2 yX2_isOneOfAll wsX2_isOneOfAll) := gwV aw_203 aw_204 aw_205 aw_19 aw_206
theorem dX2_readDoor_0 : decode cX2_readDoor 0 = .ok (.aload_n 0, 1) := by decide +kernel
theorem dX2_readDoor_1 : decode cX2_readDoor 1 = .ok (.invokevirtual 64, 3) := by decide +kernel
theorem dX2_readDoor_4 : decode cX2_readDoor 4 = .ok (.istore_n 1, 1) := by decide +kernel
theorem dX2_readDoor_5 : decode cX2_readDoor 5 = .ok (.aload_n 0, 1) := by decide +kernel
theorem dX2_readDoor_6 : decode cX2_readDoor 6 = .ok (.bipush 44, 2) := by decide +kernel
theorem dX2_readDoor_8 : decode cX2_readDoor 8 = .ok (.invokevirtual 45, 3) := by decide +kernel
theorem dX2_readDoor_11 : decode cX2_readDoor 11 = .ok (.ifCond .ne 5, 3) := by decide +kernel
theorem dX2_readDoor_14 : decode cX2_readDoor 14 = .ok (.iconst 0, 1) := by decide +kernel
theorem dX2_readDoor_15 : decode cX2_readDoor 15 = .ok (.ireturn, 1) := by decide +kernel
theorem dX2_readDoor_16 : decode cX2_readDoor 16 = .ok (.aload_n 0, 1) := by decide +kernel
theorem dX2_readDoor_17 : decode cX2_readDoor 17 = .ok (.invokevirtual 64, 3) := by decide +kernel
theorem dX2_readDoor_20 : decode cX2_readDoor 20 = .ok (.istore_n 2, 1) := by decide +kernel
theorem dX2_readDoor_21 : decode cX2_readDoor 21 = .ok (.aload_n 0, 1) := by decide +kernel
theorem dX2_readDoor_22 : decode cX2_readDoor 22 = .ok (.getfield 23, 3) := by decide +kernel
theorem dX2_readDoor_25 : decode cX2_readDoor 25 = .ok (.getfield 88, 3) := by decide +kernel
theorem dX2_readDoor_28 : decode cX2_readDoor 28 = .ok (.iconst 5, 1) := by decide +kernel
theorem dX2_readDoor_29 : decode cX2_readDoor 29 = .ok (.if_icmp .ge 19, 3) := by decide +kernel
theorem dX2_readDoor_32 : decode cX2_readDoor 32 = .ok (.aload_n 0, 1) := by decide +kernel
theorem dX2_readDoor_33 : decode cX2_readDoor 33 = .ok (.iload_n 1, 1) := by decide +kernel
theorem dX2_readDoor_34 : decode cX2_readDoor 34 = .ok (.invokevirtual 91, 3) := by decide +kernel
theorem dX2_readDoor_37 : decode cX2_readDoor 37 = .ok (.ifCond .eq 11, 3) := by decide +kernel
theorem dX2_readDoor_40 : decode cX2_readDoor 40 = .ok (.aload_n 0, 1) := by decide +kernel
theorem dX2_readDoor_41 : decode cX2_readDoor 41 = .ok (.iload_n 2, 1) := by decide +kernel
theorem dX2_readDoor_42 : decode cX2_readDoor 42 = .ok (.invokevirtual 91, 3) := by decide +kernel
theorem dX2_readDoor_45 : decode cX2_readDoor 45 = .ok (.ifCond .ne 5, 3) := by decide +kernel
theorem dX2_readDoor_48 : decode cX2_readDoor 48 = .ok (.iconst 0, 1) := by decide +kernel
theorem dX2_readDoor_49 : decode cX2_readDoor 49 = .ok (.ireturn, 1) := by decide +kernel
theorem dX2_readDoor_50 : decode cX2_readDoor 50 = .ok (.aload_n 0, 1) := by decide +kernel
theorem dX2_readDoor_51 : decode cX2_readDoor 51 = .ok (.getfield 23, 3) := by decide +kernel
theorem dX2_readDoor_54 : decode cX2_readDoor 54 = .ok (.getfield 95, 3) := by decide +kernel
theorem dX2_readDoor_57 : decode cX2_readDoor 57 = .ok (.aload_n 0, 1) := by decide +kernel
theorem dX2_readDoor_58 : decode cX2_readDoor 58 = .ok (.getfield 23, 3) := by decide +kernel
theorem dX2_readDoor_61 : decode cX2_readDoor 61 = .ok (.getfield 88, 3) := by decide +kernel
theorem dX2_readDoor_64 : decode cX2_readDoor 64 = .ok (.iload_n 1, 1) := by decide +kernel
theorem dX2_readDoor_65 : decode cX2_readDoor 65 = .ok (.iastore, 1) := by decide +kernel
theorem dX2_readDoor_66 : decode cX2_readDoor 66 = .ok (.aload_n 0, 1) := by decide +kernel
theorem dX2_readDoor_67 : decode cX2_readDoor 67 = .ok (.getfield 23, 3) := by decide +kernel
theorem dX2_readDoor_70 : decode cX2_readDoor 70 = .ok (.getfield 98, 3) := by decide +kernel
theorem dX2_readDoor_73 : decode cX2_readDoor 73 = .ok (.aload_n 0, 1) := by decide +kernel
theorem dX2_readDoor_74 : decode cX2_readDoor 74 = .ok (.getfield 23, 3) := by decide +kernel
theorem dX2_readDoor_77 : decode cX2_readDoor 77 = .ok (.getfield 88, 3) := by decide +kernel
theorem dX2_readDoor_80 : decode cX2_readDoor 80 = .ok (.iload_n 2, 1) := by decide +kernel
theorem dX2_readDoor_81 : decode cX2_readDoor 81 = .ok (.iastore, 1) := by decide +kernel
theorem dX2_readDoor_82 : decode cX2_readDoor 82 = .ok (.aload_n 0, 1) := by decide +kernel
theorem dX2_readDoor_83 : decode cX2_readDoor 83 = .ok (.getfield 23, 3) := by decide +kernel
theorem dX2_readDoor_86 : decode cX2_readDoor 86 = .ok (.dup, 1) := by decide +kernel
theorem dX2_readDoor_87 : decode cX2_readDoor 87 = .ok (.getfield 88, 3) := by decide +kernel
theorem dX2_readDoor_90 : decode cX2_readDoor 90 = .ok (.iconst 1, 1) := by decide +kernel
theorem dX2_readDoor_91 : decode cX2_readDoor 91 = .ok (.iadd, 1) := by decide +kernel
theorem dX2_readDoor_92 : decode cX2_readDoor 92 = .ok (.putfield 88, 3) := by decide +kernel
theorem dX2_readDoor_95 : decode cX2_readDoor 95 = .ok (.iconst 1, 1) := by decide +kernel
theorem dX2_readDoor_96 : decode cX2_readDoor 96 = .ok (.ireturn, 1) := by decide +kernel
theorem gX2_readWord_X2_number : GoodIn wsX2_readWord (wsV RX2 64 RX2 yX2_number wsX2_number) := gwV aw_175 aw_176 aw_177 aw_19 aw_178
theorem dX2_readWord_0 : decode cX2_readWord 0 = .ok (.aload_n 0, 1) := by decide +kernel
theorem dX2_readWord_1 : decode cX2_readWord 1 = .ok (.invokevirtual 64, 3) := by decide +kernel
theorem dX2_readWord_4 : decode cX2_readWord 4 = .ok (.istore_n 1, 1) := by decide +kernel
theorem dX2_readWord_5 : decode cX2_readWord 5 = .ok (.aload_n 0, 1) := by decide +kernel
theorem dX2_readWord_6 : decode cX2_readWord 6 = .ok (.getfield 23, 3) := by decide +kernel
theorem dX2_readWord_9 : decode cX2_readWord 9 = .ok (.getfield 101, 3) := by decide +kernel
theorem dX2_readWord_12 : decode cX2_readWord 12 = .ok (.bipush 6, 2) := by decide +kernel
theorem dX2_readWord_14 : decode cX2_readWord 14 = .ok (.if_icmp .ge 14, 3) := by decide +kernel
theorem dX2_readWord_17 : decode cX2_readWord 17 = .ok (.iload_n 1, 1) := by decide +kernel
theorem dX2_readWord_18 : decode cX2_readWord 18 = .ok (.iconst 1, 1) := by decide +kernel
theorem dX2_readWord_19 : decode cX2_readWord 19 = .ok (.if_icmp .lt 9, 3) := by decide +kernel
theorem dX2_readWord_22 : decode cX2_readWord 22 = .ok (.iload_n 1, 1) := by decide +kernel
theorem dX2_readWord_23 : decode cX2_readWord 23 = .ok (.bipush 60, 2) := by decide +kernel
theorem dX2_readWord_25 : decode cX2_readWord 25 = .ok (.if_icmp .le 5, 3) := by decide +kernel
theorem dX2_readWord_28 : decode cX2_readWord 28 = .ok (.iconst 0, 1) := by decide +kernel
theorem dX2_readWord_29 : decode cX2_readWord 29 = .ok (.ireturn, 1) := by decide +kernel
theorem dX2_readWord_30 : decode cX2_readWord 30 = .ok (.aload_n 0, 1) := by decide +kernel
theorem dX2_readWord_31 : decode cX2_readWord 31 = .ok (.getfield 23, 3) := by decide +kernel
theorem dX2_readWord_34 : decode cX2_readWord 34 = .ok (.getfield 104, 3) := by decide +kernel
theorem dX2_readWord_37 : decode cX2_readWord 37 = .ok (.aload_n 0, 1) := by decide +kernel
theorem dX2_readWord_38 : decode cX2_readWord 38 = .ok (.getfield 23, 3) := by decide +kernel
theorem dX2_readWord_41 : decode cX2_readWord 41 = .ok (.getfield 101, 3) := by decide +kernel
theorem dX2_readWord_44 : decode cX2_readWord 44 = .ok (.iload_n 1, 1) := by decide +kernel
theorem dX2_readWord_45 : decode cX2_readWord 45 = .ok (.iastore, 1) := by decide +kernel
theorem dX2_readWord_46 : decode cX2_readWord 46 = .ok (.aload_n 0, 1) := by decide +kernel
theorem dX2_readWord_47 : decode cX2_readWord 47 = .ok (.getfield 23, 3) := by decide +kernel
theorem dX2_readWord_50 : decode cX2_readWord 50 = .ok (.dup, 1) := by decide +kernel
theorem dX2_readWord_51 : decode cX2_readWord 51 = .ok (.getfield 101, 3) := by decide +kernel
theorem dX2_readWord_54 : decode cX2_readWord 54 = .ok (.iconst 1, 1) := by decide +kernel
theorem dX2_readWord_55 : decode cX2_readWord 55 = .ok (.iadd, 1) := by decide +kernel
theorem dX2_readWord_56 : decode cX2_readWord 56 = .ok (.putfield 101, 3) := by decide +kernel
theorem dX2_readWord_59 : decode cX2_readWord 59 = .ok (.iconst 1, 1) := by decide +kernel
theorem dX2_readWord_60 : decode cX2_readWord 60 = .ok (.ireturn, 1) := by decide +kernel
theorem gX2_readLimit_X2_number : GoodIn wsX2_readLimit (wsV RX2 64 RX2 yX2_number wsX2_number) := gwV aw_175 aw_176 aw_177 aw_19 aw_178
theorem dX2_readLimit_0 : decode cX2_readLimit 0 = .ok (.aload_n 0, 1) := by decide +kernel
theorem dX2_readLimit_1 : decode cX2_readLimit 1 = .ok (.invokevirtual 64, 3) := by decide +kernel
theorem dX2_readLimit_4 : decode cX2_readLimit 4 = .ok (.istore_n 1, 1) := by decide +kernel
theorem dX2_readLimit_5 : decode cX2_readLimit 5 = .ok (.iload_n 1, 1) := by decide +kernel
theorem dX2_readLimit_6 : decode cX2_readLimit 6 = .ok (.iconst 1, 1) := by decide +kernel
theorem dX2_readLimit_7 : decode cX2_readLimit 7 = .ok (.if_icmp .lt 9, 3) := by decide +kernel
theorem dX2_readLimit_10 : decode cX2_readLimit 10 = .ok (.iload_n 1, 1) := by decide +kernel
theorem dX2_readLimit_11 : decode cX2_readLimit 11 = .ok (.bipush 9, 2) := by decide +kernel
theorem dX2_readLimit_13 : decode cX2_readLimit 13 = .ok (.if_icmp .le 5, 3) := by decide +kernel
theorem dX2_readLimit_16 : decode cX2_readLimit 16 = .ok (.iconst 0, 1) := by decide +kernel
theorem dX2_readLimit_17 : decode cX2_readLimit 17 = .ok (.ireturn, 1) := by decide +kernel
theorem dX2_readLimit_18 : decode cX2_readLimit 18 = .ok (.aload_n 0, 1) := by decide +kernel
theorem dX2_readLimit_19 : decode cX2_readLimit 19 = .ok (.getfield 23, 3) := by decide +kernel
theorem dX2_readLimit_22 : decode cX2_readLimit 22 = .ok (.iload_n 1, 1) := by decide +kernel
theorem dX2_readLimit_23 : decode cX2_readLimit 23 = .ok (.putfield 107, 3) := by decide +kernel
theorem dX2_readLimit_26 : decode cX2_readLimit 26 = .ok (.iconst 1, 1) := by decide +kernel
theorem dX2_readLimit_27 : decode cX2_readLimit 27 = .ok (.ireturn, 1) := by decide +kernel
theorem dX2_isOneOfAll_0 : decode cX2_isOneOfAll 0 = .ok (.iload_n 1, 1) := by decide +kernel
theorem dX2_isOneOfAll_1 : decode cX2_isOneOfAll 1 = .ok (.ifCond .lt 18, 3) := by decide +kernel
theorem dX2_isOneOfAll_4 : decode cX2_isOneOfAll 4 = .ok (.iload_n 1, 1) := by decide +kernel
theorem dX2_isOneOfAll_5 : decode cX2_isOneOfAll 5 = .ok (.aload_n 0, 1) := by decide +kernel
theorem dX2_isOneOfAll_6 : decode cX2_isOneOfAll 6 = .ok (.getfield 23, 3) := by decide +kernel
theorem dX2_isOneOfAll_9 : decode cX2_isOneOfAll 9 = .ok (.getfield 68, 3) := by decide +kernel
theorem dX2_isOneOfAll_12 : decode cX2_isOneOfAll 12 = .ok (.if_icmp .ge 7, 3) := by decide +kernel
theorem dX2_isOneOfAll_15 : decode cX2_isOneOfAll 15 = .ok (.iconst 1, 1) := by decide +kernel
theorem dX2_isOneOfAll_16 : decode cX2_isOneOfAll 16 = .ok (.goto 4, 3) := by decide +kernel
theorem dX2_isOneOfAll_19 : decode cX2_isOneOfAll 19 = .ok (.iconst 0, 1) := by decide +kernel
theorem dX2_isOneOfAll_20 : decode cX2_isOneOfAll 20 = .ok (.ireturn, 1) := by decide +kernel
theorem gX2_take_X0_signAt : GoodIn wsX2_take (wsV RX2 37 RX0 yX0_signAt wsX0_signAt) := gwV aw_162 aw_163 aw_164 aw_11 aw_165
theorem dX2_take_0 : decode cX2_take 0 = .ok (.aload_n 0, 1) := by decide +kernel
theorem dX2_take_1 : decode cX2_take 1 = .ok (.getfield 19, 3) := by decide +kernel
theorem dX2_take_4 : decode cX2_take 4 = .ok (.aload_n 0, 1) := by decide +kernel
theorem dX2_take_5 : decode cX2_take 5 = .ok (.getfield 9, 3) := by decide +kernel
theorem dX2_take_8 : decode cX2_take 8 = .ok (.invokevirtual 37, 3) := by decide +kernel
theorem dX2_take_11 : decode cX2_take 11 = .ok (.iload_n 1, 1) := by decide +kernel
theorem dX2_take_12 : decode cX2_take 12 = .ok (.if_icmp .eq 5, 3) := by decide +kernel
theorem dX2_take_15 : decode cX2_take 15 = .ok (.iconst 0, 1) := by decide +kernel
theorem dX2_take_16 : decode cX2_take 16 = .ok (.ireturn, 1) := by decide +kernel
theorem dX2_take_17 : decode cX2_take 17 = .ok (.aload_n 0, 1) := by decide +kernel
theorem dX2_take_18 : decode cX2_take 18 = .ok (.dup, 1) := by decide +kernel
theorem dX2_take_19 : decode cX2_take 19 = .ok (.getfield 9, 3) := by decide +kernel
theorem dX2_take_22 : decode cX2_take 22 = .ok (.iconst 1, 1) := by decide +kernel
theorem dX2_take_23 : decode cX2_take 23 = .ok (.iadd, 1) := by decide +kernel
theorem dX2_take_24 : decode cX2_take 24 = .ok (.putfield 9, 3) := by decide +kernel
theorem dX2_take_27 : decode cX2_take 27 = .ok (.iconst 1, 1) := by decide +kernel
theorem dX2_take_28 : decode cX2_take 28 = .ok (.ireturn, 1) := by decide +kernel
theorem gX2_number_X2_figure : GoodIn wsX2_number (wsV RX2 71 RX2 yX2_figure wsX2_figure) := gwV aw_179 aw_180 aw_181 aw_19 aw_182
theorem dX2_number_0 : decode cX2_number 0 = .ok (.aload_n 0, 1) := by decide +kernel
theorem dX2_number_1 : decode cX2_number 1 = .ok (.invokevirtual 71, 3) := by decide +kernel
theorem dX2_number_4 : decode cX2_number 4 = .ok (.istore_n 1, 1) := by decide +kernel
theorem dX2_number_5 : decode cX2_number 5 = .ok (.iload_n 1, 1) := by decide +kernel
theorem dX2_number_6 : decode cX2_number 6 = .ok (.ifCond .ge 5, 3) := by decide +kernel
theorem dX2_number_9 : decode cX2_number 9 = .ok (.iload_n 1, 1) := by decide +kernel
theorem dX2_number_10 : decode cX2_number 10 = .ok (.ireturn, 1) := by decide +kernel
theorem dX2_number_11 : decode cX2_number 11 = .ok (.aload_n 0, 1) := by decide +kernel
theorem dX2_number_12 : decode cX2_number 12 = .ok (.invokevirtual 71, 3) := by decide +kernel
theorem dX2_number_15 : decode cX2_number 15 = .ok (.istore_n 2, 1) := by decide +kernel
theorem dX2_number_16 : decode cX2_number 16 = .ok (.iload_n 2, 1) := by decide +kernel
theorem dX2_number_17 : decode cX2_number 17 = .ok (.ifCond .ge 7, 3) := by decide +kernel
theorem dX2_number_20 : decode cX2_number 20 = .ok (.iload_n 1, 1) := by decide +kernel
theorem dX2_number_21 : decode cX2_number 21 = .ok (.goto 9, 3) := by decide +kernel
theorem dX2_number_24 : decode cX2_number 24 = .ok (.bipush 10, 2) := by decide +kernel
theorem dX2_number_26 : decode cX2_number 26 = .ok (.iload_n 1, 1) := by decide +kernel
theorem dX2_number_27 : decode cX2_number 27 = .ok (.imul, 1) := by decide +kernel
theorem dX2_number_28 : decode cX2_number 28 = .ok (.iload_n 2, 1) := by decide +kernel
theorem dX2_number_29 : decode cX2_number 29 = .ok (.iadd, 1) := by decide +kernel
theorem dX2_number_30 : decode cX2_number 30 = .ok (.ireturn, 1) := by decide +kernel
theorem gX2_figure_X0_signAt : GoodIn wsX2_figure (wsV RX2 37 RX0 yX0_signAt wsX0_signAt) := gwV aw_162 aw_163 aw_164 aw_11 aw_165
theorem dX2_figure_0 : decode cX2_figure 0 = .ok (.aload_n 0, 1) := by decide +kernel
theorem dX2_figure_1 : decode cX2_figure 1 = .ok (.getfield 19, 3) := by decide +kernel
theorem dX2_figure_4 : decode cX2_figure 4 = .ok (.aload_n 0, 1) := by decide +kernel
theorem dX2_figure_5 : decode cX2_figure 5 = .ok (.getfield 9, 3) := by decide +kernel
theorem dX2_figure_8 : decode cX2_figure 8 = .ok (.invokevirtual 37, 3) := by decide +kernel
theorem dX2_figure_11 : decode cX2_figure 11 = .ok (.istore_n 1, 1) := by decide +kernel
theorem dX2_figure_12 : decode cX2_figure 12 = .ok (.iload_n 1, 1) := by decide +kernel
theorem dX2_figure_13 : decode cX2_figure 13 = .ok (.bipush 48, 2) := by decide +kernel
theorem dX2_figure_15 : decode cX2_figure 15 = .ok (.if_icmp .lt 9, 3) := by decide +kernel
theorem dX2_figure_18 : decode cX2_figure 18 = .ok (.iload_n 1, 1) := by decide +kernel
theorem dX2_figure_19 : decode cX2_figure 19 = .ok (.bipush 57, 2) := by decide +kernel
theorem dX2_figure_21 : decode cX2_figure 21 = .ok (.if_icmp .le 5, 3) := by decide +kernel
theorem dX2_figure_24 : decode cX2_figure 24 = .ok (.iconst (-1), 1) := by decide +kernel
theorem dX2_figure_25 : decode cX2_figure 25 = .ok (.ireturn, 1) := by decide +kernel
theorem dX2_figure_26 : decode cX2_figure 26 = .ok (.aload_n 0, 1) := by decide +kernel
theorem dX2_figure_27 : decode cX2_figure 27 = .ok (.dup, 1) := by decide +kernel
theorem dX2_figure_28 : decode cX2_figure 28 = .ok (.getfield 9, 3) := by decide +kernel
theorem dX2_figure_31 : decode cX2_figure 31 = .ok (.iconst 1, 1) := by decide +kernel
theorem dX2_figure_32 : decode cX2_figure 32 = .ok (.iadd, 1) := by decide +kernel
theorem dX2_figure_33 : decode cX2_figure 33 = .ok (.putfield 9, 3) := by decide +kernel
theorem dX2_figure_36 : decode cX2_figure 36 = .ok (.iload_n 1, 1) := by decide +kernel
theorem dX2_figure_37 : decode cX2_figure 37 = .ok (.bipush 48, 2) := by decide +kernel
theorem dX2_figure_39 : decode cX2_figure 39 = .ok (.isub, 1) := by decide +kernel
theorem dX2_figure_40 : decode cX2_figure 40 = .ok (.ireturn, 1) := by decide +kernel
theorem gX3_init_X5_init_n25 : GoodIn wsX3_init wsX5_init := gwc aw_69
theorem dX3_init_0 : decode cX3_init 0 = .ok (.aload_n 0, 1) := by decide +kernel
theorem dX3_init_1 : decode cX3_init 1 = .ok (.invokespecial 1, 3) := by decide +kernel
theorem dX3_init_4 : decode cX3_init 4 = .ok (.aload_n 0, 1) := by decide +kernel
theorem dX3_init_5 : decode cX3_init 5 = .ok (.iconst 0, 1) := by decide +kernel
theorem dX3_init_6 : decode cX3_init 6 = .ok (.putfield 7, 3) := by decide +kernel
theorem dX3_init_9 : decode cX3_init 9 = .ok (.aload_n 0, 1) := by decide +kernel
theorem dX3_init_10 : decode cX3_init 10 = .ok (.iconst 1, 1) := by decide +kernel
theorem dX3_init_11 : decode cX3_init 11 = .ok (.iload_n 1, 1) := by decide +kernel
theorem dX3_init_12 : decode cX3_init 12 = .ok (.invokestatic 13, 3) := by decide +kernel
theorem dX3_init_15 : decode cX3_init 15 = .ok (.anewarray 19, 3) := by decide +kernel
theorem dX3_init_18 : decode cX3_init 18 = .ok (.putfield 21, 3) := by decide +kernel
theorem dX3_init_21 : decode cX3_init 21 = .ok (.iconst 0, 1) := by decide +kernel
theorem dX3_init_22 : decode cX3_init 22 = .ok (.istore_n 2, 1) := by decide +kernel
theorem dX3_init_23 : decode cX3_init 23 = .ok (.iload_n 2, 1) := by decide +kernel
theorem dX3_init_24 : decode cX3_init 24 = .ok (.aload_n 0, 1) := by decide +kernel
theorem dX3_init_25 : decode cX3_init 25 = .ok (.getfield 21, 3) := by decide +kernel
theorem dX3_init_28 : decode cX3_init 28 = .ok (.arraylength, 1) := by decide +kernel
theorem dX3_init_29 : decode cX3_init 29 = .ok (.if_icmp .ge 22, 3) := by decide +kernel
theorem dX3_init_32 : decode cX3_init 32 = .ok (.aload_n 0, 1) := by decide +kernel
theorem dX3_init_33 : decode cX3_init 33 = .ok (.getfield 21, 3) := by decide +kernel
theorem dX3_init_36 : decode cX3_init 36 = .ok (.iload_n 2, 1) := by decide +kernel
theorem dX3_init_37 : decode cX3_init 37 = .ok (.new 19, 3) := by decide +kernel
theorem dX3_init_40 : decode cX3_init 40 = .ok (.dup, 1) := by decide +kernel
theorem dX3_init_41 : decode cX3_init 41 = .ok (.invokespecial 25, 3) := by decide +kernel
theorem dX3_init_44 : decode cX3_init 44 = .ok (.aastore, 1) := by decide +kernel
theorem dX3_init_45 : decode cX3_init 45 = .ok (.iinc 2 1, 3) := by decide +kernel
theorem dX3_init_48 : decode cX3_init 48 = .ok (.goto (-25), 3) := by decide +kernel
theorem dX3_init_51 : decode cX3_init 51 = .ok (.return_, 1) := by decide +kernel
theorem gX3_put_X3_dropOldest : GoodIn wsX3_put (wsV RX3 26 RX3 yX3_dropOldest wsX3_dropOldest) := gwV aw_506 aw_507 aw_508 aw_36 aw_509
theorem gX3_put_X5_copyFrom : GoodIn wsX3_put (wsV RX3 29 RX5 yX5_copyFrom wsX5_copyFrom) := gwV aw_510 aw_511 aw_512 aw_24 aw_513
theorem dX3_put_0 : decode cX3_put 0 = .ok (.aload_n 0, 1) := by decide +kernel
theorem dX3_put_1 : decode cX3_put 1 = .ok (.getfield 7, 3) := by decide +kernel
theorem dX3_put_4 : decode cX3_put 4 = .ok (.aload_n 0, 1) := by decide +kernel
theorem dX3_put_5 : decode cX3_put 5 = .ok (.getfield 21, 3) := by decide +kernel
theorem dX3_put_8 : decode cX3_put 8 = .ok (.arraylength, 1) := by decide +kernel
theorem dX3_put_9 : decode cX3_put 9 = .ok (.if_icmp .lt 7, 3) := by decide +kernel
theorem dX3_put_12 : decode cX3_put 12 = .ok (.aload_n 0, 1) := by decide +kernel
theorem dX3_put_13 : decode cX3_put 13 = .ok (.invokevirtual 26, 3) := by decide +kernel
theorem dX3_put_16 : decode cX3_put 16 = .ok (.aload_n 0, 1) := by decide +kernel
theorem dX3_put_17 : decode cX3_put 17 = .ok (.getfield 21, 3) := by decide +kernel
theorem dX3_put_20 : decode cX3_put 20 = .ok (.aload_n 0, 1) := by decide +kernel
theorem dX3_put_21 : decode cX3_put 21 = .ok (.getfield 7, 3) := by decide +kernel
theorem dX3_put_24 : decode cX3_put 24 = .ok (.aaload, 1) := by decide +kernel
theorem dX3_put_25 : decode cX3_put 25 = .ok (.aload_n 1, 1) := by decide +kernel
theorem dX3_put_26 : decode cX3_put 26 = .ok (.invokevirtual 29, 3) := by decide +kernel
theorem dX3_put_29 : decode cX3_put 29 = .ok (.aload_n 0, 1) := by decide +kernel
theorem dX3_put_30 : decode cX3_put 30 = .ok (.dup, 1) := by decide +kernel
theorem dX3_put_31 : decode cX3_put 31 = .ok (.getfield 7, 3) := by decide +kernel
theorem dX3_put_34 : decode cX3_put 34 = .ok (.iconst 1, 1) := by decide +kernel
theorem dX3_put_35 : decode cX3_put 35 = .ok (.iadd, 1) := by decide +kernel
theorem dX3_put_36 : decode cX3_put 36 = .ok (.putfield 7, 3) := by decide +kernel
theorem dX3_put_39 : decode cX3_put 39 = .ok (.return_, 1) := by decide +kernel
theorem dX3_dropOldest_0 : decode cX3_dropOldest 0 = .ok (.aload_n 0, 1) := by decide +kernel
theorem dX3_dropOldest_1 : decode cX3_dropOldest 1 = .ok (.getfield 21, 3) := by decide +kernel
theorem dX3_dropOldest_4 : decode cX3_dropOldest 4 = .ok (.iconst 0, 1) := by decide +kernel
theorem dX3_dropOldest_5 : decode cX3_dropOldest 5 = .ok (.aaload, 1) := by decide +kernel
theorem dX3_dropOldest_6 : decode cX3_dropOldest 6 = .ok (.astore_n 1, 1) := by decide +kernel
theorem dX3_dropOldest_7 : decode cX3_dropOldest 7 = .ok (.iconst 1, 1) := by decide +kernel
theorem dX3_dropOldest_8 : decode cX3_dropOldest 8 = .ok (.istore_n 2, 1) := by decide +kernel
theorem dX3_dropOldest_9 : decode cX3_dropOldest 9 = .ok (.iload_n 2, 1) := by decide +kernel
theorem dX3_dropOldest_10 : decode cX3_dropOldest 10 = .ok (.aload_n 0, 1) := by decide +kernel
theorem dX3_dropOldest_11 : decode cX3_dropOldest 11 = .ok (.getfield 21, 3) := by decide +kernel
theorem dX3_dropOldest_14 : decode cX3_dropOldest 14 = .ok (.arraylength, 1) := by decide +kernel
theorem dX3_dropOldest_15 : decode cX3_dropOldest 15 = .ok (.if_icmp .ge 23, 3) := by decide +kernel
theorem dX3_dropOldest_18 : decode cX3_dropOldest 18 = .ok (.aload_n 0, 1) := by decide +kernel
theorem dX3_dropOldest_19 : decode cX3_dropOldest 19 = .ok (.getfield 21, 3) := by decide +kernel
theorem dX3_dropOldest_22 : decode cX3_dropOldest 22 = .ok (.iload_n 2, 1) := by decide +kernel
theorem dX3_dropOldest_23 : decode cX3_dropOldest 23 = .ok (.iconst 1, 1) := by decide +kernel
theorem dX3_dropOldest_24 : decode cX3_dropOldest 24 = .ok (.isub, 1) := by decide +kernel
theorem dX3_dropOldest_25 : decode cX3_dropOldest 25 = .ok (.aload_n 0, 1) := by decide +kernel
theorem dX3_dropOldest_26 : decode cX3_dropOldest 26 = .ok (.getfield 21, 3) := by decide +kernel
theorem dX3_dropOldest_29 : decode cX3_dropOldest 29 = .ok (.iload_n 2, 1) := by decide +kernel
theorem dX3_dropOldest_30 : decode cX3_dropOldest 30 = .ok (.aaload, 1) := by decide +kernel
theorem dX3_dropOldest_31 : decode cX3_dropOldest 31 = .ok (.aastore, 1) := by decide +kernel
theorem dX3_dropOldest_32 : decode cX3_dropOldest 32 = .ok (.iinc 2 1, 3) := by decide +kernel
theorem dX3_dropOldest_35 : decode cX3_dropOldest 35 = .ok (.goto (-26), 3) := by decide +kernel
theorem dX3_dropOldest_38 : decode cX3_dropOldest 38 = .ok (.aload_n 0, 1) := by decide +kernel
theorem dX3_dropOldest_39 : decode cX3_dropOldest 39 = .ok (.getfield 21, 3) := by decide +kernel
theorem dX3_dropOldest_42 : decode cX3_dropOldest 42 = .ok (.aload_n 0, 1) := by decide +kernel
theorem dX3_dropOldest_43 : decode cX3_dropOldest 43 = .ok (.getfield 21, 3) := by decide +kernel
theorem dX3_dropOldest_46 : decode cX3_dropOldest 46 = .ok (.arraylength, 1) := by decide +kernel
theorem dX3_dropOldest_47 : decode cX3_dropOldest 47 = .ok (.iconst 1, 1) := by decide +kernel
theorem dX3_dropOldest_48 : decode cX3_dropOldest 48 = .ok (.isub, 1) := by decide +kernel
theorem dX3_dropOldest_49 : decode cX3_dropOldest 49 = .ok (.aload_n 1, 1) := by decide +kernel
theorem dX3_dropOldest_50 : decode cX3_dropOldest 50 = .ok (.aastore, 1) := by decide +kernel
theorem dX3_dropOldest_51 : decode cX3_dropOldest 51 = .ok (.aload_n 0, 1) := by decide +kernel
theorem dX3_dropOldest_52 : decode cX3_dropOldest 52 = .ok (.aload_n 0, 1) := by decide +kernel
theorem dX3_dropOldest_53 : decode cX3_dropOldest 53 = .ok (.getfield 21, 3) := by decide +kernel
theorem dX3_dropOldest_56 : decode cX3_dropOldest 56 = .ok (.arraylength, 1) := by decide +kernel
theorem dX3_dropOldest_57 : decode cX3_dropOldest 57 = .ok (.iconst 1, 1) := by decide +kernel
theorem dX3_dropOldest_58 : decode cX3_dropOldest 58 = .ok (.isub, 1) := by decide +kernel
theorem dX3_dropOldest_59 : decode cX3_dropOldest 59 = .ok (.putfield 7, 3) := by decide +kernel
theorem dX3_dropOldest_62 : decode cX3_dropOldest 62 = .ok (.return_, 1) := by decide +kernel
theorem gX3_takeLatestInto_X5_copyFrom : GoodIn wsX3_takeLatestInto (wsV RX3 29 RX5 yX5_copyFrom wsX5_copyFrom) := gwV aw_510 aw_511 aw_512 aw_24 aw_513
theorem dX3_takeLatestInto_0 : decode cX3_takeLatestInto 0 = .ok (.aload_n 0, 1) := by decide +kernel
theorem dX3_takeLatestInto_1 : decode cX3_takeLatestInto 1 = .ok (.getfield 7, 3) := by decide +kernel
theorem dX3_takeLatestInto_4 : decode cX3_takeLatestInto 4 = .ok (.ifCond .le 26, 3) := by decide +kernel
theorem dX3_takeLatestInto_7 : decode cX3_takeLatestInto 7 = .ok (.aload_n 0, 1) := by decide +kernel
theorem dX3_takeLatestInto_8 : decode cX3_takeLatestInto 8 = .ok (.dup, 1) := by decide +kernel
theorem dX3_takeLatestInto_9 : decode cX3_takeLatestInto 9 = .ok (.getfield 7, 3) := by decide +kernel
theorem dX3_takeLatestInto_12 : decode cX3_takeLatestInto 12 = .ok (.iconst 1, 1) := by decide +kernel
theorem dX3_takeLatestInto_13 : decode cX3_takeLatestInto 13 = .ok (.isub, 1) := by decide +kernel
theorem dX3_takeLatestInto_14 : decode cX3_takeLatestInto 14 = .ok (.putfield 7, 3) := by decide +kernel
theorem dX3_takeLatestInto_17 : decode cX3_takeLatestInto 17 = .ok (.aload_n 1, 1) := by decide +kernel
theorem dX3_takeLatestInto_18 : decode cX3_takeLatestInto 18 = .ok (.aload_n 0, 1) := by decide +kernel
theorem dX3_takeLatestInto_19 : decode cX3_takeLatestInto 19 = .ok (.getfield 21, 3) := by decide +kernel
theorem dX3_takeLatestInto_22 : decode cX3_takeLatestInto 22 = .ok (.aload_n 0, 1) := by decide +kernel
theorem dX3_takeLatestInto_23 : decode cX3_takeLatestInto 23 = .ok (.getfield 7, 3) := by decide +kernel
theorem dX3_takeLatestInto_26 : decode cX3_takeLatestInto 26 = .ok (.aaload, 1) := by decide +kernel
theorem dX3_takeLatestInto_27 : decode cX3_takeLatestInto 27 = .ok (.invokevirtual 29, 3) := by decide +kernel
theorem dX3_takeLatestInto_30 : decode cX3_takeLatestInto 30 = .ok (.return_, 1) := by decide +kernel
theorem dX3_clear_0 : decode cX3_clear 0 = .ok (.aload_n 0, 1) := by decide +kernel
theorem dX3_clear_1 : decode cX3_clear 1 = .ok (.iconst 0, 1) := by decide +kernel
theorem dX3_clear_2 : decode cX3_clear 2 = .ok (.putfield 7, 3) := by decide +kernel
theorem dX3_clear_5 : decode cX3_clear 5 = .ok (.return_, 1) := by decide +kernel
theorem dX4_init_0 : decode cX4_init 0 = .ok (.aload_n 0, 1) := by decide +kernel
theorem dX4_init_1 : decode cX4_init 1 = .ok (.invokespecial 3, 3) := by decide +kernel
theorem dX4_init_4 : decode cX4_init 4 = .ok (.aload_n 0, 1) := by decide +kernel
theorem dX4_init_5 : decode cX4_init 5 = .ok (.bipush 8, 2) := by decide +kernel
theorem dX4_init_7 : decode cX4_init 7 = .ok (.newarray .int, 2) := by decide +kernel
theorem dX4_init_9 : decode cX4_init 9 = .ok (.putfield 9, 3) := by decide +kernel
theorem dX4_init_12 : decode cX4_init 12 = .ok (.aload_n 0, 1) := by decide +kernel
theorem dX4_init_13 : decode cX4_init 13 = .ok (.bipush 8, 2) := by decide +kernel
theorem dX4_init_15 : decode cX4_init 15 = .ok (.newarray .int, 2) := by decide +kernel
theorem dX4_init_17 : decode cX4_init 17 = .ok (.putfield 15, 3) := by decide +kernel
theorem dX4_init_20 : decode cX4_init 20 = .ok (.aload_n 0, 1) := by decide +kernel
theorem dX4_init_21 : decode cX4_init 21 = .ok (.bipush 8, 2) := by decide +kernel
theorem dX4_init_23 : decode cX4_init 23 = .ok (.newarray .int, 2) := by decide +kernel
theorem dX4_init_25 : decode cX4_init 25 = .ok (.putfield 18, 3) := by decide +kernel
theorem dX4_init_28 : decode cX4_init 28 = .ok (.aload_n 0, 1) := by decide +kernel
theorem dX4_init_29 : decode cX4_init 29 = .ok (.iconst 0, 1) := by decide +kernel
theorem dX4_init_30 : decode cX4_init 30 = .ok (.putfield 21, 3) := by decide +kernel
theorem dX4_init_33 : decode cX4_init 33 = .ok (.return_, 1) := by decide +kernel
theorem dX4_add_0 : decode cX4_add 0 = .ok (.aload_n 0, 1) := by decide +kernel
theorem dX4_add_1 : decode cX4_add 1 = .ok (.getfield 21, 3) := by decide +kernel
theorem dX4_add_4 : decode cX4_add 4 = .ok (.bipush 8, 2) := by decide +kernel
theorem dX4_add_6 : decode cX4_add 6 = .ok (.if_icmp .ge 43, 3) := by decide +kernel
theorem dX4_add_9 : decode cX4_add 9 = .ok (.aload_n 0, 1) := by decide +kernel
theorem dX4_add_10 : decode cX4_add 10 = .ok (.getfield 9, 3) := by decide +kernel
theorem dX4_add_13 : decode cX4_add 13 = .ok (.aload_n 0, 1) := by decide +kernel
theorem dX4_add_14 : decode cX4_add 14 = .ok (.getfield 21, 3) := by decide +kernel
theorem dX4_add_17 : decode cX4_add 17 = .ok (.iload_n 1, 1) := by decide +kernel
theorem dX4_add_18 : decode cX4_add 18 = .ok (.iastore, 1) := by decide +kernel
theorem dX4_add_19 : decode cX4_add 19 = .ok (.aload_n 0, 1) := by decide +kernel
theorem dX4_add_20 : decode cX4_add 20 = .ok (.getfield 15, 3) := by decide +kernel
theorem dX4_add_23 : decode cX4_add 23 = .ok (.aload_n 0, 1) := by decide +kernel
theorem dX4_add_24 : decode cX4_add 24 = .ok (.getfield 21, 3) := by decide +kernel
theorem dX4_add_27 : decode cX4_add 27 = .ok (.iload_n 2, 1) := by decide +kernel
theorem dX4_add_28 : decode cX4_add 28 = .ok (.iastore, 1) := by decide +kernel
theorem dX4_add_29 : decode cX4_add 29 = .ok (.aload_n 0, 1) := by decide +kernel
theorem dX4_add_30 : decode cX4_add 30 = .ok (.getfield 18, 3) := by decide +kernel
theorem dX4_add_33 : decode cX4_add 33 = .ok (.aload_n 0, 1) := by decide +kernel
theorem dX4_add_34 : decode cX4_add 34 = .ok (.getfield 21, 3) := by decide +kernel
theorem dX4_add_37 : decode cX4_add 37 = .ok (.iload_n 3, 1) := by decide +kernel
theorem dX4_add_38 : decode cX4_add 38 = .ok (.iastore, 1) := by decide +kernel
theorem dX4_add_39 : decode cX4_add 39 = .ok (.aload_n 0, 1) := by decide +kernel
theorem dX4_add_40 : decode cX4_add 40 = .ok (.dup, 1) := by decide +kernel
theorem dX4_add_41 : decode cX4_add 41 = .ok (.getfield 21, 3) := by decide +kernel
theorem dX4_add_44 : decode cX4_add 44 = .ok (.iconst 1, 1) := by decide +kernel
theorem dX4_add_45 : decode cX4_add 45 = .ok (.iadd, 1) := by decide +kernel
theorem dX4_add_46 : decode cX4_add 46 = .ok (.putfield 21, 3) := by decide +kernel
theorem dX4_add_49 : decode cX4_add 49 = .ok (.return_, 1) := by decide +kernel
theorem dX4_lookedAt_0 : decode cX4_lookedAt 0 = .ok (.iconst 0, 1) := by decide +kernel
theorem dX4_lookedAt_1 : decode cX4_lookedAt 1 = .ok (.istore_n 2, 1) := by decide +kernel
theorem dX4_lookedAt_2 : decode cX4_lookedAt 2 = .ok (.iconst 0, 1) := by decide +kernel
theorem dX4_lookedAt_3 : decode cX4_lookedAt 3 = .ok (.istore_n 3, 1) := by decide +kernel
theorem dX4_lookedAt_4 : decode cX4_lookedAt 4 = .ok (.iload_n 3, 1) := by decide +kernel
theorem dX4_lookedAt_5 : decode cX4_lookedAt 5 = .ok (.aload_n 0, 1) := by decide +kernel
theorem dX4_lookedAt_6 : decode cX4_lookedAt 6 = .ok (.getfield 21, 3) := by decide +kernel
theorem dX4_lookedAt_9 : decode cX4_lookedAt 9 = .ok (.if_icmp .ge 30, 3) := by decide +kernel
theorem dX4_lookedAt_12 : decode cX4_lookedAt 12 = .ok (.aload_n 0, 1) := by decide +kernel
theorem dX4_lookedAt_13 : decode cX4_lookedAt 13 = .ok (.getfield 15, 3) := by decide +kernel
theorem dX4_lookedAt_16 : decode cX4_lookedAt 16 = .ok (.iload_n 3, 1) := by decide +kernel
theorem dX4_lookedAt_17 : decode cX4_lookedAt 17 = .ok (.iaload, 1) := by decide +kernel
theorem dX4_lookedAt_18 : decode cX4_lookedAt 18 = .ok (.iload_n 1, 1) := by decide +kernel
theorem dX4_lookedAt_19 : decode cX4_lookedAt 19 = .ok (.if_icmp .ne 14, 3) := by decide +kernel
theorem dX4_lookedAt_22 : decode cX4_lookedAt 22 = .ok (.iload_n 2, 1) := by decide +kernel
theorem dX4_lookedAt_23 : decode cX4_lookedAt 23 = .ok (.iconst 1, 1) := by decide +kernel
theorem dX4_lookedAt_24 : decode cX4_lookedAt 24 = .ok (.aload_n 0, 1) := by decide +kernel
theorem dX4_lookedAt_25 : decode cX4_lookedAt 25 = .ok (.getfield 9, 3) := by decide +kernel
theorem dX4_lookedAt_28 : decode cX4_lookedAt 28 = .ok (.iload_n 3, 1) := by decide +kernel
theorem dX4_lookedAt_29 : decode cX4_lookedAt 29 = .ok (.iaload, 1) := by decide +kernel
theorem dX4_lookedAt_30 : decode cX4_lookedAt 30 = .ok (.ishl, 1) := by decide +kernel
theorem dX4_lookedAt_31 : decode cX4_lookedAt 31 = .ok (.ior, 1) := by decide +kernel
theorem dX4_lookedAt_32 : decode cX4_lookedAt 32 = .ok (.istore_n 2, 1) := by decide +kernel
theorem dX4_lookedAt_33 : decode cX4_lookedAt 33 = .ok (.iinc 3 1, 3) := by decide +kernel
theorem dX4_lookedAt_36 : decode cX4_lookedAt 36 = .ok (.goto (-32), 3) := by decide +kernel
theorem dX4_lookedAt_39 : decode cX4_lookedAt 39 = .ok (.iload_n 2, 1) := by decide +kernel
theorem dX4_lookedAt_40 : decode cX4_lookedAt 40 = .ok (.ireturn, 1) := by decide +kernel
theorem dX4_cameInAt_0 : decode cX4_cameInAt 0 = .ok (.iconst 0, 1) := by decide +kernel
theorem dX4_cameInAt_1 : decode cX4_cameInAt 1 = .ok (.istore_n 2, 1) := by decide +kernel
theorem dX4_cameInAt_2 : decode cX4_cameInAt 2 = .ok (.iconst 0, 1) := by decide +kernel
theorem dX4_cameInAt_3 : decode cX4_cameInAt 3 = .ok (.istore_n 3, 1) := by decide +kernel
theorem dX4_cameInAt_4 : decode cX4_cameInAt 4 = .ok (.iload_n 3, 1) := by decide +kernel
theorem dX4_cameInAt_5 : decode cX4_cameInAt 5 = .ok (.aload_n 0, 1) := by decide +kernel
theorem dX4_cameInAt_6 : decode cX4_cameInAt 6 = .ok (.getfield 21, 3) := by decide +kernel
theorem dX4_cameInAt_9 : decode cX4_cameInAt 9 = .ok (.if_icmp .ge 40, 3) := by decide +kernel
theorem dX4_cameInAt_12 : decode cX4_cameInAt 12 = .ok (.aload_n 0, 1) := by decide +kernel
theorem dX4_cameInAt_13 : decode cX4_cameInAt 13 = .ok (.getfield 15, 3) := by decide +kernel
theorem dX4_cameInAt_16 : decode cX4_cameInAt 16 = .ok (.iload_n 3, 1) := by decide +kernel
theorem dX4_cameInAt_17 : decode cX4_cameInAt 17 = .ok (.iaload, 1) := by decide +kernel
theorem dX4_cameInAt_18 : decode cX4_cameInAt 18 = .ok (.iload_n 1, 1) := by decide +kernel
theorem dX4_cameInAt_19 : decode cX4_cameInAt 19 = .ok (.if_icmp .ne 24, 3) := by decide +kernel
theorem dX4_cameInAt_22 : decode cX4_cameInAt 22 = .ok (.aload_n 0, 1) := by decide +kernel
theorem dX4_cameInAt_23 : decode cX4_cameInAt 23 = .ok (.getfield 18, 3) := by decide +kernel
theorem dX4_cameInAt_26 : decode cX4_cameInAt 26 = .ok (.iload_n 3, 1) := by decide +kernel
theorem dX4_cameInAt_27 : decode cX4_cameInAt 27 = .ok (.iaload, 1) := by decide +kernel
theorem dX4_cameInAt_28 : decode cX4_cameInAt 28 = .ok (.iconst 1, 1) := by decide +kernel
theorem dX4_cameInAt_29 : decode cX4_cameInAt 29 = .ok (.if_icmp .ne 14, 3) := by decide +kernel
theorem dX4_cameInAt_32 : decode cX4_cameInAt 32 = .ok (.iload_n 2, 1) := by decide +kernel
theorem dX4_cameInAt_33 : decode cX4_cameInAt 33 = .ok (.iconst 1, 1) := by decide +kernel
theorem dX4_cameInAt_34 : decode cX4_cameInAt 34 = .ok (.aload_n 0, 1) := by decide +kernel
theorem dX4_cameInAt_35 : decode cX4_cameInAt 35 = .ok (.getfield 9, 3) := by decide +kernel
theorem dX4_cameInAt_38 : decode cX4_cameInAt 38 = .ok (.iload_n 3, 1) := by decide +kernel
theorem dX4_cameInAt_39 : decode cX4_cameInAt 39 = .ok (.iaload, 1) := by decide +kernel
theorem dX4_cameInAt_40 : decode cX4_cameInAt 40 = .ok (.ishl, 1) := by decide +kernel
theorem dX4_cameInAt_41 : decode cX4_cameInAt 41 = .ok (.ior, 1) := by decide +kernel
theorem dX4_cameInAt_42 : decode cX4_cameInAt 42 = .ok (.istore_n 2, 1) := by decide +kernel
theorem dX4_cameInAt_43 : decode cX4_cameInAt 43 = .ok (.iinc 3 1, 3) := by decide +kernel
theorem dX4_cameInAt_46 : decode cX4_cameInAt 46 = .ok (.goto (-42), 3) := by decide +kernel
theorem dX4_cameInAt_49 : decode cX4_cameInAt 49 = .ok (.iload_n 2, 1) := by decide +kernel
theorem dX4_cameInAt_50 : decode cX4_cameInAt 50 = .ok (.ireturn, 1) := by decide +kernel
theorem dX4_clear_0 : decode cX4_clear 0 = .ok (.aload_n 0, 1) := by decide +kernel
theorem dX4_clear_1 : decode cX4_clear 1 = .ok (.iconst 0, 1) := by decide +kernel
theorem dX4_clear_2 : decode cX4_clear 2 = .ok (.putfield 21, 3) := by decide +kernel
theorem dX4_clear_5 : decode cX4_clear 5 = .ok (.return_, 1) := by decide +kernel
theorem dX5_init_0 : decode cX5_init 0 = .ok (.aload_n 0, 1) := by decide +kernel
theorem dX5_init_1 : decode cX5_init 1 = .ok (.invokespecial 3, 3) := by decide +kernel
theorem dX5_init_4 : decode cX5_init 4 = .ok (.aload_n 0, 1) := by decide +kernel
theorem dX5_init_5 : decode cX5_init 5 = .ok (.bipush 64, 2) := by decide +kernel
theorem dX5_init_7 : decode cX5_init 7 = .ok (.newarray .int, 2) := by decide +kernel
theorem dX5_init_9 : decode cX5_init 9 = .ok (.putfield 9, 3) := by decide +kernel
theorem dX5_init_12 : decode cX5_init 12 = .ok (.aload_n 0, 1) := by decide +kernel
theorem dX5_init_13 : decode cX5_init 13 = .ok (.iconst 5, 1) := by decide +kernel
theorem dX5_init_14 : decode cX5_init 14 = .ok (.newarray .int, 2) := by decide +kernel
theorem dX5_init_16 : decode cX5_init 16 = .ok (.putfield 15, 3) := by decide +kernel
theorem dX5_init_19 : decode cX5_init 19 = .ok (.aload_n 0, 1) := by decide +kernel
theorem dX5_init_20 : decode cX5_init 20 = .ok (.iconst 5, 1) := by decide +kernel
theorem dX5_init_21 : decode cX5_init 21 = .ok (.newarray .int, 2) := by decide +kernel
theorem dX5_init_23 : decode cX5_init 23 = .ok (.putfield 18, 3) := by decide +kernel
theorem dX5_init_26 : decode cX5_init 26 = .ok (.aload_n 0, 1) := by decide +kernel
theorem dX5_init_27 : decode cX5_init 27 = .ok (.bipush 40, 2) := by decide +kernel
theorem dX5_init_29 : decode cX5_init 29 = .ok (.newarray .int, 2) := by decide +kernel
theorem dX5_init_31 : decode cX5_init 31 = .ok (.putfield 21, 3) := by decide +kernel
theorem dX5_init_34 : decode cX5_init 34 = .ok (.aload_n 0, 1) := by decide +kernel
theorem dX5_init_35 : decode cX5_init 35 = .ok (.iconst 0, 1) := by decide +kernel
theorem dX5_init_36 : decode cX5_init 36 = .ok (.putfield 24, 3) := by decide +kernel
theorem dX5_init_39 : decode cX5_init 39 = .ok (.return_, 1) := by decide +kernel
theorem gX5_begin_X5_forgiveAll : GoodIn wsX5_begin (wsV RX5 38 RX5 yX5_forgiveAll wsX5_forgiveAll) := gwV aw_240 aw_241 aw_242 aw_24 aw_243
theorem dX5_begin_0 : decode cX5_begin 0 = .ok (.aload_n 1, 1) := by decide +kernel
theorem dX5_begin_1 : decode cX5_begin 1 = .ok (.getfield 28, 3) := by decide +kernel
theorem dX5_begin_4 : decode cX5_begin 4 = .ok (.iconst 0, 1) := by decide +kernel
theorem dX5_begin_5 : decode cX5_begin 5 = .ok (.aload_n 0, 1) := by decide +kernel
theorem dX5_begin_6 : decode cX5_begin 6 = .ok (.getfield 9, 3) := by decide +kernel
theorem dX5_begin_9 : decode cX5_begin 9 = .ok (.iconst 0, 1) := by decide +kernel
theorem dX5_begin_10 : decode cX5_begin 10 = .ok (.aload_n 0, 1) := by decide +kernel
theorem dX5_begin_11 : decode cX5_begin 11 = .ok (.getfield 9, 3) := by decide +kernel
theorem dX5_begin_14 : decode cX5_begin 14 = .ok (.arraylength, 1) := by decide +kernel
theorem dX5_begin_15 : decode cX5_begin 15 = .ok (.invokestatic 31, 3) := by decide +kernel
theorem dX5_begin_18 : decode cX5_begin 18 = .ok (.aload_n 1, 1) := by decide +kernel
theorem dX5_begin_19 : decode cX5_begin 19 = .ok (.getfield 37, 3) := by decide +kernel
theorem dX5_begin_22 : decode cX5_begin 22 = .ok (.iconst 0, 1) := by decide +kernel
theorem dX5_begin_23 : decode cX5_begin 23 = .ok (.aload_n 0, 1) := by decide +kernel
theorem dX5_begin_24 : decode cX5_begin 24 = .ok (.getfield 15, 3) := by decide +kernel
theorem dX5_begin_27 : decode cX5_begin 27 = .ok (.iconst 0, 1) := by decide +kernel
theorem dX5_begin_28 : decode cX5_begin 28 = .ok (.aload_n 0, 1) := by decide +kernel
theorem dX5_begin_29 : decode cX5_begin 29 = .ok (.getfield 15, 3) := by decide +kernel
theorem dX5_begin_32 : decode cX5_begin 32 = .ok (.arraylength, 1) := by decide +kernel
theorem dX5_begin_33 : decode cX5_begin 33 = .ok (.invokestatic 31, 3) := by decide +kernel
theorem dX5_begin_36 : decode cX5_begin 36 = .ok (.aload_n 0, 1) := by decide +kernel
theorem dX5_begin_37 : decode cX5_begin 37 = .ok (.invokevirtual 38, 3) := by decide +kernel
theorem dX5_begin_40 : decode cX5_begin 40 = .ok (.aload_n 0, 1) := by decide +kernel
theorem dX5_begin_41 : decode cX5_begin 41 = .ok (.iconst 0, 1) := by decide +kernel
theorem dX5_begin_42 : decode cX5_begin 42 = .ok (.putfield 24, 3) := by decide +kernel
theorem dX5_begin_45 : decode cX5_begin 45 = .ok (.return_, 1) := by decide +kernel
theorem dX5_forgiveAll_0 : decode cX5_forgiveAll 0 = .ok (.iconst 0, 1) := by decide +kernel
theorem dX5_forgiveAll_1 : decode cX5_forgiveAll 1 = .ok (.istore_n 1, 1) := by decide +kernel
theorem dX5_forgiveAll_2 : decode cX5_forgiveAll 2 = .ok (.iload_n 1, 1) := by decide +kernel
theorem dX5_forgiveAll_3 : decode cX5_forgiveAll 3 = .ok (.aload_n 0, 1) := by decide +kernel
theorem dX5_forgiveAll_4 : decode cX5_forgiveAll 4 = .ok (.getfield 21, 3) := by decide +kernel
theorem dX5_forgiveAll_7 : decode cX5_forgiveAll 7 = .ok (.arraylength, 1) := by decide +kernel
theorem dX5_forgiveAll_8 : decode cX5_forgiveAll 8 = .ok (.if_icmp .ge 16, 3) := by decide +kernel
theorem dX5_forgiveAll_11 : decode cX5_forgiveAll 11 = .ok (.aload_n 0, 1) := by decide +kernel
theorem dX5_forgiveAll_12 : decode cX5_forgiveAll 12 = .ok (.getfield 21, 3) := by decide +kernel
theorem dX5_forgiveAll_15 : decode cX5_forgiveAll 15 = .ok (.iload_n 1, 1) := by decide +kernel
theorem dX5_forgiveAll_16 : decode cX5_forgiveAll 16 = .ok (.iconst 0, 1) := by decide +kernel
theorem dX5_forgiveAll_17 : decode cX5_forgiveAll 17 = .ok (.iastore, 1) := by decide +kernel
theorem dX5_forgiveAll_18 : decode cX5_forgiveAll 18 = .ok (.iinc 1 1, 3) := by decide +kernel
theorem dX5_forgiveAll_21 : decode cX5_forgiveAll 21 = .ok (.goto (-19), 3) := by decide +kernel
theorem dX5_forgiveAll_24 : decode cX5_forgiveAll 24 = .ok (.return_, 1) := by decide +kernel
theorem dX5_copyFrom_0 : decode cX5_copyFrom 0 = .ok (.aload_n 1, 1) := by decide +kernel
theorem dX5_copyFrom_1 : decode cX5_copyFrom 1 = .ok (.getfield 9, 3) := by decide +kernel
theorem dX5_copyFrom_4 : decode cX5_copyFrom 4 = .ok (.iconst 0, 1) := by decide +kernel
theorem dX5_copyFrom_5 : decode cX5_copyFrom 5 = .ok (.aload_n 0, 1) := by decide +kernel
theorem dX5_copyFrom_6 : decode cX5_copyFrom 6 = .ok (.getfield 9, 3) := by decide +kernel
theorem dX5_copyFrom_9 : decode cX5_copyFrom 9 = .ok (.iconst 0, 1) := by decide +kernel
theorem dX5_copyFrom_10 : decode cX5_copyFrom 10 = .ok (.aload_n 0, 1) := by decide +kernel
theorem dX5_copyFrom_11 : decode cX5_copyFrom 11 = .ok (.getfield 9, 3) := by decide +kernel
theorem dX5_copyFrom_14 : decode cX5_copyFrom 14 = .ok (.arraylength, 1) := by decide +kernel
theorem dX5_copyFrom_15 : decode cX5_copyFrom 15 = .ok (.invokestatic 31, 3) := by decide +kernel
theorem dX5_copyFrom_18 : decode cX5_copyFrom 18 = .ok (.aload_n 1, 1) := by decide +kernel
theorem dX5_copyFrom_19 : decode cX5_copyFrom 19 = .ok (.getfield 15, 3) := by decide +kernel
theorem dX5_copyFrom_22 : decode cX5_copyFrom 22 = .ok (.iconst 0, 1) := by decide +kernel
theorem dX5_copyFrom_23 : decode cX5_copyFrom 23 = .ok (.aload_n 0, 1) := by decide +kernel
theorem dX5_copyFrom_24 : decode cX5_copyFrom 24 = .ok (.getfield 15, 3) := by decide +kernel
theorem dX5_copyFrom_27 : decode cX5_copyFrom 27 = .ok (.iconst 0, 1) := by decide +kernel
theorem dX5_copyFrom_28 : decode cX5_copyFrom 28 = .ok (.aload_n 0, 1) := by decide +kernel
theorem dX5_copyFrom_29 : decode cX5_copyFrom 29 = .ok (.getfield 15, 3) := by decide +kernel
theorem dX5_copyFrom_32 : decode cX5_copyFrom 32 = .ok (.arraylength, 1) := by decide +kernel
theorem dX5_copyFrom_33 : decode cX5_copyFrom 33 = .ok (.invokestatic 31, 3) := by decide +kernel
theorem dX5_copyFrom_36 : decode cX5_copyFrom 36 = .ok (.aload_n 1, 1) := by decide +kernel
theorem dX5_copyFrom_37 : decode cX5_copyFrom 37 = .ok (.getfield 18, 3) := by decide +kernel
theorem dX5_copyFrom_40 : decode cX5_copyFrom 40 = .ok (.iconst 0, 1) := by decide +kernel
theorem dX5_copyFrom_41 : decode cX5_copyFrom 41 = .ok (.aload_n 0, 1) := by decide +kernel
theorem dX5_copyFrom_42 : decode cX5_copyFrom 42 = .ok (.getfield 18, 3) := by decide +kernel
theorem dX5_copyFrom_45 : decode cX5_copyFrom 45 = .ok (.iconst 0, 1) := by decide +kernel
theorem dX5_copyFrom_46 : decode cX5_copyFrom 46 = .ok (.aload_n 0, 1) := by decide +kernel
theorem dX5_copyFrom_47 : decode cX5_copyFrom 47 = .ok (.getfield 18, 3) := by decide +kernel
theorem dX5_copyFrom_50 : decode cX5_copyFrom 50 = .ok (.arraylength, 1) := by decide +kernel
theorem dX5_copyFrom_51 : decode cX5_copyFrom 51 = .ok (.invokestatic 31, 3) := by decide +kernel
theorem dX5_copyFrom_54 : decode cX5_copyFrom 54 = .ok (.aload_n 1, 1) := by decide +kernel
theorem dX5_copyFrom_55 : decode cX5_copyFrom 55 = .ok (.getfield 21, 3) := by decide +kernel
theorem dX5_copyFrom_58 : decode cX5_copyFrom 58 = .ok (.iconst 0, 1) := by decide +kernel
theorem dX5_copyFrom_59 : decode cX5_copyFrom 59 = .ok (.aload_n 0, 1) := by decide +kernel
theorem dX5_copyFrom_60 : decode cX5_copyFrom 60 = .ok (.getfield 21, 3) := by decide +kernel
theorem dX5_copyFrom_63 : decode cX5_copyFrom 63 = .ok (.iconst 0, 1) := by decide +kernel
theorem dX5_copyFrom_64 : decode cX5_copyFrom 64 = .ok (.aload_n 0, 1) := by decide +kernel
theorem dX5_copyFrom_65 : decode cX5_copyFrom 65 = .ok (.getfield 21, 3) := by decide +kernel
theorem dX5_copyFrom_68 : decode cX5_copyFrom 68 = .ok (.arraylength, 1) := by decide +kernel
theorem dX5_copyFrom_69 : decode cX5_copyFrom 69 = .ok (.invokestatic 31, 3) := by decide +kernel
theorem dX5_copyFrom_72 : decode cX5_copyFrom 72 = .ok (.aload_n 0, 1) := by decide +kernel
theorem dX5_copyFrom_73 : decode cX5_copyFrom 73 = .ok (.aload_n 1, 1) := by decide +kernel
theorem dX5_copyFrom_74 : decode cX5_copyFrom 74 = .ok (.getfield 24, 3) := by decide +kernel
theorem dX5_copyFrom_77 : decode cX5_copyFrom 77 = .ok (.putfield 24, 3) := by decide +kernel
theorem dX5_copyFrom_80 : decode cX5_copyFrom 80 = .ok (.return_, 1) := by decide +kernel
theorem dX6_init_0 : decode cX6_init 0 = .ok (.aload_n 0, 1) := by decide +kernel
theorem dX6_init_1 : decode cX6_init 1 = .ok (.invokespecial 3, 3) := by decide +kernel
theorem dX6_init_4 : decode cX6_init 4 = .ok (.aload_n 0, 1) := by decide +kernel
theorem dX6_init_5 : decode cX6_init 5 = .ok (.aload_n 1, 1) := by decide +kernel
theorem dX6_init_6 : decode cX6_init 6 = .ok (.putfield 9, 3) := by decide +kernel
theorem dX6_init_9 : decode cX6_init 9 = .ok (.aload_n 0, 1) := by decide +kernel
theorem dX6_init_10 : decode cX6_init 10 = .ok (.aload_n 2, 1) := by decide +kernel
theorem dX6_init_11 : decode cX6_init 11 = .ok (.putfield 15, 3) := by decide +kernel
theorem dX6_init_14 : decode cX6_init 14 = .ok (.return_, 1) := by decide +kernel
theorem dX6_everyone_0 : decode cX6_everyone 0 = .ok (.iconst 1, 1) := by decide +kernel
theorem dX6_everyone_1 : decode cX6_everyone 1 = .ok (.aload_n 0, 1) := by decide +kernel
theorem dX6_everyone_2 : decode cX6_everyone 2 = .ok (.getfield 9, 3) := by decide +kernel
theorem dX6_everyone_5 : decode cX6_everyone 5 = .ok (.getfield 19, 3) := by decide +kernel
theorem dX6_everyone_8 : decode cX6_everyone 8 = .ok (.ishl, 1) := by decide +kernel
theorem dX6_everyone_9 : decode cX6_everyone 9 = .ok (.iconst 1, 1) := by decide +kernel
theorem dX6_everyone_10 : decode cX6_everyone 10 = .ok (.isub, 1) := by decide +kernel
theorem dX6_everyone_11 : decode cX6_everyone 11 = .ok (.ireturn, 1) := by decide +kernel
theorem gX6_knowersByCall_X6_listeners : GoodIn wsX6_knowersByCall (wsV RX6 25 RX6 yX6_listeners wsX6_listeners) := gwV aw_248 aw_249 aw_250 aw_28 aw_251
theorem dX6_knowersByCall_0 : decode cX6_knowersByCall 0 = .ok (.iconst 1, 1) := by decide +kernel
theorem dX6_knowersByCall_1 : decode cX6_knowersByCall 1 = .ok (.iload_n 1, 1) := by decide +kernel
theorem dX6_knowersByCall_2 : decode cX6_knowersByCall 2 = .ok (.ishl, 1) := by decide +kernel
theorem dX6_knowersByCall_3 : decode cX6_knowersByCall 3 = .ok (.aload_n 0, 1) := by decide +kernel
theorem dX6_knowersByCall_4 : decode cX6_knowersByCall 4 = .ok (.iload_n 1, 1) := by decide +kernel
theorem dX6_knowersByCall_5 : decode cX6_knowersByCall 5 = .ok (.invokevirtual 25, 3) := by decide +kernel
theorem dX6_knowersByCall_8 : decode cX6_knowersByCall 8 = .ok (.ior, 1) := by decide +kernel
theorem dX6_knowersByCall_9 : decode cX6_knowersByCall 9 = .ok (.ireturn, 1) := by decide +kernel
theorem gX6_listeners_X6_dearestOnes : GoodIn wsX6_listeners (wsV RX6 33 RX6 yX6_dearestOnes wsX6_dearestOnes) := gwV aw_254 aw_255 aw_256 aw_28 aw_257
theorem gX6_listeners_X6_likedOnes : GoodIn wsX6_listeners (wsV RX6 37 RX6 yX6_likedOnes wsX6_likedOnes) := gwV aw_269 aw_270 aw_271 aw_28 aw_272
theorem dX6_listeners_0 : decode cX6_listeners 0 = .ok (.iload_n 1, 1) := by decide +kernel
theorem dX6_listeners_1 : decode cX6_listeners 1 = .ok (.ifCond .lt 14, 3) := by decide +kernel
theorem dX6_listeners_4 : decode cX6_listeners 4 = .ok (.iload_n 1, 1) := by decide +kernel
theorem dX6_listeners_5 : decode cX6_listeners 5 = .ok (.aload_n 0, 1) := by decide +kernel
theorem dX6_listeners_6 : decode cX6_listeners 6 = .ok (.getfield 9, 3) := by decide +kernel
theorem dX6_listeners_9 : decode cX6_listeners 9 = .ok (.getfield 19, 3) := by decide +kernel
theorem dX6_listeners_12 : decode cX6_listeners 12 = .ok (.if_icmp .lt 5, 3) := by decide +kernel
theorem dX6_listeners_15 : decode cX6_listeners 15 = .ok (.iconst 0, 1) := by decide +kernel
theorem dX6_listeners_16 : decode cX6_listeners 16 = .ok (.ireturn, 1) := by decide +kernel
theorem dX6_listeners_17 : decode cX6_listeners 17 = .ok (.aload_n 0, 1) := by decide +kernel
theorem dX6_listeners_18 : decode cX6_listeners 18 = .ok (.getfield 9, 3) := by decide +kernel
theorem dX6_listeners_21 : decode cX6_listeners 21 = .ok (.getfield 29, 3) := by decide +kernel
theorem dX6_listeners_24 : decode cX6_listeners 24 = .ok (.iload_n 1, 1) := by decide +kernel
theorem dX6_listeners_25 : decode cX6_listeners 25 = .ok (.iaload, 1) := by decide +kernel
theorem dX6_listeners_26 : decode cX6_listeners 26 = .ok (.tableswitch 52 0 3 #[30, 37, 52, 44], 30) := by decide +kernel
theorem dX6_listeners_56 : decode cX6_listeners 56 = .ok (.aload_n 0, 1) := by decide +kernel
theorem dX6_listeners_57 : decode cX6_listeners 57 = .ok (.iload_n 1, 1) := by decide +kernel
theorem dX6_listeners_58 : decode cX6_listeners 58 = .ok (.iconst 2, 1) := by decide +kernel
theorem dX6_listeners_59 : decode cX6_listeners 59 = .ok (.invokevirtual 33, 3) := by decide +kernel
theorem dX6_listeners_62 : decode cX6_listeners 62 = .ok (.ireturn, 1) := by decide +kernel
theorem dX6_listeners_63 : decode cX6_listeners 63 = .ok (.aload_n 0, 1) := by decide +kernel
theorem dX6_listeners_64 : decode cX6_listeners 64 = .ok (.iload_n 1, 1) := by decide +kernel
theorem dX6_listeners_65 : decode cX6_listeners 65 = .ok (.iconst 3, 1) := by decide +kernel
theorem dX6_listeners_66 : decode cX6_listeners 66 = .ok (.invokevirtual 33, 3) := by decide +kernel
theorem dX6_listeners_69 : decode cX6_listeners 69 = .ok (.ireturn, 1) := by decide +kernel
theorem dX6_listeners_70 : decode cX6_listeners 70 = .ok (.aload_n 0, 1) := by decide +kernel
theorem dX6_listeners_71 : decode cX6_listeners 71 = .ok (.iload_n 1, 1) := by decide +kernel
theorem dX6_listeners_72 : decode cX6_listeners 72 = .ok (.bipush 8, 2) := by decide +kernel
theorem dX6_listeners_74 : decode cX6_listeners 74 = .ok (.invokevirtual 37, 3) := by decide +kernel
theorem dX6_listeners_77 : decode cX6_listeners 77 = .ok (.ireturn, 1) := by decide +kernel
theorem dX6_listeners_78 : decode cX6_listeners 78 = .ok (.iconst 0, 1) := by decide +kernel
theorem dX6_listeners_79 : decode cX6_listeners 79 = .ok (.ireturn, 1) := by decide +kernel
theorem gX6_dearestOnes_X6_everyone : GoodIn wsX6_dearestOnes (wsV RX6 40 RX6 yX6_everyone wsX6_everyone) := gwV aw_258 aw_259 aw_260 aw_28 aw_261
theorem gX6_dearestOnes_X6_dearestOf : GoodIn wsX6_dearestOnes (wsV RX6 44 RX6 yX6_dearestOf wsX6_dearestOf) := gwV aw_262 aw_263 aw_264 aw_28 aw_265
theorem dX6_dearestOnes_0 : decode cX6_dearestOnes 0 = .ok (.iconst 0, 1) := by decide +kernel
theorem dX6_dearestOnes_1 : decode cX6_dearestOnes 1 = .ok (.istore_n 3, 1) := by decide +kernel
theorem dX6_dearestOnes_2 : decode cX6_dearestOnes 2 = .ok (.iconst 0, 1) := by decide +kernel
theorem dX6_dearestOnes_3 : decode cX6_dearestOnes 3 = .ok (.istore 4, 2) := by decide +kernel
theorem dX6_dearestOnes_5 : decode cX6_dearestOnes 5 = .ok (.iload 4, 2) := by decide +kernel
theorem dX6_dearestOnes_7 : decode cX6_dearestOnes 7 = .ok (.iload_n 2, 1) := by decide +kernel
theorem dX6_dearestOnes_8 : decode cX6_dearestOnes 8 = .ok (.if_icmp .ge 31, 3) := by decide +kernel
theorem dX6_dearestOnes_11 : decode cX6_dearestOnes 11 = .ok (.iload_n 3, 1) := by decide +kernel
theorem dX6_dearestOnes_12 : decode cX6_dearestOnes 12 = .ok (.aload_n 0, 1) := by decide +kernel
theorem dX6_dearestOnes_13 : decode cX6_dearestOnes 13 = .ok (.iload_n 1, 1) := by decide +kernel
theorem dX6_dearestOnes_14 : decode cX6_dearestOnes 14 = .ok (.aload_n 0, 1) := by decide +kernel
theorem dX6_dearestOnes_15 : decode cX6_dearestOnes 15 = .ok (.invokevirtual 40, 3) := by decide +kernel
theorem dX6_dearestOnes_18 : decode cX6_dearestOnes 18 = .ok (.iconst 1, 1) := by decide +kernel
theorem dX6_dearestOnes_19 : decode cX6_dearestOnes 19 = .ok (.iload_n 1, 1) := by decide +kernel
theorem dX6_dearestOnes_20 : decode cX6_dearestOnes 20 = .ok (.ishl, 1) := by decide +kernel
theorem dX6_dearestOnes_21 : decode cX6_dearestOnes 21 = .ok (.iconst (-1), 1) := by decide +kernel
theorem dX6_dearestOnes_22 : decode cX6_dearestOnes 22 = .ok (.ixor, 1) := by decide +kernel
theorem dX6_dearestOnes_23 : decode cX6_dearestOnes 23 = .ok (.iand, 1) := by decide +kernel
theorem dX6_dearestOnes_24 : decode cX6_dearestOnes 24 = .ok (.iload_n 3, 1) := by decide +kernel
theorem dX6_dearestOnes_25 : decode cX6_dearestOnes 25 = .ok (.iconst (-1), 1) := by decide +kernel
theorem dX6_dearestOnes_26 : decode cX6_dearestOnes 26 = .ok (.ixor, 1) := by decide +kernel
theorem dX6_dearestOnes_27 : decode cX6_dearestOnes 27 = .ok (.iand, 1) := by decide +kernel
theorem dX6_dearestOnes_28 : decode cX6_dearestOnes 28 = .ok (.invokevirtual 44, 3) := by decide +kernel
theorem dX6_dearestOnes_31 : decode cX6_dearestOnes 31 = .ok (.ior, 1) := by decide +kernel
theorem dX6_dearestOnes_32 : decode cX6_dearestOnes 32 = .ok (.istore_n 3, 1) := by decide +kernel
theorem dX6_dearestOnes_33 : decode cX6_dearestOnes 33 = .ok (.iinc 4 1, 3) := by decide +kernel
theorem dX6_dearestOnes_36 : decode cX6_dearestOnes 36 = .ok (.goto (-31), 3) := by decide +kernel
theorem dX6_dearestOnes_39 : decode cX6_dearestOnes 39 = .ok (.iload_n 3, 1) := by decide +kernel
theorem dX6_dearestOnes_40 : decode cX6_dearestOnes 40 = .ok (.ireturn, 1) := by decide +kernel
theorem gX6_dearestOf_X7_pair_n52 : GoodIn wsX6_dearestOf wsX7_pair := gwc aw_191
theorem gX6_dearestOf_X7_has_n55 : GoodIn wsX6_dearestOf wsX7_has := gwc aw_268
theorem dX6_dearestOf_0 : decode cX6_dearestOf 0 = .ok (.iconst 0, 1) := by decide +kernel
theorem dX6_dearestOf_1 : decode cX6_dearestOf 1 = .ok (.istore_n 3, 1) := by decide +kernel
theorem dX6_dearestOf_2 : decode cX6_dearestOf 2 = .ok (.iconst 0, 1) := by decide +kernel
theorem dX6_dearestOf_3 : decode cX6_dearestOf 3 = .ok (.istore 4, 2) := by decide +kernel
theorem dX6_dearestOf_5 : decode cX6_dearestOf 5 = .ok (.iconst 0, 1) := by decide +kernel
theorem dX6_dearestOf_6 : decode cX6_dearestOf 6 = .ok (.istore 5, 2) := by decide +kernel
theorem dX6_dearestOf_8 : decode cX6_dearestOf 8 = .ok (.iload 5, 2) := by decide +kernel
theorem dX6_dearestOf_10 : decode cX6_dearestOf 10 = .ok (.aload_n 0, 1) := by decide +kernel
theorem dX6_dearestOf_11 : decode cX6_dearestOf 11 = .ok (.getfield 9, 3) := by decide +kernel
theorem dX6_dearestOf_14 : decode cX6_dearestOf 14 = .ok (.getfield 19, 3) := by decide +kernel
theorem dX6_dearestOf_17 : decode cX6_dearestOf 17 = .ok (.if_icmp .ge 50, 3) := by decide +kernel
theorem dX6_dearestOf_20 : decode cX6_dearestOf 20 = .ok (.aload_n 0, 1) := by decide +kernel
theorem dX6_dearestOf_21 : decode cX6_dearestOf 21 = .ok (.getfield 15, 3) := by decide +kernel
theorem dX6_dearestOf_24 : decode cX6_dearestOf 24 = .ok (.getfield 47, 3) := by decide +kernel
theorem dX6_dearestOf_27 : decode cX6_dearestOf 27 = .ok (.iload_n 1, 1) := by decide +kernel
theorem dX6_dearestOf_28 : decode cX6_dearestOf 28 = .ok (.iload 5, 2) := by decide +kernel
theorem dX6_dearestOf_30 : decode cX6_dearestOf 30 = .ok (.invokestatic 52, 3) := by decide +kernel
theorem dX6_dearestOf_33 : decode cX6_dearestOf 33 = .ok (.iaload, 1) := by decide +kernel
theorem dX6_dearestOf_34 : decode cX6_dearestOf 34 = .ok (.istore 6, 2) := by decide +kernel
theorem dX6_dearestOf_36 : decode cX6_dearestOf 36 = .ok (.iload_n 2, 1) := by decide +kernel
theorem dX6_dearestOf_37 : decode cX6_dearestOf 37 = .ok (.iload 5, 2) := by decide +kernel
theorem dX6_dearestOf_39 : decode cX6_dearestOf 39 = .ok (.invokestatic 55, 3) := by decide +kernel
theorem dX6_dearestOf_42 : decode cX6_dearestOf 42 = .ok (.ifCond .eq 19, 3) := by decide +kernel
theorem dX6_dearestOf_45 : decode cX6_dearestOf 45 = .ok (.iload 6, 2) := by decide +kernel
theorem dX6_dearestOf_47 : decode cX6_dearestOf 47 = .ok (.iload 4, 2) := by decide +kernel
theorem dX6_dearestOf_49 : decode cX6_dearestOf 49 = .ok (.if_icmp .le 12, 3) := by decide +kernel
theorem dX6_dearestOf_52 : decode cX6_dearestOf 52 = .ok (.iconst 1, 1) := by decide +kernel
theorem dX6_dearestOf_53 : decode cX6_dearestOf 53 = .ok (.iload 5, 2) := by decide +kernel
theorem dX6_dearestOf_55 : decode cX6_dearestOf 55 = .ok (.ishl, 1) := by decide +kernel
theorem dX6_dearestOf_56 : decode cX6_dearestOf 56 = .ok (.istore_n 3, 1) := by decide +kernel
theorem dX6_dearestOf_57 : decode cX6_dearestOf 57 = .ok (.iload 6, 2) := by decide +kernel
theorem dX6_dearestOf_59 : decode cX6_dearestOf 59 = .ok (.istore 4, 2) := by decide +kernel
theorem dX6_dearestOf_61 : decode cX6_dearestOf 61 = .ok (.iinc 5 1, 3) := by decide +kernel
theorem dX6_dearestOf_64 : decode cX6_dearestOf 64 = .ok (.goto (-56), 3) := by decide +kernel
theorem dX6_dearestOf_67 : decode cX6_dearestOf 67 = .ok (.iload_n 3, 1) := by decide +kernel
theorem dX6_dearestOf_68 : decode cX6_dearestOf 68 = .ok (.ireturn, 1) := by decide +kernel
theorem gX6_likedOnes_X7_pair_n52 : GoodIn wsX6_likedOnes wsX7_pair := gwc aw_191
theorem dX6_likedOnes_0 : decode cX6_likedOnes 0 = .ok (.iconst 0, 1) := by decide +kernel
theorem dX6_likedOnes_1 : decode cX6_likedOnes 1 = .ok (.istore_n 3, 1) := by decide +kernel
theorem dX6_likedOnes_2 : decode cX6_likedOnes 2 = .ok (.iconst 0, 1) := by decide +kernel
theorem dX6_likedOnes_3 : decode cX6_likedOnes 3 = .ok (.istore 4, 2) := by decide +kernel
theorem dX6_likedOnes_5 : decode cX6_likedOnes 5 = .ok (.iload 4, 2) := by decide +kernel
theorem dX6_likedOnes_7 : decode cX6_likedOnes 7 = .ok (.aload_n 0, 1) := by decide +kernel
theorem dX6_likedOnes_8 : decode cX6_likedOnes 8 = .ok (.getfield 9, 3) := by decide +kernel
theorem dX6_likedOnes_11 : decode cX6_likedOnes 11 = .ok (.getfield 19, 3) := by decide +kernel
theorem dX6_likedOnes_14 : decode cX6_likedOnes 14 = .ok (.if_icmp .ge 40, 3) := by decide +kernel
theorem dX6_likedOnes_17 : decode cX6_likedOnes 17 = .ok (.iload 4, 2) := by decide +kernel
theorem dX6_likedOnes_19 : decode cX6_likedOnes 19 = .ok (.iload_n 1, 1) := by decide +kernel
theorem dX6_likedOnes_20 : decode cX6_likedOnes 20 = .ok (.if_icmp .eq 28, 3) := by decide +kernel
theorem dX6_likedOnes_23 : decode cX6_likedOnes 23 = .ok (.aload_n 0, 1) := by decide +kernel
theorem dX6_likedOnes_24 : decode cX6_likedOnes 24 = .ok (.getfield 15, 3) := by decide +kernel
theorem dX6_likedOnes_27 : decode cX6_likedOnes 27 = .ok (.getfield 47, 3) := by decide +kernel
theorem dX6_likedOnes_30 : decode cX6_likedOnes 30 = .ok (.iload_n 1, 1) := by decide +kernel
theorem dX6_likedOnes_31 : decode cX6_likedOnes 31 = .ok (.iload 4, 2) := by decide +kernel
theorem dX6_likedOnes_33 : decode cX6_likedOnes 33 = .ok (.invokestatic 52, 3) := by decide +kernel
theorem dX6_likedOnes_36 : decode cX6_likedOnes 36 = .ok (.iaload, 1) := by decide +kernel
theorem dX6_likedOnes_37 : decode cX6_likedOnes 37 = .ok (.iload_n 2, 1) := by decide +kernel
theorem dX6_likedOnes_38 : decode cX6_likedOnes 38 = .ok (.if_icmp .lt 10, 3) := by decide +kernel
theorem dX6_likedOnes_41 : decode cX6_likedOnes 41 = .ok (.iload_n 3, 1) := by decide +kernel
theorem dX6_likedOnes_42 : decode cX6_likedOnes 42 = .ok (.iconst 1, 1) := by decide +kernel
theorem dX6_likedOnes_43 : decode cX6_likedOnes 43 = .ok (.iload 4, 2) := by decide +kernel
theorem dX6_likedOnes_45 : decode cX6_likedOnes 45 = .ok (.ishl, 1) := by decide +kernel
theorem dX6_likedOnes_46 : decode cX6_likedOnes 46 = .ok (.ior, 1) := by decide +kernel
theorem dX6_likedOnes_47 : decode cX6_likedOnes 47 = .ok (.istore_n 3, 1) := by decide +kernel
theorem dX6_likedOnes_48 : decode cX6_likedOnes 48 = .ok (.iinc 4 1, 3) := by decide +kernel
theorem dX6_likedOnes_51 : decode cX6_likedOnes 51 = .ok (.goto (-46), 3) := by decide +kernel
theorem dX6_likedOnes_54 : decode cX6_likedOnes 54 = .ok (.iload_n 3, 1) := by decide +kernel
theorem dX6_likedOnes_55 : decode cX6_likedOnes 55 = .ok (.ireturn, 1) := by decide +kernel
theorem gX6_afterDay_X7_has_n55 : GoodIn wsX6_afterDay wsX7_has := gwc aw_268
theorem gX6_afterDay_X6_everyone : GoodIn wsX6_afterDay (wsV RX6 40 RX6 yX6_everyone wsX6_everyone) := gwV aw_258 aw_259 aw_260 aw_28 aw_261
theorem gX6_afterDay_X6_dearestOf : GoodIn wsX6_afterDay (wsV RX6 44 RX6 yX6_dearestOf wsX6_dearestOf) := gwV aw_262 aw_263 aw_264 aw_28 aw_265
theorem dX6_afterDay_0 : decode cX6_afterDay 0 = .ok (.iconst 0, 1) := by decide +kernel
theorem dX6_afterDay_1 : decode cX6_afterDay 1 = .ok (.istore_n 2, 1) := by decide +kernel
theorem dX6_afterDay_2 : decode cX6_afterDay 2 = .ok (.iconst 0, 1) := by decide +kernel
theorem dX6_afterDay_3 : decode cX6_afterDay 3 = .ok (.istore_n 3, 1) := by decide +kernel
theorem dX6_afterDay_4 : decode cX6_afterDay 4 = .ok (.iload_n 3, 1) := by decide +kernel
theorem dX6_afterDay_5 : decode cX6_afterDay 5 = .ok (.aload_n 0, 1) := by decide +kernel
theorem dX6_afterDay_6 : decode cX6_afterDay 6 = .ok (.getfield 9, 3) := by decide +kernel
theorem dX6_afterDay_9 : decode cX6_afterDay 9 = .ok (.getfield 19, 3) := by decide +kernel
theorem dX6_afterDay_12 : decode cX6_afterDay 12 = .ok (.if_icmp .ge 46, 3) := by decide +kernel
theorem dX6_afterDay_15 : decode cX6_afterDay 15 = .ok (.iload_n 1, 1) := by decide +kernel
theorem dX6_afterDay_16 : decode cX6_afterDay 16 = .ok (.iload_n 3, 1) := by decide +kernel
theorem dX6_afterDay_17 : decode cX6_afterDay 17 = .ok (.invokestatic 55, 3) := by decide +kernel
theorem dX6_afterDay_20 : decode cX6_afterDay 20 = .ok (.ifCond .eq 32, 3) := by decide +kernel
theorem dX6_afterDay_23 : decode cX6_afterDay 23 = .ok (.aload_n 0, 1) := by decide +kernel
theorem dX6_afterDay_24 : decode cX6_afterDay 24 = .ok (.getfield 9, 3) := by decide +kernel
theorem dX6_afterDay_27 : decode cX6_afterDay 27 = .ok (.getfield 29, 3) := by decide +kernel
theorem dX6_afterDay_30 : decode cX6_afterDay 30 = .ok (.iload_n 3, 1) := by decide +kernel
theorem dX6_afterDay_31 : decode cX6_afterDay 31 = .ok (.iaload, 1) := by decide +kernel
theorem dX6_afterDay_32 : decode cX6_afterDay 32 = .ok (.iconst 1, 1) := by decide +kernel
theorem dX6_afterDay_33 : decode cX6_afterDay 33 = .ok (.if_icmp .ne 19, 3) := by decide +kernel
theorem dX6_afterDay_36 : decode cX6_afterDay 36 = .ok (.iload_n 2, 1) := by decide +kernel
theorem dX6_afterDay_37 : decode cX6_afterDay 37 = .ok (.aload_n 0, 1) := by decide +kernel
theorem dX6_afterDay_38 : decode cX6_afterDay 38 = .ok (.iload_n 3, 1) := by decide +kernel
theorem dX6_afterDay_39 : decode cX6_afterDay 39 = .ok (.aload_n 0, 1) := by decide +kernel
theorem dX6_afterDay_40 : decode cX6_afterDay 40 = .ok (.invokevirtual 40, 3) := by decide +kernel
theorem dX6_afterDay_43 : decode cX6_afterDay 43 = .ok (.iload_n 1, 1) := by decide +kernel
theorem dX6_afterDay_44 : decode cX6_afterDay 44 = .ok (.iconst (-1), 1) := by decide +kernel
theorem dX6_afterDay_45 : decode cX6_afterDay 45 = .ok (.ixor, 1) := by decide +kernel
theorem dX6_afterDay_46 : decode cX6_afterDay 46 = .ok (.iand, 1) := by decide +kernel
theorem dX6_afterDay_47 : decode cX6_afterDay 47 = .ok (.invokevirtual 44, 3) := by decide +kernel
theorem dX6_afterDay_50 : decode cX6_afterDay 50 = .ok (.ior, 1) := by decide +kernel
theorem dX6_afterDay_51 : decode cX6_afterDay 51 = .ok (.istore_n 2, 1) := by decide +kernel
theorem dX6_afterDay_52 : decode cX6_afterDay 52 = .ok (.iinc 3 1, 3) := by decide +kernel
theorem dX6_afterDay_55 : decode cX6_afterDay 55 = .ok (.goto (-51), 3) := by decide +kernel
theorem dX6_afterDay_58 : decode cX6_afterDay 58 = .ok (.iload_n 1, 1) := by decide +kernel
theorem dX6_afterDay_59 : decode cX6_afterDay 59 = .ok (.iload_n 2, 1) := by decide +kernel
theorem dX6_afterDay_60 : decode cX6_afterDay 60 = .ok (.ior, 1) := by decide +kernel
theorem dX6_afterDay_61 : decode cX6_afterDay 61 = .ok (.ireturn, 1) := by decide +kernel
theorem gX6_afterDays_X6_afterDay : GoodIn wsX6_afterDays (wsV RX6 59 RX6 yX6_afterDay wsX6_afterDay) := gwV aw_590 aw_533 aw_534 aw_28 aw_535
theorem dX6_afterDays_0 : decode cX6_afterDays 0 = .ok (.iload_n 1, 1) := by decide +kernel
theorem dX6_afterDays_1 : decode cX6_afterDays 1 = .ok (.istore_n 3, 1) := by decide +kernel
theorem dX6_afterDays_2 : decode cX6_afterDays 2 = .ok (.iconst 0, 1) := by decide +kernel
theorem dX6_afterDays_3 : decode cX6_afterDays 3 = .ok (.istore 4, 2) := by decide +kernel
theorem dX6_afterDays_5 : decode cX6_afterDays 5 = .ok (.iload 4, 2) := by decide +kernel
theorem dX6_afterDays_7 : decode cX6_afterDays 7 = .ok (.iload_n 2, 1) := by decide +kernel
theorem dX6_afterDays_8 : decode cX6_afterDays 8 = .ok (.if_icmp .ge 15, 3) := by decide +kernel
theorem dX6_afterDays_11 : decode cX6_afterDays 11 = .ok (.aload_n 0, 1) := by decide +kernel
theorem dX6_afterDays_12 : decode cX6_afterDays 12 = .ok (.iload_n 3, 1) := by decide +kernel
theorem dX6_afterDays_13 : decode cX6_afterDays 13 = .ok (.invokevirtual 59, 3) := by decide +kernel
theorem dX6_afterDays_16 : decode cX6_afterDays 16 = .ok (.istore_n 3, 1) := by decide +kernel
theorem dX6_afterDays_17 : decode cX6_afterDays 17 = .ok (.iinc 4 1, 3) := by decide +kernel
theorem dX6_afterDays_20 : decode cX6_afterDays 20 = .ok (.goto (-15), 3) := by decide +kernel
theorem dX6_afterDays_23 : decode cX6_afterDays 23 = .ok (.iload_n 3, 1) := by decide +kernel
theorem dX6_afterDays_24 : decode cX6_afterDays 24 = .ok (.ireturn, 1) := by decide +kernel
theorem gX7_init_X0_init_n9 : GoodIn wsX7_init wsX0_init := gwc aw_42
theorem gX7_init_X1_init_n18 : GoodIn wsX7_init wsX1_init := gwc aw_48
theorem gX7_init_X2_init : GoodIn wsX7_init wsX2_init := gwc aw_62
theorem gX7_init_X5_init_n37 : GoodIn wsX7_init wsX5_init := gwc aw_69
theorem gX7_init_X6_init : GoodIn wsX7_init wsX6_init := gwc aw_78
theorem gX7_init_X4_init_n53 : GoodIn wsX7_init wsX4_init := gwc aw_83
theorem gX7_init_X3_init : GoodIn wsX7_init wsX3_init := gwc aw_91
theorem gX7_init_J0_length_8abf5 : GoodIn wsX7_init (wsV RX7 76 RJ0 yJ0_length_8abf5 wsJ0_length_8abf5) := gwV aw_100 aw_101 aw_102 aw_103 aw_104
theorem gX7_init_J0_charAt_5068e : GoodIn wsX7_init (wsV RX7 82 RJ0 yJ0_charAt_5068e wsJ0_charAt_5068e) := gwV aw_112 aw_113 aw_114 aw_103 aw_115
theorem gX7_init_X0_append : GoodIn wsX7_init (wsV RX7 86 RX0 yX0_append wsX0_append) := gwV aw_149 aw_150 aw_151 aw_11 aw_152
theorem gX7_init_X2_findFault : GoodIn wsX7_init (wsV RX7 90 RX2 yX2_findFault wsX2_findFault) := gwV aw_153 aw_154 aw_155 aw_19 aw_156
theorem gX7_init_X7_layDraft : GoodIn wsX7_init (wsV RX7 93 RX7 yX7_layDraft wsX7_layDraft) := gwV aw_218 aw_219 aw_220 aw_1 aw_221
theorem gX7_init_X0_clear : GoodIn wsX7_init (wsV RX7 96 RX0 yX0_clear wsX0_clear) := gwV aw_281 aw_282 aw_283 aw_11 aw_284
theorem dX7_init_0 : decode cX7_init 0 = .ok (.aload_n 0, 1) := by decide +kernel
theorem dX7_init_1 : decode cX7_init 1 = .ok (.invokespecial 1, 3) := by decide +kernel
theorem dX7_init_4 : decode cX7_init 4 = .ok (.aload_n 0, 1) := by decide +kernel
theorem dX7_init_5 : decode cX7_init 5 = .ok (.new 7, 3) := by decide +kernel
theorem dX7_init_8 : decode cX7_init 8 = .ok (.dup, 1) := by decide +kernel
theorem dX7_init_9 : decode cX7_init 9 = .ok (.invokespecial 9, 3) := by decide +kernel
theorem dX7_init_12 : decode cX7_init 12 = .ok (.putfield 10, 3) := by decide +kernel
theorem dX7_init_15 : decode cX7_init 15 = .ok (.aload_n 0, 1) := by decide +kernel
theorem dX7_init_16 : decode cX7_init 16 = .ok (.new 16, 3) := by decide +kernel
theorem dX7_init_19 : decode cX7_init 19 = .ok (.dup, 1) := by decide +kernel
theorem dX7_init_20 : decode cX7_init 20 = .ok (.invokespecial 18, 3) := by decide +kernel
theorem dX7_init_23 : decode cX7_init 23 = .ok (.putfield 19, 3) := by decide +kernel
theorem dX7_init_26 : decode cX7_init 26 = .ok (.aload_n 0, 1) := by decide +kernel
theorem dX7_init_27 : decode cX7_init 27 = .ok (.new 23, 3) := by decide +kernel
theorem dX7_init_30 : decode cX7_init 30 = .ok (.dup, 1) := by decide +kernel
theorem dX7_init_31 : decode cX7_init 31 = .ok (.aload_n 0, 1) := by decide +kernel
theorem dX7_init_32 : decode cX7_init 32 = .ok (.getfield 10, 3) := by decide +kernel
theorem dX7_init_35 : decode cX7_init 35 = .ok (.aload_n 0, 1) := by decide +kernel
theorem dX7_init_36 : decode cX7_init 36 = .ok (.getfield 19, 3) := by decide +kernel
theorem dX7_init_39 : decode cX7_init 39 = .ok (.invokespecial 25, 3) := by decide +kernel
theorem dX7_init_42 : decode cX7_init 42 = .ok (.putfield 28, 3) := by decide +kernel
theorem dX7_init_45 : decode cX7_init 45 = .ok (.aload_n 0, 1) := by decide +kernel
theorem dX7_init_46 : decode cX7_init 46 = .ok (.new 16, 3) := by decide +kernel
theorem dX7_init_49 : decode cX7_init 49 = .ok (.dup, 1) := by decide +kernel
theorem dX7_init_50 : decode cX7_init 50 = .ok (.invokespecial 18, 3) := by decide +kernel
theorem dX7_init_53 : decode cX7_init 53 = .ok (.putfield 32, 3) := by decide +kernel
theorem dX7_init_56 : decode cX7_init 56 = .ok (.aload_n 0, 1) := by decide +kernel
theorem dX7_init_57 : decode cX7_init 57 = .ok (.new 35, 3) := by decide +kernel
theorem dX7_init_60 : decode cX7_init 60 = .ok (.dup, 1) := by decide +kernel
theorem dX7_init_61 : decode cX7_init 61 = .ok (.invokespecial 37, 3) := by decide +kernel
theorem dX7_init_64 : decode cX7_init 64 = .ok (.putfield 38, 3) := by decide +kernel
theorem dX7_init_67 : decode cX7_init 67 = .ok (.aload_n 0, 1) := by decide +kernel
theorem dX7_init_68 : decode cX7_init 68 = .ok (.new 42, 3) := by decide +kernel
theorem dX7_init_71 : decode cX7_init 71 = .ok (.dup, 1) := by decide +kernel
theorem dX7_init_72 : decode cX7_init 72 = .ok (.aload_n 0, 1) := by decide +kernel
theorem dX7_init_73 : decode cX7_init 73 = .ok (.getfield 32, 3) := by decide +kernel
theorem dX7_init_76 : decode cX7_init 76 = .ok (.aload_n 0, 1) := by decide +kernel
theorem dX7_init_77 : decode cX7_init 77 = .ok (.getfield 38, 3) := by decide +kernel
theorem dX7_init_80 : decode cX7_init 80 = .ok (.invokespecial 44, 3) := by decide +kernel
theorem dX7_init_83 : decode cX7_init 83 = .ok (.putfield 47, 3) := by decide +kernel
theorem dX7_init_86 : decode cX7_init 86 = .ok (.aload_n 0, 1) := by decide +kernel
theorem dX7_init_87 : decode cX7_init 87 = .ok (.new 51, 3) := by decide +kernel
theorem dX7_init_90 : decode cX7_init 90 = .ok (.dup, 1) := by decide +kernel
theorem dX7_init_91 : decode cX7_init 91 = .ok (.invokespecial 53, 3) := by decide +kernel
theorem dX7_init_94 : decode cX7_init 94 = .ok (.putfield 54, 3) := by decide +kernel
theorem dX7_init_97 : decode cX7_init 97 = .ok (.aload_n 0, 1) := by decide +kernel
theorem dX7_init_98 : decode cX7_init 98 = .ok (.new 58, 3) := by decide +kernel
theorem dX7_init_101 : decode cX7_init 101 = .ok (.dup, 1) := by decide +kernel
theorem dX7_init_102 : decode cX7_init 102 = .ok (.bipush 8, 2) := by decide +kernel
theorem dX7_init_104 : decode cX7_init 104 = .ok (.invokespecial 60, 3) := by decide +kernel
theorem dX7_init_107 : decode cX7_init 107 = .ok (.putfield 63, 3) := by decide +kernel
theorem dX7_init_110 : decode cX7_init 110 = .ok (.aload_n 0, 1) := by decide +kernel
theorem dX7_init_111 : decode cX7_init 111 = .ok (.new 58, 3) := by decide +kernel
theorem dX7_init_114 : decode cX7_init 114 = .ok (.dup, 1) := by decide +kernel
theorem dX7_init_115 : decode cX7_init 115 = .ok (.iconst 2, 1) := by decide +kernel
theorem dX7_init_116 : decode cX7_init 116 = .ok (.invokespecial 60, 3) := by decide +kernel
theorem dX7_init_119 : decode cX7_init 119 = .ok (.putfield 67, 3) := by decide +kernel
theorem dX7_init_122 : decode cX7_init 122 = .ok (.aload_n 0, 1) := by decide +kernel
theorem dX7_init_123 : decode cX7_init 123 = .ok (.iconst 5, 1) := by decide +kernel
theorem dX7_init_124 : decode cX7_init 124 = .ok (.newarray .int, 2) := by decide +kernel
theorem dX7_init_126 : decode cX7_init 126 = .ok (.putfield 70, 3) := by decide +kernel
theorem dX7_init_129 : decode cX7_init 129 = .ok (.iconst 0, 1) := by decide +kernel
theorem dX7_init_130 : decode cX7_init 130 = .ok (.istore_n 1, 1) := by decide +kernel
theorem dX7_init_131 : decode cX7_init 131 = .ok (.iload_n 1, 1) := by decide +kernel
theorem dX7_init_132 : decode cX7_init 132 = .ok (.ldc 74, 2) := by decide +kernel
theorem dX7_init_134 : decode cX7_init 134 = .ok (.invokevirtual 76, 3) := by decide +kernel
theorem dX7_init_137 : decode cX7_init 137 = .ok (.if_icmp .ge 22, 3) := by decide +kernel
theorem dX7_init_140 : decode cX7_init 140 = .ok (.aload_n 0, 1) := by decide +kernel
theorem dX7_init_141 : decode cX7_init 141 = .ok (.getfield 10, 3) := by decide +kernel
theorem dX7_init_144 : decode cX7_init 144 = .ok (.ldc 74, 2) := by decide +kernel
theorem dX7_init_146 : decode cX7_init 146 = .ok (.iload_n 1, 1) := by decide +kernel
theorem dX7_init_147 : decode cX7_init 147 = .ok (.invokevirtual 82, 3) := by decide +kernel
theorem dX7_init_150 : decode cX7_init 150 = .ok (.invokevirtual 86, 3) := by decide +kernel
theorem dX7_init_153 : decode cX7_init 153 = .ok (.iinc 1 1, 3) := by decide +kernel
theorem dX7_init_156 : decode cX7_init 156 = .ok (.goto (-25), 3) := by decide +kernel
theorem dX7_init_159 : decode cX7_init 159 = .ok (.aload_n 0, 1) := by decide +kernel
theorem dX7_init_160 : decode cX7_init 160 = .ok (.getfield 28, 3) := by decide +kernel
theorem dX7_init_163 : decode cX7_init 163 = .ok (.invokevirtual 90, 3) := by decide +kernel
theorem dX7_init_166 : decode cX7_init 166 = .ok (.pop, 1) := by decide +kernel
theorem dX7_init_167 : decode cX7_init 167 = .ok (.aload_n 0, 1) := by decide +kernel
theorem dX7_init_168 : decode cX7_init 168 = .ok (.invokevirtual 93, 3) := by decide +kernel
theorem dX7_init_171 : decode cX7_init 171 = .ok (.aload_n 0, 1) := by decide +kernel
theorem dX7_init_172 : decode cX7_init 172 = .ok (.getfield 10, 3) := by decide +kernel
theorem dX7_init_175 : decode cX7_init 175 = .ok (.invokevirtual 96, 3) := by decide +kernel
theorem dX7_init_178 : decode cX7_init 178 = .ok (.return_, 1) := by decide +kernel
theorem gX7_write_X0_append : GoodIn wsX7_write (wsV RX7 86 RX0 yX0_append wsX0_append) := gwV aw_149 aw_150 aw_151 aw_11 aw_152
theorem dX7_write_0 : decode cX7_write 0 = .ok (.iload_n 1, 1) := by decide +kernel
theorem dX7_write_1 : decode cX7_write 1 = .ok (.bipush 32, 2) := by decide +kernel
theorem dX7_write_3 : decode cX7_write 3 = .ok (.if_icmp .lt 9, 3) := by decide +kernel
theorem dX7_write_6 : decode cX7_write 6 = .ok (.iload_n 1, 1) := by decide +kernel
theorem dX7_write_7 : decode cX7_write 7 = .ok (.bipush 126, 2) := by decide +kernel
theorem dX7_write_9 : decode cX7_write 9 = .ok (.if_icmp .le 5, 3) := by decide +kernel
theorem dX7_write_12 : decode cX7_write 12 = .ok (.iconst (-1), 1) := by decide +kernel
theorem dX7_write_13 : decode cX7_write 13 = .ok (.ireturn, 1) := by decide +kernel
theorem dX7_write_14 : decode cX7_write 14 = .ok (.aload_n 0, 1) := by decide +kernel
theorem dX7_write_15 : decode cX7_write 15 = .ok (.getfield 10, 3) := by decide +kernel
theorem dX7_write_18 : decode cX7_write 18 = .ok (.getfield 99, 3) := by decide +kernel
theorem dX7_write_21 : decode cX7_write 21 = .ok (.sipush 200, 3) := by decide +kernel
theorem dX7_write_24 : decode cX7_write 24 = .ok (.if_icmp .lt 6, 3) := by decide +kernel
theorem dX7_write_27 : decode cX7_write 27 = .ok (.bipush (-3), 2) := by decide +kernel
theorem dX7_write_29 : decode cX7_write 29 = .ok (.ireturn, 1) := by decide +kernel
theorem dX7_write_30 : decode cX7_write 30 = .ok (.aload_n 0, 1) := by decide +kernel
theorem dX7_write_31 : decode cX7_write 31 = .ok (.getfield 10, 3) := by decide +kernel
theorem dX7_write_34 : decode cX7_write 34 = .ok (.iload_n 1, 1) := by decide +kernel
theorem dX7_write_35 : decode cX7_write 35 = .ok (.i2c, 1) := by decide +kernel
theorem dX7_write_36 : decode cX7_write 36 = .ok (.invokevirtual 86, 3) := by decide +kernel
theorem dX7_write_39 : decode cX7_write 39 = .ok (.aload_n 0, 1) := by decide +kernel
theorem dX7_write_40 : decode cX7_write 40 = .ok (.getfield 10, 3) := by decide +kernel
theorem dX7_write_43 : decode cX7_write 43 = .ok (.getfield 99, 3) := by decide +kernel
theorem dX7_write_46 : decode cX7_write 46 = .ok (.ireturn, 1) := by decide +kernel
theorem gX7_wipe_X0_clear : GoodIn wsX7_wipe (wsV RX7 96 RX0 yX0_clear wsX0_clear) := gwV aw_281 aw_282 aw_283 aw_11 aw_284
theorem dX7_wipe_0 : decode cX7_wipe 0 = .ok (.aload_n 0, 1) := by decide +kernel
theorem dX7_wipe_1 : decode cX7_wipe 1 = .ok (.getfield 10, 3) := by decide +kernel
theorem dX7_wipe_4 : decode cX7_wipe 4 = .ok (.getfield 99, 3) := by decide +kernel
theorem dX7_wipe_7 : decode cX7_wipe 7 = .ok (.istore_n 1, 1) := by decide +kernel
theorem dX7_wipe_8 : decode cX7_wipe 8 = .ok (.aload_n 0, 1) := by decide +kernel
theorem dX7_wipe_9 : decode cX7_wipe 9 = .ok (.getfield 10, 3) := by decide +kernel
theorem dX7_wipe_12 : decode cX7_wipe 12 = .ok (.invokevirtual 96, 3) := by decide +kernel
theorem dX7_wipe_15 : decode cX7_wipe 15 = .ok (.iload_n 1, 1) := by decide +kernel
theorem dX7_wipe_16 : decode cX7_wipe 16 = .ok (.ireturn, 1) := by decide +kernel
theorem gX7_fault_X2_findFault : GoodIn wsX7_fault (wsV RX7 90 RX2 yX2_findFault wsX2_findFault) := gwV aw_153 aw_154 aw_155 aw_19 aw_156
theorem dX7_fault_0 : decode cX7_fault 0 = .ok (.aload_n 0, 1) := by decide +kernel
theorem dX7_fault_1 : decode cX7_fault 1 = .ok (.getfield 28, 3) := by decide +kernel
theorem dX7_fault_4 : decode cX7_fault 4 = .ok (.invokevirtual 90, 3) := by decide +kernel
theorem dX7_fault_7 : decode cX7_fault 7 = .ok (.ireturn, 1) := by decide +kernel
theorem gX7_lay_X2_findFault : GoodIn wsX7_lay (wsV RX7 90 RX2 yX2_findFault wsX2_findFault) := gwV aw_153 aw_154 aw_155 aw_19 aw_156
theorem gX7_lay_X1_isWhole : GoodIn wsX7_lay (wsV RX7 102 RX1 yX1_isWhole wsX1_isWhole) := gwV aw_419 aw_420 aw_421 aw_15 aw_422
theorem gX7_lay_X7_layDraft : GoodIn wsX7_lay (wsV RX7 93 RX7 yX7_layDraft wsX7_layDraft) := gwV aw_218 aw_219 aw_220 aw_1 aw_221
theorem dX7_lay_0 : decode cX7_lay 0 = .ok (.aload_n 0, 1) := by decide +kernel
theorem dX7_lay_1 : decode cX7_lay 1 = .ok (.getfield 28, 3) := by decide +kernel
theorem dX7_lay_4 : decode cX7_lay 4 = .ok (.invokevirtual 90, 3) := by decide +kernel
theorem dX7_lay_7 : decode cX7_lay 7 = .ok (.bipush (-4), 2) := by decide +kernel
theorem dX7_lay_9 : decode cX7_lay 9 = .ok (.if_icmp .ne 13, 3) := by decide +kernel
theorem dX7_lay_12 : decode cX7_lay 12 = .ok (.aload_n 0, 1) := by decide +kernel
theorem dX7_lay_13 : decode cX7_lay 13 = .ok (.getfield 19, 3) := by decide +kernel
theorem dX7_lay_16 : decode cX7_lay 16 = .ok (.invokevirtual 102, 3) := by decide +kernel
theorem dX7_lay_19 : decode cX7_lay 19 = .ok (.ifCond .ne 6, 3) := by decide +kernel
theorem dX7_lay_22 : decode cX7_lay 22 = .ok (.bipush (-2), 2) := by decide +kernel
theorem dX7_lay_24 : decode cX7_lay 24 = .ok (.ireturn, 1) := by decide +kernel
theorem dX7_lay_25 : decode cX7_lay 25 = .ok (.aload_n 0, 1) := by decide +kernel
theorem dX7_lay_26 : decode cX7_lay 26 = .ok (.invokevirtual 93, 3) := by decide +kernel
theorem dX7_lay_29 : decode cX7_lay 29 = .ok (.aload_n 0, 1) := by decide +kernel
theorem dX7_lay_30 : decode cX7_lay 30 = .ok (.getfield 32, 3) := by decide +kernel
theorem dX7_lay_33 : decode cX7_lay 33 = .ok (.getfield 106, 3) := by decide +kernel
theorem dX7_lay_36 : decode cX7_lay 36 = .ok (.ireturn, 1) := by decide +kernel
theorem gX7_person_X7_isPerson : GoodIn wsX7_person (wsV RX7 109 RX7 yX7_isPerson wsX7_isPerson) := gwV aw_431 aw_432 aw_433 aw_1 aw_434
theorem gX7_person_X7_isPart : GoodIn wsX7_person (va_wsS RX7 113 yX7_isPart wsX7_isPart) := gwS aw_436 aw_437 aw_1 aw_438
theorem gX7_person_X6_listeners : GoodIn wsX7_person (wsV RX7 119 RX6 yX6_listeners wsX6_listeners) := gwV aw_439 aw_249 aw_250 aw_28 aw_251
theorem gX7_person_J6_bitCount_0f7a4 : GoodIn wsX7_person (va_wsS RX7 123 yJ6_bitCount_0f7a4 wsJ6_bitCount_0f7a4) := gwS aw_440 aw_441 aw_442 aw_443
theorem dX7_person_0 : decode cX7_person 0 = .ok (.aload_n 0, 1) := by decide +kernel
theorem dX7_person_1 : decode cX7_person 1 = .ok (.iload_n 1, 1) := by decide +kernel
theorem dX7_person_2 : decode cX7_person 2 = .ok (.invokevirtual 109, 3) := by decide +kernel
theorem dX7_person_5 : decode cX7_person 5 = .ok (.ifCond .eq 10, 3) := by decide +kernel
theorem dX7_person_8 : decode cX7_person 8 = .ok (.iload_n 2, 1) := by decide +kernel
theorem dX7_person_9 : decode cX7_person 9 = .ok (.invokestatic 113, 3) := by decide +kernel
theorem dX7_person_12 : decode cX7_person 12 = .ok (.ifCond .ne 5, 3) := by decide +kernel
theorem dX7_person_15 : decode cX7_person 15 = .ok (.iconst (-1), 1) := by decide +kernel
theorem dX7_person_16 : decode cX7_person 16 = .ok (.ireturn, 1) := by decide +kernel
theorem dX7_person_17 : decode cX7_person 17 = .ok (.iload_n 2, 1) := by decide +kernel
theorem dX7_person_18 : decode cX7_person 18 = .ok (.ifCond .ne 15, 3) := by decide +kernel
theorem dX7_person_21 : decode cX7_person 21 = .ok (.aload_n 0, 1) := by decide +kernel
theorem dX7_person_22 : decode cX7_person 22 = .ok (.getfield 32, 3) := by decide +kernel
theorem dX7_person_25 : decode cX7_person 25 = .ok (.getfield 116, 3) := by decide +kernel
theorem dX7_person_28 : decode cX7_person 28 = .ok (.iload_n 1, 1) := by decide +kernel
theorem dX7_person_29 : decode cX7_person 29 = .ok (.iaload, 1) := by decide +kernel
theorem dX7_person_30 : decode cX7_person 30 = .ok (.goto 14, 3) := by decide +kernel
theorem dX7_person_33 : decode cX7_person 33 = .ok (.aload_n 0, 1) := by decide +kernel
theorem dX7_person_34 : decode cX7_person 34 = .ok (.getfield 47, 3) := by decide +kernel
theorem dX7_person_37 : decode cX7_person 37 = .ok (.iload_n 1, 1) := by decide +kernel
theorem dX7_person_38 : decode cX7_person 38 = .ok (.invokevirtual 119, 3) := by decide +kernel
theorem dX7_person_41 : decode cX7_person 41 = .ok (.invokestatic 123, 3) := by decide +kernel
theorem dX7_person_44 : decode cX7_person 44 = .ok (.ireturn, 1) := by decide +kernel
theorem gX7_likes_X7_isPerson : GoodIn wsX7_likes (wsV RX7 109 RX7 yX7_isPerson wsX7_isPerson) := gwV aw_431 aw_432 aw_433 aw_1 aw_434
theorem gX7_likes_X7_pair : GoodIn wsX7_likes (va_wsS RX7 131 yX7_pair wsX7_pair) := gwS aw_465 aw_190 aw_1 aw_191
theorem dX7_likes_0 : decode cX7_likes 0 = .ok (.aload_n 0, 1) := by decide +kernel
theorem dX7_likes_1 : decode cX7_likes 1 = .ok (.iload_n 1, 1) := by decide +kernel
theorem dX7_likes_2 : decode cX7_likes 2 = .ok (.invokevirtual 109, 3) := by decide +kernel
theorem dX7_likes_5 : decode cX7_likes 5 = .ok (.ifCond .eq 11, 3) := by decide +kernel
theorem dX7_likes_8 : decode cX7_likes 8 = .ok (.aload_n 0, 1) := by decide +kernel
theorem dX7_likes_9 : decode cX7_likes 9 = .ok (.iload_n 2, 1) := by decide +kernel
theorem dX7_likes_10 : decode cX7_likes 10 = .ok (.invokevirtual 109, 3) := by decide +kernel
theorem dX7_likes_13 : decode cX7_likes 13 = .ok (.ifCond .ne 5, 3) := by decide +kernel
theorem dX7_likes_16 : decode cX7_likes 16 = .ok (.iconst (-1), 1) := by decide +kernel
theorem dX7_likes_17 : decode cX7_likes 17 = .ok (.ireturn, 1) := by decide +kernel
theorem dX7_likes_18 : decode cX7_likes 18 = .ok (.aload_n 0, 1) := by decide +kernel
theorem dX7_likes_19 : decode cX7_likes 19 = .ok (.getfield 38, 3) := by decide +kernel
theorem dX7_likes_22 : decode cX7_likes 22 = .ok (.getfield 128, 3) := by decide +kernel
theorem dX7_likes_25 : decode cX7_likes 25 = .ok (.iload_n 1, 1) := by decide +kernel
theorem dX7_likes_26 : decode cX7_likes 26 = .ok (.iload_n 2, 1) := by decide +kernel
theorem dX7_likes_27 : decode cX7_likes 27 = .ok (.invokestatic 131, 3) := by decide +kernel
theorem dX7_likes_30 : decode cX7_likes 30 = .ok (.iaload, 1) := by decide +kernel
theorem dX7_likes_31 : decode cX7_likes 31 = .ok (.ireturn, 1) := by decide +kernel
theorem gX7_door_X7_isDoor : GoodIn wsX7_door (wsV RX7 135 RX7 yX7_isDoor wsX7_isDoor) := gwV aw_474 aw_475 aw_476 aw_1 aw_477
theorem gX7_door_X7_barredAt : GoodIn wsX7_door (wsV RX7 147 RX7 yX7_barredAt wsX7_barredAt) := gwV aw_478 aw_479 aw_480 aw_1 aw_481
theorem dX7_door_0 : decode cX7_door 0 = .ok (.aload_n 0, 1) := by decide +kernel
theorem dX7_door_1 : decode cX7_door 1 = .ok (.iload_n 1, 1) := by decide +kernel
theorem dX7_door_2 : decode cX7_door 2 = .ok (.invokevirtual 135, 3) := by decide +kernel
theorem dX7_door_5 : decode cX7_door 5 = .ok (.ifCond .ne 5, 3) := by decide +kernel
theorem dX7_door_8 : decode cX7_door 8 = .ok (.iconst (-1), 1) := by decide +kernel
theorem dX7_door_9 : decode cX7_door 9 = .ok (.ireturn, 1) := by decide +kernel
theorem dX7_door_10 : decode cX7_door 10 = .ok (.iload_n 2, 1) := by decide +kernel
theorem dX7_door_11 : decode cX7_door 11 = .ok (.tableswitch 65 0 3 #[29, 39, 49, 59], 29) := by decide +kernel
theorem dX7_door_40 : decode cX7_door 40 = .ok (.aload_n 0, 1) := by decide +kernel
theorem dX7_door_41 : decode cX7_door 41 = .ok (.getfield 32, 3) := by decide +kernel
theorem dX7_door_44 : decode cX7_door 44 = .ok (.getfield 138, 3) := by decide +kernel
theorem dX7_door_47 : decode cX7_door 47 = .ok (.iload_n 1, 1) := by decide +kernel
theorem dX7_door_48 : decode cX7_door 48 = .ok (.iaload, 1) := by decide +kernel
theorem dX7_door_49 : decode cX7_door 49 = .ok (.ireturn, 1) := by decide +kernel
theorem dX7_door_50 : decode cX7_door 50 = .ok (.aload_n 0, 1) := by decide +kernel
theorem dX7_door_51 : decode cX7_door 51 = .ok (.getfield 38, 3) := by decide +kernel
theorem dX7_door_54 : decode cX7_door 54 = .ok (.getfield 141, 3) := by decide +kernel
theorem dX7_door_57 : decode cX7_door 57 = .ok (.iload_n 1, 1) := by decide +kernel
theorem dX7_door_58 : decode cX7_door 58 = .ok (.iaload, 1) := by decide +kernel
theorem dX7_door_59 : decode cX7_door 59 = .ok (.ireturn, 1) := by decide +kernel
theorem dX7_door_60 : decode cX7_door 60 = .ok (.aload_n 0, 1) := by decide +kernel
theorem dX7_door_61 : decode cX7_door 61 = .ok (.getfield 38, 3) := by decide +kernel
theorem dX7_door_64 : decode cX7_door 64 = .ok (.getfield 144, 3) := by decide +kernel
theorem dX7_door_67 : decode cX7_door 67 = .ok (.iload_n 1, 1) := by decide +kernel
theorem dX7_door_68 : decode cX7_door 68 = .ok (.iaload, 1) := by decide +kernel
theorem dX7_door_69 : decode cX7_door 69 = .ok (.ireturn, 1) := by decide +kernel
theorem dX7_door_70 : decode cX7_door 70 = .ok (.aload_n 0, 1) := by decide +kernel
theorem dX7_door_71 : decode cX7_door 71 = .ok (.iload_n 1, 1) := by decide +kernel
theorem dX7_door_72 : decode cX7_door 72 = .ok (.invokevirtual 147, 3) := by decide +kernel
theorem dX7_door_75 : decode cX7_door 75 = .ok (.ireturn, 1) := by decide +kernel
theorem dX7_door_76 : decode cX7_door 76 = .ok (.iconst (-1), 1) := by decide +kernel
theorem dX7_door_77 : decode cX7_door 77 = .ok (.ireturn, 1) := by decide +kernel
theorem gX7_call_X7_isPerson : GoodIn wsX7_call (wsV RX7 109 RX7 yX7_isPerson wsX7_isPerson) := gwV aw_431 aw_432 aw_433 aw_1 aw_434
theorem gX7_call_X7_isDoor : GoodIn wsX7_call (wsV RX7 135 RX7 yX7_isDoor wsX7_isDoor) := gwV aw_474 aw_475 aw_476 aw_1 aw_477
theorem gX7_call_X3_put : GoodIn wsX7_call (wsV RX7 150 RX3 yX3_put wsX3_put) := gwV aw_502 aw_503 aw_504 aw_36 aw_505
theorem gX7_call_X6_knowersByCall : GoodIn wsX7_call (wsV RX7 154 RX6 yX6_knowersByCall wsX6_knowersByCall) := gwV aw_244 aw_245 aw_246 aw_28 aw_247
theorem gX7_call_J6_bitCount_0f7a4 : GoodIn wsX7_call (va_wsS RX7 123 yJ6_bitCount_0f7a4 wsJ6_bitCount_0f7a4) := gwS aw_440 aw_441 aw_442 aw_443
theorem dX7_call_0 : decode cX7_call 0 = .ok (.aload_n 0, 1) := by decide +kernel
theorem dX7_call_1 : decode cX7_call 1 = .ok (.iload_n 1, 1) := by decide +kernel
theorem dX7_call_2 : decode cX7_call 2 = .ok (.invokevirtual 109, 3) := by decide +kernel
theorem dX7_call_5 : decode cX7_call 5 = .ok (.ifCond .eq 11, 3) := by decide +kernel
theorem dX7_call_8 : decode cX7_call 8 = .ok (.aload_n 0, 1) := by decide +kernel
theorem dX7_call_9 : decode cX7_call 9 = .ok (.iload_n 2, 1) := by decide +kernel
theorem dX7_call_10 : decode cX7_call 10 = .ok (.invokevirtual 135, 3) := by decide +kernel
theorem dX7_call_13 : decode cX7_call 13 = .ok (.ifCond .ne 5, 3) := by decide +kernel
theorem dX7_call_16 : decode cX7_call 16 = .ok (.iconst (-1), 1) := by decide +kernel
theorem dX7_call_17 : decode cX7_call 17 = .ok (.ireturn, 1) := by decide +kernel
theorem dX7_call_18 : decode cX7_call 18 = .ok (.aload_n 0, 1) := by decide +kernel
theorem dX7_call_19 : decode cX7_call 19 = .ok (.getfield 63, 3) := by decide +kernel
theorem dX7_call_22 : decode cX7_call 22 = .ok (.aload_n 0, 1) := by decide +kernel
theorem dX7_call_23 : decode cX7_call 23 = .ok (.getfield 38, 3) := by decide +kernel
theorem dX7_call_26 : decode cX7_call 26 = .ok (.invokevirtual 150, 3) := by decide +kernel
theorem dX7_call_29 : decode cX7_call 29 = .ok (.aload_n 0, 1) := by decide +kernel
theorem dX7_call_30 : decode cX7_call 30 = .ok (.getfield 38, 3) := by decide +kernel
theorem dX7_call_33 : decode cX7_call 33 = .ok (.getfield 141, 3) := by decide +kernel
theorem dX7_call_36 : decode cX7_call 36 = .ok (.iload_n 2, 1) := by decide +kernel
theorem dX7_call_37 : decode cX7_call 37 = .ok (.iload_n 1, 1) := by decide +kernel
theorem dX7_call_38 : decode cX7_call 38 = .ok (.iastore, 1) := by decide +kernel
theorem dX7_call_39 : decode cX7_call 39 = .ok (.aload_n 0, 1) := by decide +kernel
theorem dX7_call_40 : decode cX7_call 40 = .ok (.getfield 38, 3) := by decide +kernel
theorem dX7_call_43 : decode cX7_call 43 = .ok (.getfield 144, 3) := by decide +kernel
theorem dX7_call_46 : decode cX7_call 46 = .ok (.iload_n 2, 1) := by decide +kernel
theorem dX7_call_47 : decode cX7_call 47 = .ok (.aload_n 0, 1) := by decide +kernel
theorem dX7_call_48 : decode cX7_call 48 = .ok (.getfield 47, 3) := by decide +kernel
theorem dX7_call_51 : decode cX7_call 51 = .ok (.iload_n 1, 1) := by decide +kernel
theorem dX7_call_52 : decode cX7_call 52 = .ok (.invokevirtual 154, 3) := by decide +kernel
theorem dX7_call_55 : decode cX7_call 55 = .ok (.iastore, 1) := by decide +kernel
theorem dX7_call_56 : decode cX7_call 56 = .ok (.aload_n 0, 1) := by decide +kernel
theorem dX7_call_57 : decode cX7_call 57 = .ok (.getfield 38, 3) := by decide +kernel
theorem dX7_call_60 : decode cX7_call 60 = .ok (.getfield 144, 3) := by decide +kernel
theorem dX7_call_63 : decode cX7_call 63 = .ok (.iload_n 2, 1) := by decide +kernel
theorem dX7_call_64 : decode cX7_call 64 = .ok (.iaload, 1) := by decide +kernel
theorem dX7_call_65 : decode cX7_call 65 = .ok (.invokestatic 123, 3) := by decide +kernel
theorem dX7_call_68 : decode cX7_call 68 = .ok (.ireturn, 1) := by decide +kernel
theorem gX7_tries_X7_isPerson : GoodIn wsX7_tries (wsV RX7 109 RX7 yX7_isPerson wsX7_isPerson) := gwV aw_431 aw_432 aw_433 aw_1 aw_434
theorem gX7_tries_X7_isDoor : GoodIn wsX7_tries (wsV RX7 135 RX7 yX7_isDoor wsX7_isDoor) := gwV aw_474 aw_475 aw_476 aw_1 aw_477
theorem gX7_tries_X7_isBarred : GoodIn wsX7_tries (wsV RX7 157 RX7 yX7_isBarred wsX7_isBarred) := gwV aw_482 aw_483 aw_484 aw_1 aw_485
theorem gX7_tries_X3_put : GoodIn wsX7_tries (wsV RX7 150 RX3 yX3_put wsX3_put) := gwV aw_502 aw_503 aw_504 aw_36 aw_505
theorem gX7_tries_X7_has : GoodIn wsX7_tries (va_wsS RX7 161 yX7_has wsX7_has) := gwS aw_524 aw_267 aw_1 aw_268
theorem gX7_tries_X7_pair : GoodIn wsX7_tries (va_wsS RX7 131 yX7_pair wsX7_pair) := gwS aw_465 aw_190 aw_1 aw_191
theorem dX7_tries_0 : decode cX7_tries 0 = .ok (.aload_n 0, 1) := by decide +kernel
theorem dX7_tries_1 : decode cX7_tries 1 = .ok (.iload_n 1, 1) := by decide +kernel
theorem dX7_tries_2 : decode cX7_tries 2 = .ok (.invokevirtual 109, 3) := by decide +kernel
theorem dX7_tries_5 : decode cX7_tries 5 = .ok (.ifCond .eq 11, 3) := by decide +kernel
theorem dX7_tries_8 : decode cX7_tries 8 = .ok (.aload_n 0, 1) := by decide +kernel
theorem dX7_tries_9 : decode cX7_tries 9 = .ok (.iload_n 2, 1) := by decide +kernel
theorem dX7_tries_10 : decode cX7_tries 10 = .ok (.invokevirtual 135, 3) := by decide +kernel
theorem dX7_tries_13 : decode cX7_tries 13 = .ok (.ifCond .ne 5, 3) := by decide +kernel
theorem dX7_tries_16 : decode cX7_tries 16 = .ok (.iconst (-1), 1) := by decide +kernel
theorem dX7_tries_17 : decode cX7_tries 17 = .ok (.ireturn, 1) := by decide +kernel
theorem dX7_tries_18 : decode cX7_tries 18 = .ok (.aload_n 0, 1) := by decide +kernel
theorem dX7_tries_19 : decode cX7_tries 19 = .ok (.iload_n 1, 1) := by decide +kernel
theorem dX7_tries_20 : decode cX7_tries 20 = .ok (.iload_n 2, 1) := by decide +kernel
theorem dX7_tries_21 : decode cX7_tries 21 = .ok (.invokevirtual 157, 3) := by decide +kernel
theorem dX7_tries_24 : decode cX7_tries 24 = .ok (.ifCond .eq 6, 3) := by decide +kernel
theorem dX7_tries_27 : decode cX7_tries 27 = .ok (.bipush (-2), 2) := by decide +kernel
theorem dX7_tries_29 : decode cX7_tries 29 = .ok (.ireturn, 1) := by decide +kernel
theorem dX7_tries_30 : decode cX7_tries 30 = .ok (.aload_n 0, 1) := by decide +kernel
theorem dX7_tries_31 : decode cX7_tries 31 = .ok (.getfield 63, 3) := by decide +kernel
theorem dX7_tries_34 : decode cX7_tries 34 = .ok (.aload_n 0, 1) := by decide +kernel
theorem dX7_tries_35 : decode cX7_tries 35 = .ok (.getfield 38, 3) := by decide +kernel
theorem dX7_tries_38 : decode cX7_tries 38 = .ok (.invokevirtual 150, 3) := by decide +kernel
theorem dX7_tries_41 : decode cX7_tries 41 = .ok (.aload_n 0, 1) := by decide +kernel
theorem dX7_tries_42 : decode cX7_tries 42 = .ok (.getfield 38, 3) := by decide +kernel
theorem dX7_tries_45 : decode cX7_tries 45 = .ok (.getfield 144, 3) := by decide +kernel
theorem dX7_tries_48 : decode cX7_tries 48 = .ok (.iload_n 2, 1) := by decide +kernel
theorem dX7_tries_49 : decode cX7_tries 49 = .ok (.iaload, 1) := by decide +kernel
theorem dX7_tries_50 : decode cX7_tries 50 = .ok (.iload_n 1, 1) := by decide +kernel
theorem dX7_tries_51 : decode cX7_tries 51 = .ok (.invokestatic 161, 3) := by decide +kernel
theorem dX7_tries_54 : decode cX7_tries 54 = .ok (.ifCond .eq 5, 3) := by decide +kernel
theorem dX7_tries_57 : decode cX7_tries 57 = .ok (.iconst 1, 1) := by decide +kernel
theorem dX7_tries_58 : decode cX7_tries 58 = .ok (.ireturn, 1) := by decide +kernel
theorem dX7_tries_59 : decode cX7_tries 59 = .ok (.aload_n 0, 1) := by decide +kernel
theorem dX7_tries_60 : decode cX7_tries 60 = .ok (.getfield 38, 3) := by decide +kernel
theorem dX7_tries_63 : decode cX7_tries 63 = .ok (.getfield 164, 3) := by decide +kernel
theorem dX7_tries_66 : decode cX7_tries 66 = .ok (.iload_n 2, 1) := by decide +kernel
theorem dX7_tries_67 : decode cX7_tries 67 = .ok (.iload_n 1, 1) := by decide +kernel
theorem dX7_tries_68 : decode cX7_tries 68 = .ok (.invokestatic 131, 3) := by decide +kernel
theorem dX7_tries_71 : decode cX7_tries 71 = .ok (.dup2, 1) := by decide +kernel
theorem dX7_tries_72 : decode cX7_tries 72 = .ok (.iaload, 1) := by decide +kernel
theorem dX7_tries_73 : decode cX7_tries 73 = .ok (.iconst 1, 1) := by decide +kernel
theorem dX7_tries_74 : decode cX7_tries 74 = .ok (.iadd, 1) := by decide +kernel
theorem dX7_tries_75 : decode cX7_tries 75 = .ok (.iastore, 1) := by decide +kernel
theorem dX7_tries_76 : decode cX7_tries 76 = .ok (.iconst 0, 1) := by decide +kernel
theorem dX7_tries_77 : decode cX7_tries 77 = .ok (.ireturn, 1) := by decide +kernel
theorem gX7_day_X3_put : GoodIn wsX7_day (wsV RX7 150 RX3 yX3_put wsX3_put) := gwV aw_502 aw_503 aw_504 aw_36 aw_505
theorem gX7_day_X6_afterDay : GoodIn wsX7_day (wsV RX7 167 RX6 yX6_afterDay wsX6_afterDay) := gwV aw_532 aw_533 aw_534 aw_28 aw_535
theorem gX7_day_X5_forgiveAll : GoodIn wsX7_day (wsV RX7 170 RX5 yX5_forgiveAll wsX5_forgiveAll) := gwV aw_536 aw_241 aw_242 aw_24 aw_243
theorem dX7_day_0 : decode cX7_day 0 = .ok (.aload_n 0, 1) := by decide +kernel
theorem dX7_day_1 : decode cX7_day 1 = .ok (.getfield 63, 3) := by decide +kernel
theorem dX7_day_4 : decode cX7_day 4 = .ok (.aload_n 0, 1) := by decide +kernel
theorem dX7_day_5 : decode cX7_day 5 = .ok (.getfield 38, 3) := by decide +kernel
theorem dX7_day_8 : decode cX7_day 8 = .ok (.invokevirtual 150, 3) := by decide +kernel
theorem dX7_day_11 : decode cX7_day 11 = .ok (.iconst 0, 1) := by decide +kernel
theorem dX7_day_12 : decode cX7_day 12 = .ok (.istore_n 1, 1) := by decide +kernel
theorem dX7_day_13 : decode cX7_day 13 = .ok (.iload_n 1, 1) := by decide +kernel
theorem dX7_day_14 : decode cX7_day 14 = .ok (.aload_n 0, 1) := by decide +kernel
theorem dX7_day_15 : decode cX7_day 15 = .ok (.getfield 32, 3) := by decide +kernel
theorem dX7_day_18 : decode cX7_day 18 = .ok (.getfield 106, 3) := by decide +kernel
theorem dX7_day_21 : decode cX7_day 21 = .ok (.if_icmp .ge 34, 3) := by decide +kernel
theorem dX7_day_24 : decode cX7_day 24 = .ok (.aload_n 0, 1) := by decide +kernel
theorem dX7_day_25 : decode cX7_day 25 = .ok (.getfield 38, 3) := by decide +kernel
theorem dX7_day_28 : decode cX7_day 28 = .ok (.getfield 144, 3) := by decide +kernel
theorem dX7_day_31 : decode cX7_day 31 = .ok (.iload_n 1, 1) := by decide +kernel
theorem dX7_day_32 : decode cX7_day 32 = .ok (.aload_n 0, 1) := by decide +kernel
theorem dX7_day_33 : decode cX7_day 33 = .ok (.getfield 47, 3) := by decide +kernel
theorem dX7_day_36 : decode cX7_day 36 = .ok (.aload_n 0, 1) := by decide +kernel
theorem dX7_day_37 : decode cX7_day 37 = .ok (.getfield 38, 3) := by decide +kernel
theorem dX7_day_40 : decode cX7_day 40 = .ok (.getfield 144, 3) := by decide +kernel
theorem dX7_day_43 : decode cX7_day 43 = .ok (.iload_n 1, 1) := by decide +kernel
theorem dX7_day_44 : decode cX7_day 44 = .ok (.iaload, 1) := by decide +kernel
theorem dX7_day_45 : decode cX7_day 45 = .ok (.invokevirtual 167, 3) := by decide +kernel
theorem dX7_day_48 : decode cX7_day 48 = .ok (.iastore, 1) := by decide +kernel
theorem dX7_day_49 : decode cX7_day 49 = .ok (.iinc 1 1, 3) := by decide +kernel
theorem dX7_day_52 : decode cX7_day 52 = .ok (.goto (-39), 3) := by decide +kernel
theorem dX7_day_55 : decode cX7_day 55 = .ok (.aload_n 0, 1) := by decide +kernel
theorem dX7_day_56 : decode cX7_day 56 = .ok (.getfield 38, 3) := by decide +kernel
theorem dX7_day_59 : decode cX7_day 59 = .ok (.invokevirtual 170, 3) := by decide +kernel
theorem dX7_day_62 : decode cX7_day 62 = .ok (.aload_n 0, 1) := by decide +kernel
theorem dX7_day_63 : decode cX7_day 63 = .ok (.getfield 38, 3) := by decide +kernel
theorem dX7_day_66 : decode cX7_day 66 = .ok (.dup, 1) := by decide +kernel
theorem dX7_day_67 : decode cX7_day 67 = .ok (.getfield 173, 3) := by decide +kernel
theorem dX7_day_70 : decode cX7_day 70 = .ok (.iconst 1, 1) := by decide +kernel
theorem dX7_day_71 : decode cX7_day 71 = .ok (.iadd, 1) := by decide +kernel
theorem dX7_day_72 : decode cX7_day 72 = .ok (.putfield 173, 3) := by decide +kernel
theorem dX7_day_75 : decode cX7_day 75 = .ok (.aload_n 0, 1) := by decide +kernel
theorem dX7_day_76 : decode cX7_day 76 = .ok (.getfield 38, 3) := by decide +kernel
theorem dX7_day_79 : decode cX7_day 79 = .ok (.getfield 173, 3) := by decide +kernel
theorem dX7_day_82 : decode cX7_day 82 = .ok (.ireturn, 1) := by decide +kernel
theorem gX7_alter_X7_isPerson : GoodIn wsX7_alter (wsV RX7 109 RX7 yX7_isPerson wsX7_isPerson) := gwV aw_431 aw_432 aw_433 aw_1 aw_434
theorem gX7_alter_X3_put : GoodIn wsX7_alter (wsV RX7 150 RX3 yX3_put wsX3_put) := gwV aw_502 aw_503 aw_504 aw_36 aw_505
theorem gX7_alter_X7_pair : GoodIn wsX7_alter (va_wsS RX7 131 yX7_pair wsX7_pair) := gwS aw_465 aw_190 aw_1 aw_191
theorem dX7_alter_0 : decode cX7_alter 0 = .ok (.aload_n 0, 1) := by decide +kernel
theorem dX7_alter_1 : decode cX7_alter 1 = .ok (.iload_n 1, 1) := by decide +kernel
theorem dX7_alter_2 : decode cX7_alter 2 = .ok (.invokevirtual 109, 3) := by decide +kernel
theorem dX7_alter_5 : decode cX7_alter 5 = .ok (.ifCond .eq 21, 3) := by decide +kernel
theorem dX7_alter_8 : decode cX7_alter 8 = .ok (.aload_n 0, 1) := by decide +kernel
theorem dX7_alter_9 : decode cX7_alter 9 = .ok (.iload_n 2, 1) := by decide +kernel
theorem dX7_alter_10 : decode cX7_alter 10 = .ok (.invokevirtual 109, 3) := by decide +kernel
theorem dX7_alter_13 : decode cX7_alter 13 = .ok (.ifCond .eq 13, 3) := by decide +kernel
theorem dX7_alter_16 : decode cX7_alter 16 = .ok (.iload_n 3, 1) := by decide +kernel
theorem dX7_alter_17 : decode cX7_alter 17 = .ok (.ifCond .lt 9, 3) := by decide +kernel
theorem dX7_alter_20 : decode cX7_alter 20 = .ok (.iload_n 3, 1) := by decide +kernel
theorem dX7_alter_21 : decode cX7_alter 21 = .ok (.bipush 9, 2) := by decide +kernel
theorem dX7_alter_23 : decode cX7_alter 23 = .ok (.if_icmp .le 5, 3) := by decide +kernel
theorem dX7_alter_26 : decode cX7_alter 26 = .ok (.iconst (-1), 1) := by decide +kernel
theorem dX7_alter_27 : decode cX7_alter 27 = .ok (.ireturn, 1) := by decide +kernel
theorem dX7_alter_28 : decode cX7_alter 28 = .ok (.aload_n 0, 1) := by decide +kernel
theorem dX7_alter_29 : decode cX7_alter 29 = .ok (.getfield 63, 3) := by decide +kernel
theorem dX7_alter_32 : decode cX7_alter 32 = .ok (.aload_n 0, 1) := by decide +kernel
theorem dX7_alter_33 : decode cX7_alter 33 = .ok (.getfield 38, 3) := by decide +kernel
theorem dX7_alter_36 : decode cX7_alter 36 = .ok (.invokevirtual 150, 3) := by decide +kernel
theorem dX7_alter_39 : decode cX7_alter 39 = .ok (.aload_n 0, 1) := by decide +kernel
theorem dX7_alter_40 : decode cX7_alter 40 = .ok (.getfield 38, 3) := by decide +kernel
theorem dX7_alter_43 : decode cX7_alter 43 = .ok (.getfield 128, 3) := by decide +kernel
theorem dX7_alter_46 : decode cX7_alter 46 = .ok (.iload_n 1, 1) := by decide +kernel
theorem dX7_alter_47 : decode cX7_alter 47 = .ok (.iload_n 2, 1) := by decide +kernel
theorem dX7_alter_48 : decode cX7_alter 48 = .ok (.invokestatic 131, 3) := by decide +kernel
theorem dX7_alter_51 : decode cX7_alter 51 = .ok (.iaload, 1) := by decide +kernel
theorem dX7_alter_52 : decode cX7_alter 52 = .ok (.istore 4, 2) := by decide +kernel
theorem dX7_alter_54 : decode cX7_alter 54 = .ok (.aload_n 0, 1) := by decide +kernel
theorem dX7_alter_55 : decode cX7_alter 55 = .ok (.getfield 38, 3) := by decide +kernel
theorem dX7_alter_58 : decode cX7_alter 58 = .ok (.getfield 128, 3) := by decide +kernel
theorem dX7_alter_61 : decode cX7_alter 61 = .ok (.iload_n 1, 1) := by decide +kernel
theorem dX7_alter_62 : decode cX7_alter 62 = .ok (.iload_n 2, 1) := by decide +kernel
theorem dX7_alter_63 : decode cX7_alter 63 = .ok (.invokestatic 131, 3) := by decide +kernel
theorem dX7_alter_66 : decode cX7_alter 66 = .ok (.iload_n 3, 1) := by decide +kernel
theorem dX7_alter_67 : decode cX7_alter 67 = .ok (.iastore, 1) := by decide +kernel
theorem dX7_alter_68 : decode cX7_alter 68 = .ok (.iload 4, 2) := by decide +kernel
theorem dX7_alter_70 : decode cX7_alter 70 = .ok (.ireturn, 1) := by decide +kernel
theorem gX7_undo_X3_takeLatestInto : GoodIn wsX7_undo (wsV RX7 179 RX3 yX3_takeLatestInto wsX3_takeLatestInto) := gwV aw_558 aw_559 aw_560 aw_36 aw_561
theorem dX7_undo_0 : decode cX7_undo 0 = .ok (.aload_n 0, 1) := by decide +kernel
theorem dX7_undo_1 : decode cX7_undo 1 = .ok (.getfield 63, 3) := by decide +kernel
theorem dX7_undo_4 : decode cX7_undo 4 = .ok (.getfield 176, 3) := by decide +kernel
theorem dX7_undo_7 : decode cX7_undo 7 = .ok (.ifCond .ne 6, 3) := by decide +kernel
theorem dX7_undo_10 : decode cX7_undo 10 = .ok (.bipush (-2), 2) := by decide +kernel
theorem dX7_undo_12 : decode cX7_undo 12 = .ok (.ireturn, 1) := by decide +kernel
theorem dX7_undo_13 : decode cX7_undo 13 = .ok (.aload_n 0, 1) := by decide +kernel
theorem dX7_undo_14 : decode cX7_undo 14 = .ok (.getfield 63, 3) := by decide +kernel
theorem dX7_undo_17 : decode cX7_undo 17 = .ok (.aload_n 0, 1) := by decide +kernel
theorem dX7_undo_18 : decode cX7_undo 18 = .ok (.getfield 38, 3) := by decide +kernel
theorem dX7_undo_21 : decode cX7_undo 21 = .ok (.invokevirtual 179, 3) := by decide +kernel
theorem dX7_undo_24 : decode cX7_undo 24 = .ok (.aload_n 0, 1) := by decide +kernel
theorem dX7_undo_25 : decode cX7_undo 25 = .ok (.getfield 63, 3) := by decide +kernel
theorem dX7_undo_28 : decode cX7_undo 28 = .ok (.getfield 176, 3) := by decide +kernel
theorem dX7_undo_31 : decode cX7_undo 31 = .ok (.ireturn, 1) := by decide +kernel
theorem gX7_shutOut_X7_shutOutBy : GoodIn wsX7_shutOut (wsV RX7 182 RX7 yX7_shutOutBy wsX7_shutOutBy) := gwV aw_568 aw_569 aw_570 aw_1 aw_571
theorem dX7_shutOut_0 : decode cX7_shutOut 0 = .ok (.aload_n 0, 1) := by decide +kernel
theorem dX7_shutOut_1 : decode cX7_shutOut 1 = .ok (.aload_n 0, 1) := by decide +kernel
theorem dX7_shutOut_2 : decode cX7_shutOut 2 = .ok (.getfield 38, 3) := by decide +kernel
theorem dX7_shutOut_5 : decode cX7_shutOut 5 = .ok (.getfield 144, 3) := by decide +kernel
theorem dX7_shutOut_8 : decode cX7_shutOut 8 = .ok (.invokevirtual 182, 3) := by decide +kernel
theorem dX7_shutOut_11 : decode cX7_shutOut 11 = .ok (.ireturn, 1) := by decide +kernel
theorem gX7_knowsBy_X7_isDoor : GoodIn wsX7_knowsBy (wsV RX7 135 RX7 yX7_isDoor wsX7_isDoor) := gwV aw_474 aw_475 aw_476 aw_1 aw_477
theorem gX7_knowsBy_X6_afterDays : GoodIn wsX7_knowsBy (wsV RX7 186 RX6 yX6_afterDays wsX6_afterDays) := gwV aw_586 aw_587 aw_588 aw_28 aw_589
theorem dX7_knowsBy_0 : decode cX7_knowsBy 0 = .ok (.aload_n 0, 1) := by decide +kernel
theorem dX7_knowsBy_1 : decode cX7_knowsBy 1 = .ok (.iload_n 1, 1) := by decide +kernel
theorem dX7_knowsBy_2 : decode cX7_knowsBy 2 = .ok (.invokevirtual 135, 3) := by decide +kernel
theorem dX7_knowsBy_5 : decode cX7_knowsBy 5 = .ok (.ifCond .eq 13, 3) := by decide +kernel
theorem dX7_knowsBy_8 : decode cX7_knowsBy 8 = .ok (.iload_n 2, 1) := by decide +kernel
theorem dX7_knowsBy_9 : decode cX7_knowsBy 9 = .ok (.ifCond .lt 9, 3) := by decide +kernel
theorem dX7_knowsBy_12 : decode cX7_knowsBy 12 = .ok (.iload_n 2, 1) := by decide +kernel
theorem dX7_knowsBy_13 : decode cX7_knowsBy 13 = .ok (.bipush 20, 2) := by decide +kernel
theorem dX7_knowsBy_15 : decode cX7_knowsBy 15 = .ok (.if_icmp .le 5, 3) := by decide +kernel
theorem dX7_knowsBy_18 : decode cX7_knowsBy 18 = .ok (.iconst (-1), 1) := by decide +kernel
theorem dX7_knowsBy_19 : decode cX7_knowsBy 19 = .ok (.ireturn, 1) := by decide +kernel
theorem dX7_knowsBy_20 : decode cX7_knowsBy 20 = .ok (.aload_n 0, 1) := by decide +kernel
theorem dX7_knowsBy_21 : decode cX7_knowsBy 21 = .ok (.getfield 47, 3) := by decide +kernel
theorem dX7_knowsBy_24 : decode cX7_knowsBy 24 = .ok (.aload_n 0, 1) := by decide +kernel
theorem dX7_knowsBy_25 : decode cX7_knowsBy 25 = .ok (.getfield 38, 3) := by decide +kernel
theorem dX7_knowsBy_28 : decode cX7_knowsBy 28 = .ok (.getfield 144, 3) := by decide +kernel
theorem dX7_knowsBy_31 : decode cX7_knowsBy 31 = .ok (.iload_n 1, 1) := by decide +kernel
theorem dX7_knowsBy_32 : decode cX7_knowsBy 32 = .ok (.iaload, 1) := by decide +kernel
theorem dX7_knowsBy_33 : decode cX7_knowsBy 33 = .ok (.iload_n 2, 1) := by decide +kernel
theorem dX7_knowsBy_34 : decode cX7_knowsBy 34 = .ok (.invokevirtual 186, 3) := by decide +kernel
theorem dX7_knowsBy_37 : decode cX7_knowsBy 37 = .ok (.ireturn, 1) := by decide +kernel
theorem gX7_when_X7_isPerson : GoodIn wsX7_when (wsV RX7 109 RX7 yX7_isPerson wsX7_isPerson) := gwV aw_431 aw_432 aw_433 aw_1 aw_434
theorem gX7_when_X7_isDoor : GoodIn wsX7_when (wsV RX7 135 RX7 yX7_isDoor wsX7_isDoor) := gwV aw_474 aw_475 aw_476 aw_1 aw_477
theorem gX7_when_X7_has : GoodIn wsX7_when (va_wsS RX7 161 yX7_has wsX7_has) := gwS aw_524 aw_267 aw_1 aw_268
theorem gX7_when_X6_afterDay : GoodIn wsX7_when (wsV RX7 167 RX6 yX6_afterDay wsX6_afterDay) := gwV aw_532 aw_533 aw_534 aw_28 aw_535
theorem dX7_when_0 : decode cX7_when 0 = .ok (.aload_n 0, 1) := by decide +kernel
theorem dX7_when_1 : decode cX7_when 1 = .ok (.iload_n 1, 1) := by decide +kernel
theorem dX7_when_2 : decode cX7_when 2 = .ok (.invokevirtual 109, 3) := by decide +kernel
theorem dX7_when_5 : decode cX7_when 5 = .ok (.ifCond .eq 11, 3) := by decide +kernel
theorem dX7_when_8 : decode cX7_when 8 = .ok (.aload_n 0, 1) := by decide +kernel
theorem dX7_when_9 : decode cX7_when 9 = .ok (.iload_n 2, 1) := by decide +kernel
theorem dX7_when_10 : decode cX7_when 10 = .ok (.invokevirtual 135, 3) := by decide +kernel
theorem dX7_when_13 : decode cX7_when 13 = .ok (.ifCond .ne 5, 3) := by decide +kernel
theorem dX7_when_16 : decode cX7_when 16 = .ok (.iconst (-1), 1) := by decide +kernel
theorem dX7_when_17 : decode cX7_when 17 = .ok (.ireturn, 1) := by decide +kernel
theorem dX7_when_18 : decode cX7_when 18 = .ok (.aload_n 0, 1) := by decide +kernel
theorem dX7_when_19 : decode cX7_when 19 = .ok (.getfield 38, 3) := by decide +kernel
theorem dX7_when_22 : decode cX7_when 22 = .ok (.getfield 144, 3) := by decide +kernel
theorem dX7_when_25 : decode cX7_when 25 = .ok (.iload_n 2, 1) := by decide +kernel
theorem dX7_when_26 : decode cX7_when 26 = .ok (.iaload, 1) := by decide +kernel
theorem dX7_when_27 : decode cX7_when 27 = .ok (.istore_n 3, 1) := by decide +kernel
theorem dX7_when_28 : decode cX7_when 28 = .ok (.iconst 0, 1) := by decide +kernel
theorem dX7_when_29 : decode cX7_when 29 = .ok (.istore 4, 2) := by decide +kernel
theorem dX7_when_31 : decode cX7_when 31 = .ok (.iload 4, 2) := by decide +kernel
theorem dX7_when_33 : decode cX7_when 33 = .ok (.bipush 20, 2) := by decide +kernel
theorem dX7_when_35 : decode cX7_when 35 = .ok (.if_icmp .gt 29, 3) := by decide +kernel
theorem dX7_when_38 : decode cX7_when 38 = .ok (.iload_n 3, 1) := by decide +kernel
theorem dX7_when_39 : decode cX7_when 39 = .ok (.iload_n 1, 1) := by decide +kernel
theorem dX7_when_40 : decode cX7_when 40 = .ok (.invokestatic 161, 3) := by decide +kernel
theorem dX7_when_43 : decode cX7_when 43 = .ok (.ifCond .eq 6, 3) := by decide +kernel
theorem dX7_when_46 : decode cX7_when 46 = .ok (.iload 4, 2) := by decide +kernel
theorem dX7_when_48 : decode cX7_when 48 = .ok (.ireturn, 1) := by decide +kernel
theorem dX7_when_49 : decode cX7_when 49 = .ok (.aload_n 0, 1) := by decide +kernel
theorem dX7_when_50 : decode cX7_when 50 = .ok (.getfield 47, 3) := by decide +kernel
theorem dX7_when_53 : decode cX7_when 53 = .ok (.iload_n 3, 1) := by decide +kernel
theorem dX7_when_54 : decode cX7_when 54 = .ok (.invokevirtual 167, 3) := by decide +kernel
theorem dX7_when_57 : decode cX7_when 57 = .ok (.istore_n 3, 1) := by decide +kernel
theorem dX7_when_58 : decode cX7_when 58 = .ok (.iinc 4 1, 3) := by decide +kernel
theorem dX7_when_61 : decode cX7_when 61 = .ok (.goto (-30), 3) := by decide +kernel
theorem dX7_when_64 : decode cX7_when 64 = .ok (.bipush (-4), 2) := by decide +kernel
theorem dX7_when_66 : decode cX7_when 66 = .ok (.ireturn, 1) := by decide +kernel
theorem gX7_lets_X7_isDoor : GoodIn wsX7_lets (wsV RX7 135 RX7 yX7_isDoor wsX7_isDoor) := gwV aw_474 aw_475 aw_476 aw_1 aw_477
theorem gX7_lets_X7_callersWhoReach : GoodIn wsX7_lets (wsV RX7 189 RX7 yX7_callersWhoReach wsX7_callersWhoReach) := gwV aw_607 aw_608 aw_609 aw_1 aw_610
theorem dX7_lets_0 : decode cX7_lets 0 = .ok (.aload_n 0, 1) := by decide +kernel
theorem dX7_lets_1 : decode cX7_lets 1 = .ok (.iload_n 1, 1) := by decide +kernel
theorem dX7_lets_2 : decode cX7_lets 2 = .ok (.invokevirtual 135, 3) := by decide +kernel
theorem dX7_lets_5 : decode cX7_lets 5 = .ok (.ifCond .eq 12, 3) := by decide +kernel
theorem dX7_lets_8 : decode cX7_lets 8 = .ok (.iload_n 2, 1) := by decide +kernel
theorem dX7_lets_9 : decode cX7_lets 9 = .ok (.ifCond .lt 8, 3) := by decide +kernel
theorem dX7_lets_12 : decode cX7_lets 12 = .ok (.iload_n 2, 1) := by decide +kernel
theorem dX7_lets_13 : decode cX7_lets 13 = .ok (.iconst 5, 1) := by decide +kernel
theorem dX7_lets_14 : decode cX7_lets 14 = .ok (.if_icmp .le 5, 3) := by decide +kernel
theorem dX7_lets_17 : decode cX7_lets 17 = .ok (.iconst (-1), 1) := by decide +kernel
theorem dX7_lets_18 : decode cX7_lets 18 = .ok (.ireturn, 1) := by decide +kernel
theorem dX7_lets_19 : decode cX7_lets 19 = .ok (.aload_n 0, 1) := by decide +kernel
theorem dX7_lets_20 : decode cX7_lets 20 = .ok (.aload_n 0, 1) := by decide +kernel
theorem dX7_lets_21 : decode cX7_lets 21 = .ok (.getfield 32, 3) := by decide +kernel
theorem dX7_lets_24 : decode cX7_lets 24 = .ok (.getfield 138, 3) := by decide +kernel
theorem dX7_lets_27 : decode cX7_lets 27 = .ok (.iload_n 1, 1) := by decide +kernel
theorem dX7_lets_28 : decode cX7_lets 28 = .ok (.iaload, 1) := by decide +kernel
theorem dX7_lets_29 : decode cX7_lets 29 = .ok (.iload_n 2, 1) := by decide +kernel
theorem dX7_lets_30 : decode cX7_lets 30 = .ok (.invokevirtual 189, 3) := by decide +kernel
theorem dX7_lets_33 : decode cX7_lets 33 = .ok (.ireturn, 1) := by decide +kernel
theorem gX7_keeps_X7_isPerson : GoodIn wsX7_keeps (wsV RX7 109 RX7 yX7_isPerson wsX7_isPerson) := gwV aw_431 aw_432 aw_433 aw_1 aw_434
theorem gX7_keeps_X7_isDoor : GoodIn wsX7_keeps (wsV RX7 135 RX7 yX7_isDoor wsX7_isDoor) := gwV aw_474 aw_475 aw_476 aw_1 aw_477
theorem gX7_keeps_X6_everyone : GoodIn wsX7_keeps (wsV RX7 192 RX6 yX6_everyone wsX6_everyone) := gwV aw_621 aw_259 aw_260 aw_28 aw_261
theorem gX7_keeps_X7_callersWhoReach : GoodIn wsX7_keeps (wsV RX7 189 RX7 yX7_callersWhoReach wsX7_callersWhoReach) := gwV aw_607 aw_608 aw_609 aw_1 aw_610
theorem dX7_keeps_0 : decode cX7_keeps 0 = .ok (.aload_n 0, 1) := by decide +kernel
theorem dX7_keeps_1 : decode cX7_keeps 1 = .ok (.iload_n 1, 1) := by decide +kernel
theorem dX7_keeps_2 : decode cX7_keeps 2 = .ok (.invokevirtual 109, 3) := by decide +kernel
theorem dX7_keeps_5 : decode cX7_keeps 5 = .ok (.ifCond .eq 20, 3) := by decide +kernel
theorem dX7_keeps_8 : decode cX7_keeps 8 = .ok (.aload_n 0, 1) := by decide +kernel
theorem dX7_keeps_9 : decode cX7_keeps 9 = .ok (.iload_n 2, 1) := by decide +kernel
theorem dX7_keeps_10 : decode cX7_keeps 10 = .ok (.invokevirtual 135, 3) := by decide +kernel
theorem dX7_keeps_13 : decode cX7_keeps 13 = .ok (.ifCond .eq 12, 3) := by decide +kernel
theorem dX7_keeps_16 : decode cX7_keeps 16 = .ok (.iload_n 3, 1) := by decide +kernel
theorem dX7_keeps_17 : decode cX7_keeps 17 = .ok (.ifCond .lt 8, 3) := by decide +kernel
theorem dX7_keeps_20 : decode cX7_keeps 20 = .ok (.iload_n 3, 1) := by decide +kernel
theorem dX7_keeps_21 : decode cX7_keeps 21 = .ok (.iconst 5, 1) := by decide +kernel
theorem dX7_keeps_22 : decode cX7_keeps 22 = .ok (.if_icmp .le 5, 3) := by decide +kernel
theorem dX7_keeps_25 : decode cX7_keeps 25 = .ok (.iconst (-1), 1) := by decide +kernel
theorem dX7_keeps_26 : decode cX7_keeps 26 = .ok (.ireturn, 1) := by decide +kernel
theorem dX7_keeps_27 : decode cX7_keeps 27 = .ok (.aload_n 0, 1) := by decide +kernel
theorem dX7_keeps_28 : decode cX7_keeps 28 = .ok (.getfield 47, 3) := by decide +kernel
theorem dX7_keeps_31 : decode cX7_keeps 31 = .ok (.invokevirtual 192, 3) := by decide +kernel
theorem dX7_keeps_34 : decode cX7_keeps 34 = .ok (.aload_n 0, 1) := by decide +kernel
theorem dX7_keeps_35 : decode cX7_keeps 35 = .ok (.iload_n 1, 1) := by decide +kernel
theorem dX7_keeps_36 : decode cX7_keeps 36 = .ok (.iload_n 3, 1) := by decide +kernel
theorem dX7_keeps_37 : decode cX7_keeps 37 = .ok (.invokevirtual 189, 3) := by decide +kernel
theorem dX7_keeps_40 : decode cX7_keeps 40 = .ok (.iconst (-1), 1) := by decide +kernel
theorem dX7_keeps_41 : decode cX7_keeps 41 = .ok (.ixor, 1) := by decide +kernel
theorem dX7_keeps_42 : decode cX7_keeps 42 = .ok (.iand, 1) := by decide +kernel
theorem dX7_keeps_43 : decode cX7_keeps 43 = .ok (.ireturn, 1) := by decide +kernel
theorem gX7_allIn_X7_shutOutBy : GoodIn wsX7_allIn (wsV RX7 182 RX7 yX7_shutOutBy wsX7_shutOutBy) := gwV aw_568 aw_569 aw_570 aw_1 aw_571
theorem gX7_allIn_J6_bitCount_0f7a4 : GoodIn wsX7_allIn (va_wsS RX7 123 yJ6_bitCount_0f7a4 wsJ6_bitCount_0f7a4) := gwS aw_440 aw_441 aw_442 aw_443
theorem gX7_allIn_X7_isDoor : GoodIn wsX7_allIn (wsV RX7 135 RX7 yX7_isDoor wsX7_isDoor) := gwV aw_474 aw_475 aw_476 aw_1 aw_477
theorem gX7_allIn_X7_has : GoodIn wsX7_allIn (va_wsS RX7 161 yX7_has wsX7_has) := gwS aw_524 aw_267 aw_1 aw_268
theorem gX7_allIn_X7_callersWhoReach : GoodIn wsX7_allIn (wsV RX7 189 RX7 yX7_callersWhoReach wsX7_callersWhoReach) := gwV aw_607 aw_608 aw_609 aw_1 aw_610
theorem gX7_allIn_X7_lowest : GoodIn wsX7_allIn (va_wsS RX7 195 yX7_lowest wsX7_lowest) := gwS aw_628 aw_629 aw_1 aw_630
theorem dX7_allIn_0 : decode cX7_allIn 0 = .ok (.iload_n 1, 1) := by decide +kernel
theorem dX7_allIn_1 : decode cX7_allIn 1 = .ok (.iconst (-1), 1) := by decide +kernel
theorem dX7_allIn_2 : decode cX7_allIn 2 = .ok (.if_icmp .ne 18, 3) := by decide +kernel
theorem dX7_allIn_5 : decode cX7_allIn 5 = .ok (.aload_n 0, 1) := by decide +kernel
theorem dX7_allIn_6 : decode cX7_allIn 6 = .ok (.aload_n 0, 1) := by decide +kernel
theorem dX7_allIn_7 : decode cX7_allIn 7 = .ok (.getfield 38, 3) := by decide +kernel
theorem dX7_allIn_10 : decode cX7_allIn 10 = .ok (.getfield 144, 3) := by decide +kernel
theorem dX7_allIn_13 : decode cX7_allIn 13 = .ok (.invokevirtual 182, 3) := by decide +kernel
theorem dX7_allIn_16 : decode cX7_allIn 16 = .ok (.invokestatic 123, 3) := by decide +kernel
theorem dX7_allIn_19 : decode cX7_allIn 19 = .ok (.ireturn, 1) := by decide +kernel
theorem dX7_allIn_20 : decode cX7_allIn 20 = .ok (.aload_n 0, 1) := by decide +kernel
theorem dX7_allIn_21 : decode cX7_allIn 21 = .ok (.iload_n 1, 1) := by decide +kernel
theorem dX7_allIn_22 : decode cX7_allIn 22 = .ok (.invokevirtual 135, 3) := by decide +kernel
theorem dX7_allIn_25 : decode cX7_allIn 25 = .ok (.ifCond .ne 5, 3) := by decide +kernel
theorem dX7_allIn_28 : decode cX7_allIn 28 = .ok (.iconst (-1), 1) := by decide +kernel
theorem dX7_allIn_29 : decode cX7_allIn 29 = .ok (.ireturn, 1) := by decide +kernel
theorem dX7_allIn_30 : decode cX7_allIn 30 = .ok (.aload_n 0, 1) := by decide +kernel
theorem dX7_allIn_31 : decode cX7_allIn 31 = .ok (.aload_n 0, 1) := by decide +kernel
theorem dX7_allIn_32 : decode cX7_allIn 32 = .ok (.getfield 38, 3) := by decide +kernel
theorem dX7_allIn_35 : decode cX7_allIn 35 = .ok (.getfield 144, 3) := by decide +kernel
theorem dX7_allIn_38 : decode cX7_allIn 38 = .ok (.invokevirtual 182, 3) := by decide +kernel
theorem dX7_allIn_41 : decode cX7_allIn 41 = .ok (.iload_n 1, 1) := by decide +kernel
theorem dX7_allIn_42 : decode cX7_allIn 42 = .ok (.invokestatic 161, 3) := by decide +kernel
theorem dX7_allIn_45 : decode cX7_allIn 45 = .ok (.ifCond .ne 6, 3) := by decide +kernel
theorem dX7_allIn_48 : decode cX7_allIn 48 = .ok (.bipush (-4), 2) := by decide +kernel
theorem dX7_allIn_50 : decode cX7_allIn 50 = .ok (.ireturn, 1) := by decide +kernel
theorem dX7_allIn_51 : decode cX7_allIn 51 = .ok (.aload_n 0, 1) := by decide +kernel
theorem dX7_allIn_52 : decode cX7_allIn 52 = .ok (.aload_n 0, 1) := by decide +kernel
theorem dX7_allIn_53 : decode cX7_allIn 53 = .ok (.getfield 32, 3) := by decide +kernel
theorem dX7_allIn_56 : decode cX7_allIn 56 = .ok (.getfield 138, 3) := by decide +kernel
theorem dX7_allIn_59 : decode cX7_allIn 59 = .ok (.iload_n 1, 1) := by decide +kernel
theorem dX7_allIn_60 : decode cX7_allIn 60 = .ok (.iaload, 1) := by decide +kernel
theorem dX7_allIn_61 : decode cX7_allIn 61 = .ok (.iconst 0, 1) := by decide +kernel
theorem dX7_allIn_62 : decode cX7_allIn 62 = .ok (.invokevirtual 189, 3) := by decide +kernel
theorem dX7_allIn_65 : decode cX7_allIn 65 = .ok (.invokestatic 195, 3) := by decide +kernel
theorem dX7_allIn_68 : decode cX7_allIn 68 = .ok (.ireturn, 1) := by decide +kernel
theorem gX7_friend_X7_isPerson : GoodIn wsX7_friend (wsV RX7 109 RX7 yX7_isPerson wsX7_isPerson) := gwV aw_431 aw_432 aw_433 aw_1 aw_434
theorem gX7_friend_X7_isPart : GoodIn wsX7_friend (va_wsS RX7 113 yX7_isPart wsX7_isPart) := gwS aw_436 aw_437 aw_1 aw_438
theorem gX7_friend_X7_pair : GoodIn wsX7_friend (va_wsS RX7 131 yX7_pair wsX7_pair) := gwS aw_465 aw_190 aw_1 aw_191
theorem dX7_friend_0 : decode cX7_friend 0 = .ok (.aload_n 0, 1) := by decide +kernel
theorem dX7_friend_1 : decode cX7_friend 1 = .ok (.iload_n 1, 1) := by decide +kernel
theorem dX7_friend_2 : decode cX7_friend 2 = .ok (.invokevirtual 109, 3) := by decide +kernel
theorem dX7_friend_5 : decode cX7_friend 5 = .ok (.ifCond .eq 10, 3) := by decide +kernel
theorem dX7_friend_8 : decode cX7_friend 8 = .ok (.iload_n 2, 1) := by decide +kernel
theorem dX7_friend_9 : decode cX7_friend 9 = .ok (.invokestatic 113, 3) := by decide +kernel
theorem dX7_friend_12 : decode cX7_friend 12 = .ok (.ifCond .ne 5, 3) := by decide +kernel
theorem dX7_friend_15 : decode cX7_friend 15 = .ok (.iconst (-1), 1) := by decide +kernel
theorem dX7_friend_16 : decode cX7_friend 16 = .ok (.ireturn, 1) := by decide +kernel
theorem dX7_friend_17 : decode cX7_friend 17 = .ok (.bipush (-4), 2) := by decide +kernel
theorem dX7_friend_19 : decode cX7_friend 19 = .ok (.istore_n 3, 1) := by decide +kernel
theorem dX7_friend_20 : decode cX7_friend 20 = .ok (.iconst (-1), 1) := by decide +kernel
theorem dX7_friend_21 : decode cX7_friend 21 = .ok (.istore 4, 2) := by decide +kernel
theorem dX7_friend_23 : decode cX7_friend 23 = .ok (.iconst 0, 1) := by decide +kernel
theorem dX7_friend_24 : decode cX7_friend 24 = .ok (.istore 5, 2) := by decide +kernel
theorem dX7_friend_26 : decode cX7_friend 26 = .ok (.iload 5, 2) := by decide +kernel
theorem dX7_friend_28 : decode cX7_friend 28 = .ok (.aload_n 0, 1) := by decide +kernel
theorem dX7_friend_29 : decode cX7_friend 29 = .ok (.getfield 32, 3) := by decide +kernel
theorem dX7_friend_32 : decode cX7_friend 32 = .ok (.getfield 198, 3) := by decide +kernel
theorem dX7_friend_35 : decode cX7_friend 35 = .ok (.if_icmp .ge 45, 3) := by decide +kernel
theorem dX7_friend_38 : decode cX7_friend 38 = .ok (.aload_n 0, 1) := by decide +kernel
theorem dX7_friend_39 : decode cX7_friend 39 = .ok (.getfield 38, 3) := by decide +kernel
theorem dX7_friend_42 : decode cX7_friend 42 = .ok (.getfield 128, 3) := by decide +kernel
theorem dX7_friend_45 : decode cX7_friend 45 = .ok (.iload 5, 2) := by decide +kernel
theorem dX7_friend_47 : decode cX7_friend 47 = .ok (.iload_n 1, 1) := by decide +kernel
theorem dX7_friend_48 : decode cX7_friend 48 = .ok (.invokestatic 131, 3) := by decide +kernel
theorem dX7_friend_51 : decode cX7_friend 51 = .ok (.iaload, 1) := by decide +kernel
theorem dX7_friend_52 : decode cX7_friend 52 = .ok (.istore 6, 2) := by decide +kernel
theorem dX7_friend_54 : decode cX7_friend 54 = .ok (.iload 5, 2) := by decide +kernel
theorem dX7_friend_56 : decode cX7_friend 56 = .ok (.iload_n 1, 1) := by decide +kernel
theorem dX7_friend_57 : decode cX7_friend 57 = .ok (.if_icmp .eq 17, 3) := by decide +kernel
theorem dX7_friend_60 : decode cX7_friend 60 = .ok (.iload 6, 2) := by decide +kernel
theorem dX7_friend_62 : decode cX7_friend 62 = .ok (.iload 4, 2) := by decide +kernel
theorem dX7_friend_64 : decode cX7_friend 64 = .ok (.if_icmp .le 10, 3) := by decide +kernel
theorem dX7_friend_67 : decode cX7_friend 67 = .ok (.iload 5, 2) := by decide +kernel
theorem dX7_friend_69 : decode cX7_friend 69 = .ok (.istore_n 3, 1) := by decide +kernel
theorem dX7_friend_70 : decode cX7_friend 70 = .ok (.iload 6, 2) := by decide +kernel
theorem dX7_friend_72 : decode cX7_friend 72 = .ok (.istore 4, 2) := by decide +kernel
theorem dX7_friend_74 : decode cX7_friend 74 = .ok (.iinc 5 1, 3) := by decide +kernel
theorem dX7_friend_77 : decode cX7_friend 77 = .ok (.goto (-51), 3) := by decide +kernel
theorem dX7_friend_80 : decode cX7_friend 80 = .ok (.iload_n 2, 1) := by decide +kernel
theorem dX7_friend_81 : decode cX7_friend 81 = .ok (.ifCond .ne 7, 3) := by decide +kernel
theorem dX7_friend_84 : decode cX7_friend 84 = .ok (.iload_n 3, 1) := by decide +kernel
theorem dX7_friend_85 : decode cX7_friend 85 = .ok (.goto 5, 3) := by decide +kernel
theorem dX7_friend_88 : decode cX7_friend 88 = .ok (.iload 4, 2) := by decide +kernel
theorem dX7_friend_90 : decode cX7_friend 90 = .ok (.ireturn, 1) := by decide +kernel
theorem gX7_seen_X7_isPerson : GoodIn wsX7_seen (wsV RX7 109 RX7 yX7_isPerson wsX7_isPerson) := gwV aw_431 aw_432 aw_433 aw_1 aw_434
theorem gX7_seen_X7_isDoor : GoodIn wsX7_seen (wsV RX7 135 RX7 yX7_isDoor wsX7_isDoor) := gwV aw_474 aw_475 aw_476 aw_1 aw_477
theorem gX7_seen_X7_isPart : GoodIn wsX7_seen (va_wsS RX7 113 yX7_isPart wsX7_isPart) := gwS aw_436 aw_437 aw_1 aw_438
theorem gX7_seen_X4_add : GoodIn wsX7_seen (wsV RX7 202 RX4 yX4_add wsX4_add) := gwV aw_648 aw_649 aw_650 aw_32 aw_651
theorem dX7_seen_0 : decode cX7_seen 0 = .ok (.aload_n 0, 1) := by decide +kernel
theorem dX7_seen_1 : decode cX7_seen 1 = .ok (.iload_n 1, 1) := by decide +kernel
theorem dX7_seen_2 : decode cX7_seen 2 = .ok (.invokevirtual 109, 3) := by decide +kernel
theorem dX7_seen_5 : decode cX7_seen 5 = .ok (.ifCond .eq 18, 3) := by decide +kernel
theorem dX7_seen_8 : decode cX7_seen 8 = .ok (.aload_n 0, 1) := by decide +kernel
theorem dX7_seen_9 : decode cX7_seen 9 = .ok (.iload_n 2, 1) := by decide +kernel
theorem dX7_seen_10 : decode cX7_seen 10 = .ok (.invokevirtual 135, 3) := by decide +kernel
theorem dX7_seen_13 : decode cX7_seen 13 = .ok (.ifCond .eq 10, 3) := by decide +kernel
theorem dX7_seen_16 : decode cX7_seen 16 = .ok (.iload_n 3, 1) := by decide +kernel
theorem dX7_seen_17 : decode cX7_seen 17 = .ok (.invokestatic 113, 3) := by decide +kernel
theorem dX7_seen_20 : decode cX7_seen 20 = .ok (.ifCond .ne 5, 3) := by decide +kernel
theorem dX7_seen_23 : decode cX7_seen 23 = .ok (.iconst (-1), 1) := by decide +kernel
theorem dX7_seen_24 : decode cX7_seen 24 = .ok (.ireturn, 1) := by decide +kernel
theorem dX7_seen_25 : decode cX7_seen 25 = .ok (.aload_n 0, 1) := by decide +kernel
theorem dX7_seen_26 : decode cX7_seen 26 = .ok (.getfield 54, 3) := by decide +kernel
theorem dX7_seen_29 : decode cX7_seen 29 = .ok (.getfield 201, 3) := by decide +kernel
theorem dX7_seen_32 : decode cX7_seen 32 = .ok (.bipush 8, 2) := by decide +kernel
theorem dX7_seen_34 : decode cX7_seen 34 = .ok (.if_icmp .lt 6, 3) := by decide +kernel
theorem dX7_seen_37 : decode cX7_seen 37 = .ok (.bipush (-3), 2) := by decide +kernel
theorem dX7_seen_39 : decode cX7_seen 39 = .ok (.ireturn, 1) := by decide +kernel
theorem dX7_seen_40 : decode cX7_seen 40 = .ok (.aload_n 0, 1) := by decide +kernel
theorem dX7_seen_41 : decode cX7_seen 41 = .ok (.getfield 54, 3) := by decide +kernel
theorem dX7_seen_44 : decode cX7_seen 44 = .ok (.iload_n 1, 1) := by decide +kernel
theorem dX7_seen_45 : decode cX7_seen 45 = .ok (.iload_n 2, 1) := by decide +kernel
theorem dX7_seen_46 : decode cX7_seen 46 = .ok (.iload_n 3, 1) := by decide +kernel
theorem dX7_seen_47 : decode cX7_seen 47 = .ok (.invokevirtual 202, 3) := by decide +kernel
theorem dX7_seen_50 : decode cX7_seen 50 = .ok (.aload_n 0, 1) := by decide +kernel
theorem dX7_seen_51 : decode cX7_seen 51 = .ok (.getfield 54, 3) := by decide +kernel
theorem dX7_seen_54 : decode cX7_seen 54 = .ok (.getfield 201, 3) := by decide +kernel
theorem dX7_seen_57 : decode cX7_seen 57 = .ok (.ireturn, 1) := by decide +kernel
theorem gX7_forget_X4_clear : GoodIn wsX7_forget (wsV RX7 206 RX4 yX4_clear wsX4_clear) := gwV aw_273 aw_274 aw_275 aw_32 aw_276
theorem dX7_forget_0 : decode cX7_forget 0 = .ok (.aload_n 0, 1) := by decide +kernel
theorem dX7_forget_1 : decode cX7_forget 1 = .ok (.getfield 54, 3) := by decide +kernel
theorem dX7_forget_4 : decode cX7_forget 4 = .ok (.getfield 201, 3) := by decide +kernel
theorem dX7_forget_7 : decode cX7_forget 7 = .ok (.istore_n 1, 1) := by decide +kernel
theorem dX7_forget_8 : decode cX7_forget 8 = .ok (.aload_n 0, 1) := by decide +kernel
theorem dX7_forget_9 : decode cX7_forget 9 = .ok (.getfield 54, 3) := by decide +kernel
theorem dX7_forget_12 : decode cX7_forget 12 = .ok (.invokevirtual 206, 3) := by decide +kernel
theorem dX7_forget_15 : decode cX7_forget 15 = .ok (.iload_n 1, 1) := by decide +kernel
theorem dX7_forget_16 : decode cX7_forget 16 = .ok (.ireturn, 1) := by decide +kernel
theorem gX7_called_X7_isDoor : GoodIn wsX7_called (wsV RX7 135 RX7 yX7_isDoor wsX7_isDoor) := gwV aw_474 aw_475 aw_476 aw_1 aw_477
theorem gX7_called_X4_lookedAt : GoodIn wsX7_called (wsV RX7 207 RX4 yX4_lookedAt wsX4_lookedAt) := gwV aw_664 aw_665 aw_666 aw_32 aw_667
theorem gX7_called_X4_cameInAt : GoodIn wsX7_called (wsV RX7 210 RX4 yX4_cameInAt wsX4_cameInAt) := gwV aw_668 aw_669 aw_670 aw_32 aw_671
theorem gX7_called_X6_knowersByCall : GoodIn wsX7_called (wsV RX7 154 RX6 yX6_knowersByCall wsX6_knowersByCall) := gwV aw_244 aw_245 aw_246 aw_28 aw_247
theorem dX7_called_0 : decode cX7_called 0 = .ok (.aload_n 0, 1) := by decide +kernel
theorem dX7_called_1 : decode cX7_called 1 = .ok (.iload_n 1, 1) := by decide +kernel
theorem dX7_called_2 : decode cX7_called 2 = .ok (.invokevirtual 135, 3) := by decide +kernel
theorem dX7_called_5 : decode cX7_called 5 = .ok (.ifCond .ne 5, 3) := by decide +kernel
theorem dX7_called_8 : decode cX7_called 8 = .ok (.iconst (-1), 1) := by decide +kernel
theorem dX7_called_9 : decode cX7_called 9 = .ok (.ireturn, 1) := by decide +kernel
theorem dX7_called_10 : decode cX7_called 10 = .ok (.aload_n 0, 1) := by decide +kernel
theorem dX7_called_11 : decode cX7_called 11 = .ok (.getfield 54, 3) := by decide +kernel
theorem dX7_called_14 : decode cX7_called 14 = .ok (.iload_n 1, 1) := by decide +kernel
theorem dX7_called_15 : decode cX7_called 15 = .ok (.invokevirtual 207, 3) := by decide +kernel
theorem dX7_called_18 : decode cX7_called 18 = .ok (.istore_n 2, 1) := by decide +kernel
theorem dX7_called_19 : decode cX7_called 19 = .ok (.aload_n 0, 1) := by decide +kernel
theorem dX7_called_20 : decode cX7_called 20 = .ok (.getfield 54, 3) := by decide +kernel
theorem dX7_called_23 : decode cX7_called 23 = .ok (.iload_n 1, 1) := by decide +kernel
theorem dX7_called_24 : decode cX7_called 24 = .ok (.invokevirtual 210, 3) := by decide +kernel
theorem dX7_called_27 : decode cX7_called 27 = .ok (.istore_n 3, 1) := by decide +kernel
theorem dX7_called_28 : decode cX7_called 28 = .ok (.iconst 0, 1) := by decide +kernel
theorem dX7_called_29 : decode cX7_called 29 = .ok (.istore 4, 2) := by decide +kernel
theorem dX7_called_31 : decode cX7_called 31 = .ok (.iconst 0, 1) := by decide +kernel
theorem dX7_called_32 : decode cX7_called 32 = .ok (.istore 5, 2) := by decide +kernel
theorem dX7_called_34 : decode cX7_called 34 = .ok (.iload 5, 2) := by decide +kernel
theorem dX7_called_36 : decode cX7_called 36 = .ok (.aload_n 0, 1) := by decide +kernel
theorem dX7_called_37 : decode cX7_called 37 = .ok (.getfield 32, 3) := by decide +kernel
theorem dX7_called_40 : decode cX7_called 40 = .ok (.getfield 198, 3) := by decide +kernel
theorem dX7_called_43 : decode cX7_called 43 = .ok (.if_icmp .ge 33, 3) := by decide +kernel
theorem dX7_called_46 : decode cX7_called 46 = .ok (.aload_n 0, 1) := by decide +kernel
theorem dX7_called_47 : decode cX7_called 47 = .ok (.getfield 47, 3) := by decide +kernel
theorem dX7_called_50 : decode cX7_called 50 = .ok (.iload 5, 2) := by decide +kernel
theorem dX7_called_52 : decode cX7_called 52 = .ok (.invokevirtual 154, 3) := by decide +kernel
theorem dX7_called_55 : decode cX7_called 55 = .ok (.iload_n 2, 1) := by decide +kernel
theorem dX7_called_56 : decode cX7_called 56 = .ok (.iand, 1) := by decide +kernel
theorem dX7_called_57 : decode cX7_called 57 = .ok (.iload_n 3, 1) := by decide +kernel
theorem dX7_called_58 : decode cX7_called 58 = .ok (.if_icmp .ne 12, 3) := by decide +kernel
theorem dX7_called_61 : decode cX7_called 61 = .ok (.iload 4, 2) := by decide +kernel
theorem dX7_called_63 : decode cX7_called 63 = .ok (.iconst 1, 1) := by decide +kernel
theorem dX7_called_64 : decode cX7_called 64 = .ok (.iload 5, 2) := by decide +kernel
theorem dX7_called_66 : decode cX7_called 66 = .ok (.ishl, 1) := by decide +kernel
theorem dX7_called_67 : decode cX7_called 67 = .ok (.ior, 1) := by decide +kernel
theorem dX7_called_68 : decode cX7_called 68 = .ok (.istore 4, 2) := by decide +kernel
theorem dX7_called_70 : decode cX7_called 70 = .ok (.iinc 5 1, 3) := by decide +kernel
theorem dX7_called_73 : decode cX7_called 73 = .ok (.goto (-39), 3) := by decide +kernel
theorem dX7_called_76 : decode cX7_called 76 = .ok (.iload 4, 2) := by decide +kernel
theorem dX7_called_78 : decode cX7_called 78 = .ok (.ireturn, 1) := by decide +kernel
theorem gX7_guess_X1_rankOf : GoodIn wsX7_guess (wsV RX7 216 RX1 yX1_rankOf wsX1_rankOf) := gwV aw_679 aw_680 aw_681 aw_15 aw_682
theorem dX7_guess_0 : decode cX7_guess 0 = .ok (.iload_n 1, 1) := by decide +kernel
theorem dX7_guess_1 : decode cX7_guess 1 = .ok (.ifCond .ge 5, 3) := by decide +kernel
theorem dX7_guess_4 : decode cX7_guess 4 = .ok (.iconst (-1), 1) := by decide +kernel
theorem dX7_guess_5 : decode cX7_guess 5 = .ok (.ireturn, 1) := by decide +kernel
theorem dX7_guess_6 : decode cX7_guess 6 = .ok (.iconst 0, 1) := by decide +kernel
theorem dX7_guess_7 : decode cX7_guess 7 = .ok (.istore_n 2, 1) := by decide +kernel
theorem dX7_guess_8 : decode cX7_guess 8 = .ok (.iload_n 2, 1) := by decide +kernel
theorem dX7_guess_9 : decode cX7_guess 9 = .ok (.aload_n 0, 1) := by decide +kernel
theorem dX7_guess_10 : decode cX7_guess 10 = .ok (.getfield 32, 3) := by decide +kernel
theorem dX7_guess_13 : decode cX7_guess 13 = .ok (.getfield 213, 3) := by decide +kernel
theorem dX7_guess_16 : decode cX7_guess 16 = .ok (.if_icmp .ge 23, 3) := by decide +kernel
theorem dX7_guess_19 : decode cX7_guess 19 = .ok (.aload_n 0, 1) := by decide +kernel
theorem dX7_guess_20 : decode cX7_guess 20 = .ok (.getfield 32, 3) := by decide +kernel
theorem dX7_guess_23 : decode cX7_guess 23 = .ok (.iload_n 2, 1) := by decide +kernel
theorem dX7_guess_24 : decode cX7_guess 24 = .ok (.invokevirtual 216, 3) := by decide +kernel
theorem dX7_guess_27 : decode cX7_guess 27 = .ok (.iload_n 1, 1) := by decide +kernel
theorem dX7_guess_28 : decode cX7_guess 28 = .ok (.if_icmp .ne 5, 3) := by decide +kernel
theorem dX7_guess_31 : decode cX7_guess 31 = .ok (.iload_n 2, 1) := by decide +kernel
theorem dX7_guess_32 : decode cX7_guess 32 = .ok (.ireturn, 1) := by decide +kernel
theorem dX7_guess_33 : decode cX7_guess 33 = .ok (.iinc 2 1, 3) := by decide +kernel
theorem dX7_guess_36 : decode cX7_guess 36 = .ok (.goto (-28), 3) := by decide +kernel
theorem dX7_guess_39 : decode cX7_guess 39 = .ok (.bipush (-4), 2) := by decide +kernel
theorem dX7_guess_41 : decode cX7_guess 41 = .ok (.ireturn, 1) := by decide +kernel
theorem gX7_mean_X7_isPart : GoodIn wsX7_mean (va_wsS RX7 113 yX7_isPart wsX7_isPart) := gwS aw_436 aw_437 aw_1 aw_438
theorem gX7_mean_X1_rankOf : GoodIn wsX7_mean (wsV RX7 216 RX1 yX1_rankOf wsX1_rankOf) := gwV aw_679 aw_680 aw_681 aw_15 aw_682
theorem gX7_mean_X1_allParts : GoodIn wsX7_mean (wsV RX7 222 RX1 yX1_allParts wsX1_allParts) := gwV aw_694 aw_695 aw_696 aw_15 aw_697
theorem gX7_mean_X7_inLowestTerms : GoodIn wsX7_mean (va_wsS RX7 225 yX7_inLowestTerms wsX7_inLowestTerms) := gwS aw_698 aw_699 aw_1 aw_700
theorem dX7_mean_0 : decode cX7_mean 0 = .ok (.iload_n 1, 1) := by decide +kernel
theorem dX7_mean_1 : decode cX7_mean 1 = .ok (.invokestatic 113, 3) := by decide +kernel
theorem dX7_mean_4 : decode cX7_mean 4 = .ok (.ifCond .ne 5, 3) := by decide +kernel
theorem dX7_mean_7 : decode cX7_mean 7 = .ok (.iconst (-1), 1) := by decide +kernel
theorem dX7_mean_8 : decode cX7_mean 8 = .ok (.ireturn, 1) := by decide +kernel
theorem dX7_mean_9 : decode cX7_mean 9 = .ok (.aload_n 0, 1) := by decide +kernel
theorem dX7_mean_10 : decode cX7_mean 10 = .ok (.getfield 32, 3) := by decide +kernel
theorem dX7_mean_13 : decode cX7_mean 13 = .ok (.getfield 213, 3) := by decide +kernel
theorem dX7_mean_16 : decode cX7_mean 16 = .ok (.ifCond .ne 6, 3) := by decide +kernel
theorem dX7_mean_19 : decode cX7_mean 19 = .ok (.bipush (-4), 2) := by decide +kernel
theorem dX7_mean_21 : decode cX7_mean 21 = .ok (.ireturn, 1) := by decide +kernel
theorem dX7_mean_22 : decode cX7_mean 22 = .ok (.iconst 0, 1) := by decide +kernel
theorem dX7_mean_23 : decode cX7_mean 23 = .ok (.istore_n 2, 1) := by decide +kernel
theorem dX7_mean_24 : decode cX7_mean 24 = .ok (.iconst 0, 1) := by decide +kernel
theorem dX7_mean_25 : decode cX7_mean 25 = .ok (.istore_n 3, 1) := by decide +kernel
theorem dX7_mean_26 : decode cX7_mean 26 = .ok (.iload_n 3, 1) := by decide +kernel
theorem dX7_mean_27 : decode cX7_mean 27 = .ok (.aload_n 0, 1) := by decide +kernel
theorem dX7_mean_28 : decode cX7_mean 28 = .ok (.getfield 32, 3) := by decide +kernel
theorem dX7_mean_31 : decode cX7_mean 31 = .ok (.getfield 213, 3) := by decide +kernel
theorem dX7_mean_34 : decode cX7_mean 34 = .ok (.if_icmp .ge 32, 3) := by decide +kernel
theorem dX7_mean_37 : decode cX7_mean 37 = .ok (.iload_n 2, 1) := by decide +kernel
theorem dX7_mean_38 : decode cX7_mean 38 = .ok (.aload_n 0, 1) := by decide +kernel
theorem dX7_mean_39 : decode cX7_mean 39 = .ok (.getfield 32, 3) := by decide +kernel
theorem dX7_mean_42 : decode cX7_mean 42 = .ok (.getfield 219, 3) := by decide +kernel
theorem dX7_mean_45 : decode cX7_mean 45 = .ok (.iload_n 3, 1) := by decide +kernel
theorem dX7_mean_46 : decode cX7_mean 46 = .ok (.iaload, 1) := by decide +kernel
theorem dX7_mean_47 : decode cX7_mean 47 = .ok (.aload_n 0, 1) := by decide +kernel
theorem dX7_mean_48 : decode cX7_mean 48 = .ok (.getfield 32, 3) := by decide +kernel
theorem dX7_mean_51 : decode cX7_mean 51 = .ok (.iload_n 3, 1) := by decide +kernel
theorem dX7_mean_52 : decode cX7_mean 52 = .ok (.invokevirtual 216, 3) := by decide +kernel
theorem dX7_mean_55 : decode cX7_mean 55 = .ok (.iconst 1, 1) := by decide +kernel
theorem dX7_mean_56 : decode cX7_mean 56 = .ok (.iadd, 1) := by decide +kernel
theorem dX7_mean_57 : decode cX7_mean 57 = .ok (.imul, 1) := by decide +kernel
theorem dX7_mean_58 : decode cX7_mean 58 = .ok (.iadd, 1) := by decide +kernel
theorem dX7_mean_59 : decode cX7_mean 59 = .ok (.istore_n 2, 1) := by decide +kernel
theorem dX7_mean_60 : decode cX7_mean 60 = .ok (.iinc 3 1, 3) := by decide +kernel
theorem dX7_mean_63 : decode cX7_mean 63 = .ok (.goto (-37), 3) := by decide +kernel
theorem dX7_mean_66 : decode cX7_mean 66 = .ok (.iload_n 2, 1) := by decide +kernel
theorem dX7_mean_67 : decode cX7_mean 67 = .ok (.aload_n 0, 1) := by decide +kernel
theorem dX7_mean_68 : decode cX7_mean 68 = .ok (.getfield 32, 3) := by decide +kernel
theorem dX7_mean_71 : decode cX7_mean 71 = .ok (.invokevirtual 222, 3) := by decide +kernel
theorem dX7_mean_74 : decode cX7_mean 74 = .ok (.iload_n 1, 1) := by decide +kernel
theorem dX7_mean_75 : decode cX7_mean 75 = .ok (.invokestatic 225, 3) := by decide +kernel
theorem dX7_mean_78 : decode cX7_mean 78 = .ok (.ireturn, 1) := by decide +kernel
theorem gX7_inTime_X7_isPart : GoodIn wsX7_inTime (va_wsS RX7 113 yX7_isPart wsX7_isPart) := gwS aw_436 aw_437 aw_1 aw_438
theorem gX7_inTime_X1_rankOf : GoodIn wsX7_inTime (wsV RX7 216 RX1 yX1_rankOf wsX1_rankOf) := gwV aw_679 aw_680 aw_681 aw_15 aw_682
theorem gX7_inTime_X1_allParts : GoodIn wsX7_inTime (wsV RX7 222 RX1 yX1_allParts wsX1_allParts) := gwV aw_694 aw_695 aw_696 aw_15 aw_697
theorem gX7_inTime_X7_inLowestTerms : GoodIn wsX7_inTime (va_wsS RX7 225 yX7_inLowestTerms wsX7_inLowestTerms) := gwS aw_698 aw_699 aw_1 aw_700
theorem dX7_inTime_0 : decode cX7_inTime 0 = .ok (.iload_n 1, 1) := by decide +kernel
theorem dX7_inTime_1 : decode cX7_inTime 1 = .ok (.invokestatic 113, 3) := by decide +kernel
theorem dX7_inTime_4 : decode cX7_inTime 4 = .ok (.ifCond .ne 5, 3) := by decide +kernel
theorem dX7_inTime_7 : decode cX7_inTime 7 = .ok (.iconst (-1), 1) := by decide +kernel
theorem dX7_inTime_8 : decode cX7_inTime 8 = .ok (.ireturn, 1) := by decide +kernel
theorem dX7_inTime_9 : decode cX7_inTime 9 = .ok (.aload_n 0, 1) := by decide +kernel
theorem dX7_inTime_10 : decode cX7_inTime 10 = .ok (.getfield 32, 3) := by decide +kernel
theorem dX7_inTime_13 : decode cX7_inTime 13 = .ok (.getfield 213, 3) := by decide +kernel
theorem dX7_inTime_16 : decode cX7_inTime 16 = .ok (.ifCond .ne 6, 3) := by decide +kernel
theorem dX7_inTime_19 : decode cX7_inTime 19 = .ok (.bipush (-4), 2) := by decide +kernel
theorem dX7_inTime_21 : decode cX7_inTime 21 = .ok (.ireturn, 1) := by decide +kernel
theorem dX7_inTime_22 : decode cX7_inTime 22 = .ok (.iconst 0, 1) := by decide +kernel
theorem dX7_inTime_23 : decode cX7_inTime 23 = .ok (.istore_n 2, 1) := by decide +kernel
theorem dX7_inTime_24 : decode cX7_inTime 24 = .ok (.iconst 0, 1) := by decide +kernel
theorem dX7_inTime_25 : decode cX7_inTime 25 = .ok (.istore_n 3, 1) := by decide +kernel
theorem dX7_inTime_26 : decode cX7_inTime 26 = .ok (.iload_n 3, 1) := by decide +kernel
theorem dX7_inTime_27 : decode cX7_inTime 27 = .ok (.aload_n 0, 1) := by decide +kernel
theorem dX7_inTime_28 : decode cX7_inTime 28 = .ok (.getfield 32, 3) := by decide +kernel
theorem dX7_inTime_31 : decode cX7_inTime 31 = .ok (.getfield 213, 3) := by decide +kernel
theorem dX7_inTime_34 : decode cX7_inTime 34 = .ok (.if_icmp .ge 39, 3) := by decide +kernel
theorem dX7_inTime_37 : decode cX7_inTime 37 = .ok (.aload_n 0, 1) := by decide +kernel
theorem dX7_inTime_38 : decode cX7_inTime 38 = .ok (.getfield 32, 3) := by decide +kernel
theorem dX7_inTime_41 : decode cX7_inTime 41 = .ok (.iload_n 3, 1) := by decide +kernel
theorem dX7_inTime_42 : decode cX7_inTime 42 = .ok (.invokevirtual 216, 3) := by decide +kernel
theorem dX7_inTime_45 : decode cX7_inTime 45 = .ok (.aload_n 0, 1) := by decide +kernel
theorem dX7_inTime_46 : decode cX7_inTime 46 = .ok (.getfield 32, 3) := by decide +kernel
theorem dX7_inTime_49 : decode cX7_inTime 49 = .ok (.getfield 229, 3) := by decide +kernel
theorem dX7_inTime_52 : decode cX7_inTime 52 = .ok (.if_icmp .ge 15, 3) := by decide +kernel
theorem dX7_inTime_55 : decode cX7_inTime 55 = .ok (.iload_n 2, 1) := by decide +kernel
theorem dX7_inTime_56 : decode cX7_inTime 56 = .ok (.aload_n 0, 1) := by decide +kernel
theorem dX7_inTime_57 : decode cX7_inTime 57 = .ok (.getfield 32, 3) := by decide +kernel
theorem dX7_inTime_60 : decode cX7_inTime 60 = .ok (.getfield 219, 3) := by decide +kernel
theorem dX7_inTime_63 : decode cX7_inTime 63 = .ok (.iload_n 3, 1) := by decide +kernel
theorem dX7_inTime_64 : decode cX7_inTime 64 = .ok (.iaload, 1) := by decide +kernel
theorem dX7_inTime_65 : decode cX7_inTime 65 = .ok (.iadd, 1) := by decide +kernel
theorem dX7_inTime_66 : decode cX7_inTime 66 = .ok (.istore_n 2, 1) := by decide +kernel
theorem dX7_inTime_67 : decode cX7_inTime 67 = .ok (.iinc 3 1, 3) := by decide +kernel
theorem dX7_inTime_70 : decode cX7_inTime 70 = .ok (.goto (-44), 3) := by decide +kernel
theorem dX7_inTime_73 : decode cX7_inTime 73 = .ok (.iload_n 2, 1) := by decide +kernel
theorem dX7_inTime_74 : decode cX7_inTime 74 = .ok (.aload_n 0, 1) := by decide +kernel
theorem dX7_inTime_75 : decode cX7_inTime 75 = .ok (.getfield 32, 3) := by decide +kernel
theorem dX7_inTime_78 : decode cX7_inTime 78 = .ok (.invokevirtual 222, 3) := by decide +kernel
theorem dX7_inTime_81 : decode cX7_inTime 81 = .ok (.iload_n 1, 1) := by decide +kernel
theorem dX7_inTime_82 : decode cX7_inTime 82 = .ok (.invokestatic 225, 3) := by decide +kernel
theorem dX7_inTime_85 : decode cX7_inTime 85 = .ok (.ireturn, 1) := by decide +kernel
theorem gX7_likely_X7_isDoor : GoodIn wsX7_likely (wsV RX7 135 RX7 yX7_isDoor wsX7_isDoor) := gwV aw_474 aw_475 aw_476 aw_1 aw_477
theorem gX7_likely_X7_isPart : GoodIn wsX7_likely (va_wsS RX7 113 yX7_isPart wsX7_isPart) := gwS aw_436 aw_437 aw_1 aw_438
theorem gX7_likely_X7_knowersByVisitors : GoodIn wsX7_likely (wsV RX7 232 RX7 yX7_knowersByVisitors wsX7_knowersByVisitors) := gwV aw_726 aw_727 aw_728 aw_1 aw_729
theorem gX7_likely_X7_has : GoodIn wsX7_likely (va_wsS RX7 161 yX7_has wsX7_has) := gwS aw_524 aw_267 aw_1 aw_268
theorem gX7_likely_X7_inLowestTerms : GoodIn wsX7_likely (va_wsS RX7 225 yX7_inLowestTerms wsX7_inLowestTerms) := gwS aw_698 aw_699 aw_1 aw_700
theorem dX7_likely_0 : decode cX7_likely 0 = .ok (.aload_n 0, 1) := by decide +kernel
theorem dX7_likely_1 : decode cX7_likely 1 = .ok (.iload_n 1, 1) := by decide +kernel
theorem dX7_likely_2 : decode cX7_likely 2 = .ok (.invokevirtual 135, 3) := by decide +kernel
theorem dX7_likely_5 : decode cX7_likely 5 = .ok (.ifCond .eq 19, 3) := by decide +kernel
theorem dX7_likely_8 : decode cX7_likely 8 = .ok (.iload_n 2, 1) := by decide +kernel
theorem dX7_likely_9 : decode cX7_likely 9 = .ok (.ifCond .lt 15, 3) := by decide +kernel
theorem dX7_likely_12 : decode cX7_likely 12 = .ok (.iload_n 2, 1) := by decide +kernel
theorem dX7_likely_13 : decode cX7_likely 13 = .ok (.iconst 3, 1) := by decide +kernel
theorem dX7_likely_14 : decode cX7_likely 14 = .ok (.if_icmp .gt 10, 3) := by decide +kernel
theorem dX7_likely_17 : decode cX7_likely 17 = .ok (.iload_n 3, 1) := by decide +kernel
theorem dX7_likely_18 : decode cX7_likely 18 = .ok (.invokestatic 113, 3) := by decide +kernel
theorem dX7_likely_21 : decode cX7_likely 21 = .ok (.ifCond .ne 5, 3) := by decide +kernel
theorem dX7_likely_24 : decode cX7_likely 24 = .ok (.iconst (-1), 1) := by decide +kernel
theorem dX7_likely_25 : decode cX7_likely 25 = .ok (.ireturn, 1) := by decide +kernel
theorem dX7_likely_26 : decode cX7_likely 26 = .ok (.iconst 1, 1) := by decide +kernel
theorem dX7_likely_27 : decode cX7_likely 27 = .ok (.istore 4, 2) := by decide +kernel
theorem dX7_likely_29 : decode cX7_likely 29 = .ok (.iconst 0, 1) := by decide +kernel
theorem dX7_likely_30 : decode cX7_likely 30 = .ok (.istore 5, 2) := by decide +kernel
theorem dX7_likely_32 : decode cX7_likely 32 = .ok (.iload 5, 2) := by decide +kernel
theorem dX7_likely_34 : decode cX7_likely 34 = .ok (.iload_n 2, 1) := by decide +kernel
theorem dX7_likely_35 : decode cX7_likely 35 = .ok (.if_icmp .ge 21, 3) := by decide +kernel
theorem dX7_likely_38 : decode cX7_likely 38 = .ok (.iload 4, 2) := by decide +kernel
theorem dX7_likely_40 : decode cX7_likely 40 = .ok (.aload_n 0, 1) := by decide +kernel
theorem dX7_likely_41 : decode cX7_likely 41 = .ok (.getfield 32, 3) := by decide +kernel
theorem dX7_likely_44 : decode cX7_likely 44 = .ok (.getfield 198, 3) := by decide +kernel
theorem dX7_likely_47 : decode cX7_likely 47 = .ok (.imul, 1) := by decide +kernel
theorem dX7_likely_48 : decode cX7_likely 48 = .ok (.istore 4, 2) := by decide +kernel
theorem dX7_likely_50 : decode cX7_likely 50 = .ok (.iinc 5 1, 3) := by decide +kernel
theorem dX7_likely_53 : decode cX7_likely 53 = .ok (.goto (-21), 3) := by decide +kernel
theorem dX7_likely_56 : decode cX7_likely 56 = .ok (.iconst 0, 1) := by decide +kernel
theorem dX7_likely_57 : decode cX7_likely 57 = .ok (.istore 5, 2) := by decide +kernel
theorem dX7_likely_59 : decode cX7_likely 59 = .ok (.iconst 0, 1) := by decide +kernel
theorem dX7_likely_60 : decode cX7_likely 60 = .ok (.istore 6, 2) := by decide +kernel
theorem dX7_likely_62 : decode cX7_likely 62 = .ok (.iload 6, 2) := by decide +kernel
theorem dX7_likely_64 : decode cX7_likely 64 = .ok (.iload 4, 2) := by decide +kernel
theorem dX7_likely_66 : decode cX7_likely 66 = .ok (.if_icmp .ge 35, 3) := by decide +kernel
theorem dX7_likely_69 : decode cX7_likely 69 = .ok (.aload_n 0, 1) := by decide +kernel
theorem dX7_likely_70 : decode cX7_likely 70 = .ok (.iload_n 1, 1) := by decide +kernel
theorem dX7_likely_71 : decode cX7_likely 71 = .ok (.iload_n 2, 1) := by decide +kernel
theorem dX7_likely_72 : decode cX7_likely 72 = .ok (.iload 6, 2) := by decide +kernel
theorem dX7_likely_74 : decode cX7_likely 74 = .ok (.invokevirtual 232, 3) := by decide +kernel
theorem dX7_likely_77 : decode cX7_likely 77 = .ok (.aload_n 0, 1) := by decide +kernel
theorem dX7_likely_78 : decode cX7_likely 78 = .ok (.getfield 32, 3) := by decide +kernel
theorem dX7_likely_81 : decode cX7_likely 81 = .ok (.getfield 138, 3) := by decide +kernel
theorem dX7_likely_84 : decode cX7_likely 84 = .ok (.iload_n 1, 1) := by decide +kernel
theorem dX7_likely_85 : decode cX7_likely 85 = .ok (.iaload, 1) := by decide +kernel
theorem dX7_likely_86 : decode cX7_likely 86 = .ok (.invokestatic 161, 3) := by decide +kernel
theorem dX7_likely_89 : decode cX7_likely 89 = .ok (.ifCond .ne 6, 3) := by decide +kernel
theorem dX7_likely_92 : decode cX7_likely 92 = .ok (.iinc 5 1, 3) := by decide +kernel
theorem dX7_likely_95 : decode cX7_likely 95 = .ok (.iinc 6 1, 3) := by decide +kernel
theorem dX7_likely_98 : decode cX7_likely 98 = .ok (.goto (-36), 3) := by decide +kernel
theorem dX7_likely_101 : decode cX7_likely 101 = .ok (.iload 5, 2) := by decide +kernel
theorem dX7_likely_103 : decode cX7_likely 103 = .ok (.iload 4, 2) := by decide +kernel
theorem dX7_likely_105 : decode cX7_likely 105 = .ok (.iload_n 3, 1) := by decide +kernel
theorem dX7_likely_106 : decode cX7_likely 106 = .ok (.invokestatic 225, 3) := by decide +kernel
theorem dX7_likely_109 : decode cX7_likely 109 = .ok (.ireturn, 1) := by decide +kernel
theorem gX7_street_X7_isPart : GoodIn wsX7_street (va_wsS RX7 113 yX7_isPart wsX7_isPart) := gwS aw_436 aw_437 aw_1 aw_438
theorem gX7_street_X7_drawOf : GoodIn wsX7_street (va_wsS RX7 241 yX7_drawOf wsX7_drawOf) := gwS aw_740 aw_741 aw_1 aw_742
theorem gX7_street_X7_goOnInStreet : GoodIn wsX7_street (wsV RX7 244 RX7 yX7_goOnInStreet wsX7_goOnInStreet) := gwV aw_747 aw_748 aw_749 aw_1 aw_750
theorem gX7_street_X7_shutOutBy : GoodIn wsX7_street (wsV RX7 182 RX7 yX7_shutOutBy wsX7_shutOutBy) := gwV aw_568 aw_569 aw_570 aw_1 aw_571
theorem dX7_street_0 : decode cX7_street 0 = .ok (.iload_n 1, 1) := by decide +kernel
theorem dX7_street_1 : decode cX7_street 1 = .ok (.ifCond .lt 28, 3) := by decide +kernel
theorem dX7_street_4 : decode cX7_street 4 = .ok (.iload_n 1, 1) := by decide +kernel
theorem dX7_street_5 : decode cX7_street 5 = .ok (.sipush 9999, 3) := by decide +kernel
theorem dX7_street_8 : decode cX7_street 8 = .ok (.if_icmp .gt 21, 3) := by decide +kernel
theorem dX7_street_11 : decode cX7_street 11 = .ok (.iload_n 2, 1) := by decide +kernel
theorem dX7_street_12 : decode cX7_street 12 = .ok (.iconst 1, 1) := by decide +kernel
theorem dX7_street_13 : decode cX7_street 13 = .ok (.if_icmp .lt 16, 3) := by decide +kernel
theorem dX7_street_16 : decode cX7_street 16 = .ok (.iload_n 2, 1) := by decide +kernel
theorem dX7_street_17 : decode cX7_street 17 = .ok (.bipush 60, 2) := by decide +kernel
theorem dX7_street_19 : decode cX7_street 19 = .ok (.if_icmp .gt 10, 3) := by decide +kernel
theorem dX7_street_22 : decode cX7_street 22 = .ok (.iload_n 3, 1) := by decide +kernel
theorem dX7_street_23 : decode cX7_street 23 = .ok (.invokestatic 113, 3) := by decide +kernel
theorem dX7_street_26 : decode cX7_street 26 = .ok (.ifCond .ne 5, 3) := by decide +kernel
theorem dX7_street_29 : decode cX7_street 29 = .ok (.iconst (-1), 1) := by decide +kernel
theorem dX7_street_30 : decode cX7_street 30 = .ok (.ireturn, 1) := by decide +kernel
theorem dX7_street_31 : decode cX7_street 31 = .ok (.aload_n 0, 1) := by decide +kernel
theorem dX7_street_32 : decode cX7_street 32 = .ok (.getfield 38, 3) := by decide +kernel
theorem dX7_street_35 : decode cX7_street 35 = .ok (.getfield 144, 3) := by decide +kernel
theorem dX7_street_38 : decode cX7_street 38 = .ok (.iconst 0, 1) := by decide +kernel
theorem dX7_street_39 : decode cX7_street 39 = .ok (.aload_n 0, 1) := by decide +kernel
theorem dX7_street_40 : decode cX7_street 40 = .ok (.getfield 70, 3) := by decide +kernel
theorem dX7_street_43 : decode cX7_street 43 = .ok (.iconst 0, 1) := by decide +kernel
theorem dX7_street_44 : decode cX7_street 44 = .ok (.iconst 5, 1) := by decide +kernel
theorem dX7_street_45 : decode cX7_street 45 = .ok (.invokestatic 235, 3) := by decide +kernel
theorem dX7_street_48 : decode cX7_street 48 = .ok (.iconst 0, 1) := by decide +kernel
theorem dX7_street_49 : decode cX7_street 49 = .ok (.istore 4, 2) := by decide +kernel
theorem dX7_street_51 : decode cX7_street 51 = .ok (.iconst 0, 1) := by decide +kernel
theorem dX7_street_52 : decode cX7_street 52 = .ok (.istore 5, 2) := by decide +kernel
theorem dX7_street_54 : decode cX7_street 54 = .ok (.iload 5, 2) := by decide +kernel
theorem dX7_street_56 : decode cX7_street 56 = .ok (.iload_n 2, 1) := by decide +kernel
theorem dX7_street_57 : decode cX7_street 57 = .ok (.if_icmp .ge 33, 3) := by decide +kernel
theorem dX7_street_60 : decode cX7_street 60 = .ok (.aload_n 0, 1) := by decide +kernel
theorem dX7_street_61 : decode cX7_street 61 = .ok (.iload_n 1, 1) := by decide +kernel
theorem dX7_street_62 : decode cX7_street 62 = .ok (.iload 5, 2) := by decide +kernel
theorem dX7_street_64 : decode cX7_street 64 = .ok (.invokestatic 241, 3) := by decide +kernel
theorem dX7_street_67 : decode cX7_street 67 = .ok (.invokevirtual 244, 3) := by decide +kernel
theorem dX7_street_70 : decode cX7_street 70 = .ok (.aload_n 0, 1) := by decide +kernel
theorem dX7_street_71 : decode cX7_street 71 = .ok (.aload_n 0, 1) := by decide +kernel
theorem dX7_street_72 : decode cX7_street 72 = .ok (.getfield 70, 3) := by decide +kernel
theorem dX7_street_75 : decode cX7_street 75 = .ok (.invokevirtual 182, 3) := by decide +kernel
theorem dX7_street_78 : decode cX7_street 78 = .ok (.ifCond .ne 6, 3) := by decide +kernel
theorem dX7_street_81 : decode cX7_street 81 = .ok (.iinc 4 1, 3) := by decide +kernel
theorem dX7_street_84 : decode cX7_street 84 = .ok (.iinc 5 1, 3) := by decide +kernel
theorem dX7_street_87 : decode cX7_street 87 = .ok (.goto (-33), 3) := by decide +kernel
theorem dX7_street_90 : decode cX7_street 90 = .ok (.iload_n 3, 1) := by decide +kernel
theorem dX7_street_91 : decode cX7_street 91 = .ok (.ifCond .ne 14, 3) := by decide +kernel
theorem dX7_street_94 : decode cX7_street 94 = .ok (.aload_n 0, 1) := by decide +kernel
theorem dX7_street_95 : decode cX7_street 95 = .ok (.aload_n 0, 1) := by decide +kernel
theorem dX7_street_96 : decode cX7_street 96 = .ok (.getfield 70, 3) := by decide +kernel
theorem dX7_street_99 : decode cX7_street 99 = .ok (.invokevirtual 182, 3) := by decide +kernel
theorem dX7_street_102 : decode cX7_street 102 = .ok (.goto 5, 3) := by decide +kernel
theorem dX7_street_105 : decode cX7_street 105 = .ok (.iload 4, 2) := by decide +kernel
theorem dX7_street_107 : decode cX7_street 107 = .ok (.ireturn, 1) := by decide +kernel
theorem gX7_keep_X3_put : GoodIn wsX7_keep (wsV RX7 150 RX3 yX3_put wsX3_put) := gwV aw_502 aw_503 aw_504 aw_36 aw_505
theorem dX7_keep_0 : decode cX7_keep 0 = .ok (.aload_n 0, 1) := by decide +kernel
theorem dX7_keep_1 : decode cX7_keep 1 = .ok (.getfield 67, 3) := by decide +kernel
theorem dX7_keep_4 : decode cX7_keep 4 = .ok (.getfield 176, 3) := by decide +kernel
theorem dX7_keep_7 : decode cX7_keep 7 = .ok (.iconst 2, 1) := by decide +kernel
theorem dX7_keep_8 : decode cX7_keep 8 = .ok (.if_icmp .lt 6, 3) := by decide +kernel
theorem dX7_keep_11 : decode cX7_keep 11 = .ok (.bipush (-3), 2) := by decide +kernel
theorem dX7_keep_13 : decode cX7_keep 13 = .ok (.ireturn, 1) := by decide +kernel
theorem dX7_keep_14 : decode cX7_keep 14 = .ok (.aload_n 0, 1) := by decide +kernel
theorem dX7_keep_15 : decode cX7_keep 15 = .ok (.getfield 67, 3) := by decide +kernel
theorem dX7_keep_18 : decode cX7_keep 18 = .ok (.aload_n 0, 1) := by decide +kernel
theorem dX7_keep_19 : decode cX7_keep 19 = .ok (.getfield 38, 3) := by decide +kernel
theorem dX7_keep_22 : decode cX7_keep 22 = .ok (.invokevirtual 150, 3) := by decide +kernel
theorem dX7_keep_25 : decode cX7_keep 25 = .ok (.aload_n 0, 1) := by decide +kernel
theorem dX7_keep_26 : decode cX7_keep 26 = .ok (.getfield 67, 3) := by decide +kernel
theorem dX7_keep_29 : decode cX7_keep 29 = .ok (.getfield 176, 3) := by decide +kernel
theorem dX7_keep_32 : decode cX7_keep 32 = .ok (.ireturn, 1) := by decide +kernel
theorem gX7_back_X3_takeLatestInto : GoodIn wsX7_back (wsV RX7 179 RX3 yX3_takeLatestInto wsX3_takeLatestInto) := gwV aw_558 aw_559 aw_560 aw_36 aw_561
theorem gX7_back_X3_clear : GoodIn wsX7_back (wsV RX7 247 RX3 yX3_clear wsX3_clear) := gwV aw_277 aw_278 aw_279 aw_36 aw_280
theorem dX7_back_0 : decode cX7_back 0 = .ok (.aload_n 0, 1) := by decide +kernel
theorem dX7_back_1 : decode cX7_back 1 = .ok (.getfield 67, 3) := by decide +kernel
theorem dX7_back_4 : decode cX7_back 4 = .ok (.getfield 176, 3) := by decide +kernel
theorem dX7_back_7 : decode cX7_back 7 = .ok (.ifCond .ne 6, 3) := by decide +kernel
theorem dX7_back_10 : decode cX7_back 10 = .ok (.bipush (-2), 2) := by decide +kernel
theorem dX7_back_12 : decode cX7_back 12 = .ok (.ireturn, 1) := by decide +kernel
theorem dX7_back_13 : decode cX7_back 13 = .ok (.aload_n 0, 1) := by decide +kernel
theorem dX7_back_14 : decode cX7_back 14 = .ok (.getfield 67, 3) := by decide +kernel
theorem dX7_back_17 : decode cX7_back 17 = .ok (.aload_n 0, 1) := by decide +kernel
theorem dX7_back_18 : decode cX7_back 18 = .ok (.getfield 38, 3) := by decide +kernel
theorem dX7_back_21 : decode cX7_back 21 = .ok (.invokevirtual 179, 3) := by decide +kernel
theorem dX7_back_24 : decode cX7_back 24 = .ok (.aload_n 0, 1) := by decide +kernel
theorem dX7_back_25 : decode cX7_back 25 = .ok (.getfield 63, 3) := by decide +kernel
theorem dX7_back_28 : decode cX7_back 28 = .ok (.invokevirtual 247, 3) := by decide +kernel
theorem dX7_back_31 : decode cX7_back 31 = .ok (.aload_n 0, 1) := by decide +kernel
theorem dX7_back_32 : decode cX7_back 32 = .ok (.getfield 67, 3) := by decide +kernel
theorem dX7_back_35 : decode cX7_back 35 = .ok (.getfield 176, 3) := by decide +kernel
theorem dX7_back_38 : decode cX7_back 38 = .ok (.ireturn, 1) := by decide +kernel
theorem dX7_count_0 : decode cX7_count 0 = .ok (.iload_n 1, 1) := by decide +kernel
theorem dX7_count_1 : decode cX7_count 1 = .ok (.tableswitch 123 0 8 #[51, 59, 67, 75, 83, 91, 99, 107, 115], 51) := by decide +kernel
theorem dX7_count_52 : decode cX7_count 52 = .ok (.aload_n 0, 1) := by decide +kernel
theorem dX7_count_53 : decode cX7_count 53 = .ok (.getfield 32, 3) := by decide +kernel
theorem dX7_count_56 : decode cX7_count 56 = .ok (.getfield 198, 3) := by decide +kernel
theorem dX7_count_59 : decode cX7_count 59 = .ok (.ireturn, 1) := by decide +kernel
theorem dX7_count_60 : decode cX7_count 60 = .ok (.aload_n 0, 1) := by decide +kernel
theorem dX7_count_61 : decode cX7_count 61 = .ok (.getfield 32, 3) := by decide +kernel
theorem dX7_count_64 : decode cX7_count 64 = .ok (.getfield 106, 3) := by decide +kernel
theorem dX7_count_67 : decode cX7_count 67 = .ok (.ireturn, 1) := by decide +kernel
theorem dX7_count_68 : decode cX7_count 68 = .ok (.aload_n 0, 1) := by decide +kernel
theorem dX7_count_69 : decode cX7_count 69 = .ok (.getfield 32, 3) := by decide +kernel
theorem dX7_count_72 : decode cX7_count 72 = .ok (.getfield 213, 3) := by decide +kernel
theorem dX7_count_75 : decode cX7_count 75 = .ok (.ireturn, 1) := by decide +kernel
theorem dX7_count_76 : decode cX7_count 76 = .ok (.aload_n 0, 1) := by decide +kernel
theorem dX7_count_77 : decode cX7_count 77 = .ok (.getfield 38, 3) := by decide +kernel
theorem dX7_count_80 : decode cX7_count 80 = .ok (.getfield 173, 3) := by decide +kernel
theorem dX7_count_83 : decode cX7_count 83 = .ok (.ireturn, 1) := by decide +kernel
theorem dX7_count_84 : decode cX7_count 84 = .ok (.aload_n 0, 1) := by decide +kernel
theorem dX7_count_85 : decode cX7_count 85 = .ok (.getfield 32, 3) := by decide +kernel
theorem dX7_count_88 : decode cX7_count 88 = .ok (.getfield 229, 3) := by decide +kernel
theorem dX7_count_91 : decode cX7_count 91 = .ok (.ireturn, 1) := by decide +kernel
theorem dX7_count_92 : decode cX7_count 92 = .ok (.aload_n 0, 1) := by decide +kernel
theorem dX7_count_93 : decode cX7_count 93 = .ok (.getfield 54, 3) := by decide +kernel
theorem dX7_count_96 : decode cX7_count 96 = .ok (.getfield 201, 3) := by decide +kernel
theorem dX7_count_99 : decode cX7_count 99 = .ok (.ireturn, 1) := by decide +kernel
theorem dX7_count_100 : decode cX7_count 100 = .ok (.aload_n 0, 1) := by decide +kernel
theorem dX7_count_101 : decode cX7_count 101 = .ok (.getfield 63, 3) := by decide +kernel
theorem dX7_count_104 : decode cX7_count 104 = .ok (.getfield 176, 3) := by decide +kernel
theorem dX7_count_107 : decode cX7_count 107 = .ok (.ireturn, 1) := by decide +kernel
theorem dX7_count_108 : decode cX7_count 108 = .ok (.aload_n 0, 1) := by decide +kernel
theorem dX7_count_109 : decode cX7_count 109 = .ok (.getfield 67, 3) := by decide +kernel
theorem dX7_count_112 : decode cX7_count 112 = .ok (.getfield 176, 3) := by decide +kernel
theorem dX7_count_115 : decode cX7_count 115 = .ok (.ireturn, 1) := by decide +kernel
theorem dX7_count_116 : decode cX7_count 116 = .ok (.aload_n 0, 1) := by decide +kernel
theorem dX7_count_117 : decode cX7_count 117 = .ok (.getfield 10, 3) := by decide +kernel
theorem dX7_count_120 : decode cX7_count 120 = .ok (.getfield 99, 3) := by decide +kernel
theorem dX7_count_123 : decode cX7_count 123 = .ok (.ireturn, 1) := by decide +kernel
theorem dX7_count_124 : decode cX7_count 124 = .ok (.iconst (-1), 1) := by decide +kernel
theorem dX7_count_125 : decode cX7_count 125 = .ok (.ireturn, 1) := by decide +kernel
theorem gX7_layDraft_X1_copyFrom : GoodIn wsX7_layDraft (wsV RX7 248 RX1 yX1_copyFrom wsX1_copyFrom) := gwV aw_225 aw_226 aw_227 aw_15 aw_228
theorem gX7_layDraft_X5_begin : GoodIn wsX7_layDraft (wsV RX7 252 RX5 yX5_begin wsX5_begin) := gwV aw_233 aw_234 aw_235 aw_24 aw_236
theorem gX7_layDraft_X6_knowersByCall : GoodIn wsX7_layDraft (wsV RX7 154 RX6 yX6_knowersByCall wsX6_knowersByCall) := gwV aw_244 aw_245 aw_246 aw_28 aw_247
theorem gX7_layDraft_X4_clear : GoodIn wsX7_layDraft (wsV RX7 206 RX4 yX4_clear wsX4_clear) := gwV aw_273 aw_274 aw_275 aw_32 aw_276
theorem gX7_layDraft_X3_clear : GoodIn wsX7_layDraft (wsV RX7 247 RX3 yX3_clear wsX3_clear) := gwV aw_277 aw_278 aw_279 aw_36 aw_280
theorem dX7_layDraft_0 : decode cX7_layDraft 0 = .ok (.aload_n 0, 1) := by decide +kernel
theorem dX7_layDraft_1 : decode cX7_layDraft 1 = .ok (.getfield 32, 3) := by decide +kernel
theorem dX7_layDraft_4 : decode cX7_layDraft 4 = .ok (.aload_n 0, 1) := by decide +kernel
theorem dX7_layDraft_5 : decode cX7_layDraft 5 = .ok (.getfield 19, 3) := by decide +kernel
theorem dX7_layDraft_8 : decode cX7_layDraft 8 = .ok (.invokevirtual 248, 3) := by decide +kernel
theorem dX7_layDraft_11 : decode cX7_layDraft 11 = .ok (.aload_n 0, 1) := by decide +kernel
theorem dX7_layDraft_12 : decode cX7_layDraft 12 = .ok (.getfield 38, 3) := by decide +kernel
theorem dX7_layDraft_15 : decode cX7_layDraft 15 = .ok (.aload_n 0, 1) := by decide +kernel
theorem dX7_layDraft_16 : decode cX7_layDraft 16 = .ok (.getfield 32, 3) := by decide +kernel
theorem dX7_layDraft_19 : decode cX7_layDraft 19 = .ok (.invokevirtual 252, 3) := by decide +kernel
theorem dX7_layDraft_22 : decode cX7_layDraft 22 = .ok (.iconst 0, 1) := by decide +kernel
theorem dX7_layDraft_23 : decode cX7_layDraft 23 = .ok (.istore_n 1, 1) := by decide +kernel
theorem dX7_layDraft_24 : decode cX7_layDraft 24 = .ok (.iload_n 1, 1) := by decide +kernel
theorem dX7_layDraft_25 : decode cX7_layDraft 25 = .ok (.aload_n 0, 1) := by decide +kernel
theorem dX7_layDraft_26 : decode cX7_layDraft 26 = .ok (.getfield 32, 3) := by decide +kernel
theorem dX7_layDraft_29 : decode cX7_layDraft 29 = .ok (.getfield 106, 3) := by decide +kernel
theorem dX7_layDraft_32 : decode cX7_layDraft 32 = .ok (.if_icmp .ge 34, 3) := by decide +kernel
theorem dX7_layDraft_35 : decode cX7_layDraft 35 = .ok (.aload_n 0, 1) := by decide +kernel
theorem dX7_layDraft_36 : decode cX7_layDraft 36 = .ok (.getfield 38, 3) := by decide +kernel
theorem dX7_layDraft_39 : decode cX7_layDraft 39 = .ok (.getfield 144, 3) := by decide +kernel
theorem dX7_layDraft_42 : decode cX7_layDraft 42 = .ok (.iload_n 1, 1) := by decide +kernel
theorem dX7_layDraft_43 : decode cX7_layDraft 43 = .ok (.aload_n 0, 1) := by decide +kernel
theorem dX7_layDraft_44 : decode cX7_layDraft 44 = .ok (.getfield 47, 3) := by decide +kernel
theorem dX7_layDraft_47 : decode cX7_layDraft 47 = .ok (.aload_n 0, 1) := by decide +kernel
theorem dX7_layDraft_48 : decode cX7_layDraft 48 = .ok (.getfield 32, 3) := by decide +kernel
theorem dX7_layDraft_51 : decode cX7_layDraft 51 = .ok (.getfield 255, 3) := by decide +kernel
theorem dX7_layDraft_54 : decode cX7_layDraft 54 = .ok (.iload_n 1, 1) := by decide +kernel
theorem dX7_layDraft_55 : decode cX7_layDraft 55 = .ok (.iaload, 1) := by decide +kernel
theorem dX7_layDraft_56 : decode cX7_layDraft 56 = .ok (.invokevirtual 154, 3) := by decide +kernel
theorem dX7_layDraft_59 : decode cX7_layDraft 59 = .ok (.iastore, 1) := by decide +kernel
theorem dX7_layDraft_60 : decode cX7_layDraft 60 = .ok (.iinc 1 1, 3) := by decide +kernel
theorem dX7_layDraft_63 : decode cX7_layDraft 63 = .ok (.goto (-39), 3) := by decide +kernel
theorem dX7_layDraft_66 : decode cX7_layDraft 66 = .ok (.aload_n 0, 1) := by decide +kernel
theorem dX7_layDraft_67 : decode cX7_layDraft 67 = .ok (.getfield 54, 3) := by decide +kernel
theorem dX7_layDraft_70 : decode cX7_layDraft 70 = .ok (.invokevirtual 206, 3) := by decide +kernel
theorem dX7_layDraft_73 : decode cX7_layDraft 73 = .ok (.aload_n 0, 1) := by decide +kernel
theorem dX7_layDraft_74 : decode cX7_layDraft 74 = .ok (.getfield 63, 3) := by decide +kernel
theorem dX7_layDraft_77 : decode cX7_layDraft 77 = .ok (.invokevirtual 247, 3) := by decide +kernel
theorem dX7_layDraft_80 : decode cX7_layDraft 80 = .ok (.aload_n 0, 1) := by decide +kernel
theorem dX7_layDraft_81 : decode cX7_layDraft 81 = .ok (.getfield 67, 3) := by decide +kernel
theorem dX7_layDraft_84 : decode cX7_layDraft 84 = .ok (.invokevirtual 247, 3) := by decide +kernel
theorem dX7_layDraft_87 : decode cX7_layDraft 87 = .ok (.return_, 1) := by decide +kernel
theorem dX7_isPerson_0 : decode cX7_isPerson 0 = .ok (.iload_n 1, 1) := by decide +kernel
theorem dX7_isPerson_1 : decode cX7_isPerson 1 = .ok (.ifCond .lt 18, 3) := by decide +kernel
theorem dX7_isPerson_4 : decode cX7_isPerson 4 = .ok (.iload_n 1, 1) := by decide +kernel
theorem dX7_isPerson_5 : decode cX7_isPerson 5 = .ok (.aload_n 0, 1) := by decide +kernel
theorem dX7_isPerson_6 : decode cX7_isPerson 6 = .ok (.getfield 32, 3) := by decide +kernel
theorem dX7_isPerson_9 : decode cX7_isPerson 9 = .ok (.getfield 198, 3) := by decide +kernel
theorem dX7_isPerson_12 : decode cX7_isPerson 12 = .ok (.if_icmp .ge 7, 3) := by decide +kernel
theorem dX7_isPerson_15 : decode cX7_isPerson 15 = .ok (.iconst 1, 1) := by decide +kernel
theorem dX7_isPerson_16 : decode cX7_isPerson 16 = .ok (.goto 4, 3) := by decide +kernel
theorem dX7_isPerson_19 : decode cX7_isPerson 19 = .ok (.iconst 0, 1) := by decide +kernel
theorem dX7_isPerson_20 : decode cX7_isPerson 20 = .ok (.ireturn, 1) := by decide +kernel
theorem dX7_isDoor_0 : decode cX7_isDoor 0 = .ok (.iload_n 1, 1) := by decide +kernel
theorem dX7_isDoor_1 : decode cX7_isDoor 1 = .ok (.ifCond .lt 18, 3) := by decide +kernel
theorem dX7_isDoor_4 : decode cX7_isDoor 4 = .ok (.iload_n 1, 1) := by decide +kernel
theorem dX7_isDoor_5 : decode cX7_isDoor 5 = .ok (.aload_n 0, 1) := by decide +kernel
theorem dX7_isDoor_6 : decode cX7_isDoor 6 = .ok (.getfield 32, 3) := by decide +kernel
theorem dX7_isDoor_9 : decode cX7_isDoor 9 = .ok (.getfield 106, 3) := by decide +kernel
theorem dX7_isDoor_12 : decode cX7_isDoor 12 = .ok (.if_icmp .ge 7, 3) := by decide +kernel
theorem dX7_isDoor_15 : decode cX7_isDoor 15 = .ok (.iconst 1, 1) := by decide +kernel
theorem dX7_isDoor_16 : decode cX7_isDoor 16 = .ok (.goto 4, 3) := by decide +kernel
theorem dX7_isDoor_19 : decode cX7_isDoor 19 = .ok (.iconst 0, 1) := by decide +kernel
theorem dX7_isDoor_20 : decode cX7_isDoor 20 = .ok (.ireturn, 1) := by decide +kernel
theorem dX7_isPart_0 : decode cX7_isPart 0 = .ok (.iload_n 0, 1) := by decide +kernel
theorem dX7_isPart_1 : decode cX7_isPart 1 = .ok (.ifCond .eq 8, 3) := by decide +kernel
theorem dX7_isPart_4 : decode cX7_isPart 4 = .ok (.iload_n 0, 1) := by decide +kernel
theorem dX7_isPart_5 : decode cX7_isPart 5 = .ok (.iconst 1, 1) := by decide +kernel
theorem dX7_isPart_6 : decode cX7_isPart 6 = .ok (.if_icmp .ne 7, 3) := by decide +kernel
theorem dX7_isPart_9 : decode cX7_isPart 9 = .ok (.iconst 1, 1) := by decide +kernel
theorem dX7_isPart_10 : decode cX7_isPart 10 = .ok (.goto 4, 3) := by decide +kernel
theorem dX7_isPart_13 : decode cX7_isPart 13 = .ok (.iconst 0, 1) := by decide +kernel
theorem dX7_isPart_14 : decode cX7_isPart 14 = .ok (.ireturn, 1) := by decide +kernel
theorem gX7_isBarred_X7_pair : GoodIn wsX7_isBarred (va_wsS RX7 131 yX7_pair wsX7_pair) := gwS aw_465 aw_190 aw_1 aw_191
theorem dX7_isBarred_0 : decode cX7_isBarred 0 = .ok (.aload_n 0, 1) := by decide +kernel
theorem dX7_isBarred_1 : decode cX7_isBarred 1 = .ok (.getfield 38, 3) := by decide +kernel
theorem dX7_isBarred_4 : decode cX7_isBarred 4 = .ok (.getfield 164, 3) := by decide +kernel
theorem dX7_isBarred_7 : decode cX7_isBarred 7 = .ok (.iload_n 2, 1) := by decide +kernel
theorem dX7_isBarred_8 : decode cX7_isBarred 8 = .ok (.iload_n 1, 1) := by decide +kernel
theorem dX7_isBarred_9 : decode cX7_isBarred 9 = .ok (.invokestatic 131, 3) := by decide +kernel
theorem dX7_isBarred_12 : decode cX7_isBarred 12 = .ok (.iaload, 1) := by decide +kernel
theorem dX7_isBarred_13 : decode cX7_isBarred 13 = .ok (.aload_n 0, 1) := by decide +kernel
theorem dX7_isBarred_14 : decode cX7_isBarred 14 = .ok (.getfield 32, 3) := by decide +kernel
theorem dX7_isBarred_17 : decode cX7_isBarred 17 = .ok (.getfield 229, 3) := by decide +kernel
theorem dX7_isBarred_20 : decode cX7_isBarred 20 = .ok (.if_icmp .lt 7, 3) := by decide +kernel
theorem dX7_isBarred_23 : decode cX7_isBarred 23 = .ok (.iconst 1, 1) := by decide +kernel
theorem dX7_isBarred_24 : decode cX7_isBarred 24 = .ok (.goto 4, 3) := by decide +kernel
theorem dX7_isBarred_27 : decode cX7_isBarred 27 = .ok (.iconst 0, 1) := by decide +kernel
theorem dX7_isBarred_28 : decode cX7_isBarred 28 = .ok (.ireturn, 1) := by decide +kernel
theorem gX7_barredAt_X7_isBarred : GoodIn wsX7_barredAt (wsV RX7 157 RX7 yX7_isBarred wsX7_isBarred) := gwV aw_482 aw_483 aw_484 aw_1 aw_485
theorem dX7_barredAt_0 : decode cX7_barredAt 0 = .ok (.iconst 0, 1) := by decide +kernel
theorem dX7_barredAt_1 : decode cX7_barredAt 1 = .ok (.istore_n 2, 1) := by decide +kernel
theorem dX7_barredAt_2 : decode cX7_barredAt 2 = .ok (.iconst 0, 1) := by decide +kernel
theorem dX7_barredAt_3 : decode cX7_barredAt 3 = .ok (.istore_n 3, 1) := by decide +kernel
theorem dX7_barredAt_4 : decode cX7_barredAt 4 = .ok (.iload_n 3, 1) := by decide +kernel
theorem dX7_barredAt_5 : decode cX7_barredAt 5 = .ok (.aload_n 0, 1) := by decide +kernel
theorem dX7_barredAt_6 : decode cX7_barredAt 6 = .ok (.getfield 32, 3) := by decide +kernel
theorem dX7_barredAt_9 : decode cX7_barredAt 9 = .ok (.getfield 198, 3) := by decide +kernel
theorem dX7_barredAt_12 : decode cX7_barredAt 12 = .ok (.if_icmp .ge 24, 3) := by decide +kernel
theorem dX7_barredAt_15 : decode cX7_barredAt 15 = .ok (.aload_n 0, 1) := by decide +kernel
theorem dX7_barredAt_16 : decode cX7_barredAt 16 = .ok (.iload_n 3, 1) := by decide +kernel
theorem dX7_barredAt_17 : decode cX7_barredAt 17 = .ok (.iload_n 1, 1) := by decide +kernel
theorem dX7_barredAt_18 : decode cX7_barredAt 18 = .ok (.invokevirtual 157, 3) := by decide +kernel
theorem dX7_barredAt_21 : decode cX7_barredAt 21 = .ok (.ifCond .eq 9, 3) := by decide +kernel
theorem dX7_barredAt_24 : decode cX7_barredAt 24 = .ok (.iload_n 2, 1) := by decide +kernel
theorem dX7_barredAt_25 : decode cX7_barredAt 25 = .ok (.iconst 1, 1) := by decide +kernel
theorem dX7_barredAt_26 : decode cX7_barredAt 26 = .ok (.iload_n 3, 1) := by decide +kernel
theorem dX7_barredAt_27 : decode cX7_barredAt 27 = .ok (.ishl, 1) := by decide +kernel
theorem dX7_barredAt_28 : decode cX7_barredAt 28 = .ok (.ior, 1) := by decide +kernel
theorem dX7_barredAt_29 : decode cX7_barredAt 29 = .ok (.istore_n 2, 1) := by decide +kernel
theorem dX7_barredAt_30 : decode cX7_barredAt 30 = .ok (.iinc 3 1, 3) := by decide +kernel
theorem dX7_barredAt_33 : decode cX7_barredAt 33 = .ok (.goto (-29), 3) := by decide +kernel
theorem dX7_barredAt_36 : decode cX7_barredAt 36 = .ok (.iload_n 2, 1) := by decide +kernel
theorem dX7_barredAt_37 : decode cX7_barredAt 37 = .ok (.ireturn, 1) := by decide +kernel
theorem gX7_shutOutBy_X7_has : GoodIn wsX7_shutOutBy (va_wsS RX7 161 yX7_has wsX7_has) := gwS aw_524 aw_267 aw_1 aw_268
theorem dX7_shutOutBy_0 : decode cX7_shutOutBy 0 = .ok (.iconst 0, 1) := by decide +kernel
theorem dX7_shutOutBy_1 : decode cX7_shutOutBy 1 = .ok (.istore_n 2, 1) := by decide +kernel
theorem dX7_shutOutBy_2 : decode cX7_shutOutBy 2 = .ok (.iconst 0, 1) := by decide +kernel
theorem dX7_shutOutBy_3 : decode cX7_shutOutBy 3 = .ok (.istore_n 3, 1) := by decide +kernel
theorem dX7_shutOutBy_4 : decode cX7_shutOutBy 4 = .ok (.iload_n 3, 1) := by decide +kernel
theorem dX7_shutOutBy_5 : decode cX7_shutOutBy 5 = .ok (.aload_n 0, 1) := by decide +kernel
theorem dX7_shutOutBy_6 : decode cX7_shutOutBy 6 = .ok (.getfield 32, 3) := by decide +kernel
theorem dX7_shutOutBy_9 : decode cX7_shutOutBy 9 = .ok (.getfield 106, 3) := by decide +kernel
theorem dX7_shutOutBy_12 : decode cX7_shutOutBy 12 = .ok (.if_icmp .ge 39, 3) := by decide +kernel
theorem dX7_shutOutBy_15 : decode cX7_shutOutBy 15 = .ok (.iload_n 3, 1) := by decide +kernel
theorem dX7_shutOutBy_16 : decode cX7_shutOutBy 16 = .ok (.aload_n 1, 1) := by decide +kernel
theorem dX7_shutOutBy_17 : decode cX7_shutOutBy 17 = .ok (.arraylength, 1) := by decide +kernel
theorem dX7_shutOutBy_18 : decode cX7_shutOutBy 18 = .ok (.if_icmp .ge 33, 3) := by decide +kernel
theorem dX7_shutOutBy_21 : decode cX7_shutOutBy 21 = .ok (.aload_n 1, 1) := by decide +kernel
theorem dX7_shutOutBy_22 : decode cX7_shutOutBy 22 = .ok (.iload_n 3, 1) := by decide +kernel
theorem dX7_shutOutBy_23 : decode cX7_shutOutBy 23 = .ok (.iaload, 1) := by decide +kernel
theorem dX7_shutOutBy_24 : decode cX7_shutOutBy 24 = .ok (.aload_n 0, 1) := by decide +kernel
theorem dX7_shutOutBy_25 : decode cX7_shutOutBy 25 = .ok (.getfield 32, 3) := by decide +kernel
theorem dX7_shutOutBy_28 : decode cX7_shutOutBy 28 = .ok (.getfield 138, 3) := by decide +kernel
theorem dX7_shutOutBy_31 : decode cX7_shutOutBy 31 = .ok (.iload_n 3, 1) := by decide +kernel
theorem dX7_shutOutBy_32 : decode cX7_shutOutBy 32 = .ok (.iaload, 1) := by decide +kernel
theorem dX7_shutOutBy_33 : decode cX7_shutOutBy 33 = .ok (.invokestatic 161, 3) := by decide +kernel
theorem dX7_shutOutBy_36 : decode cX7_shutOutBy 36 = .ok (.ifCond .ne 9, 3) := by decide +kernel
theorem dX7_shutOutBy_39 : decode cX7_shutOutBy 39 = .ok (.iload_n 2, 1) := by decide +kernel
theorem dX7_shutOutBy_40 : decode cX7_shutOutBy 40 = .ok (.iconst 1, 1) := by decide +kernel
theorem dX7_shutOutBy_41 : decode cX7_shutOutBy 41 = .ok (.iload_n 3, 1) := by decide +kernel
theorem dX7_shutOutBy_42 : decode cX7_shutOutBy 42 = .ok (.ishl, 1) := by decide +kernel
theorem dX7_shutOutBy_43 : decode cX7_shutOutBy 43 = .ok (.ior, 1) := by decide +kernel
theorem dX7_shutOutBy_44 : decode cX7_shutOutBy 44 = .ok (.istore_n 2, 1) := by decide +kernel
theorem dX7_shutOutBy_45 : decode cX7_shutOutBy 45 = .ok (.iinc 3 1, 3) := by decide +kernel
theorem dX7_shutOutBy_48 : decode cX7_shutOutBy 48 = .ok (.goto (-44), 3) := by decide +kernel
theorem dX7_shutOutBy_51 : decode cX7_shutOutBy 51 = .ok (.iload_n 2, 1) := by decide +kernel
theorem dX7_shutOutBy_52 : decode cX7_shutOutBy 52 = .ok (.ireturn, 1) := by decide +kernel
theorem gX7_callersWhoReach_X6_knowersByCall : GoodIn wsX7_callersWhoReach (wsV RX7 154 RX6 yX6_knowersByCall wsX6_knowersByCall) := gwV aw_244 aw_245 aw_246 aw_28 aw_247
theorem gX7_callersWhoReach_X6_afterDays : GoodIn wsX7_callersWhoReach (wsV RX7 186 RX6 yX6_afterDays wsX6_afterDays) := gwV aw_586 aw_587 aw_588 aw_28 aw_589
theorem gX7_callersWhoReach_X7_has : GoodIn wsX7_callersWhoReach (va_wsS RX7 161 yX7_has wsX7_has) := gwS aw_524 aw_267 aw_1 aw_268
theorem dX7_callersWhoReach_0 : decode cX7_callersWhoReach 0 = .ok (.iconst 0, 1) := by decide +kernel
theorem dX7_callersWhoReach_1 : decode cX7_callersWhoReach 1 = .ok (.istore_n 3, 1) := by decide +kernel
theorem dX7_callersWhoReach_2 : decode cX7_callersWhoReach 2 = .ok (.iconst 0, 1) := by decide +kernel
theorem dX7_callersWhoReach_3 : decode cX7_callersWhoReach 3 = .ok (.istore 4, 2) := by decide +kernel
theorem dX7_callersWhoReach_5 : decode cX7_callersWhoReach 5 = .ok (.iload 4, 2) := by decide +kernel
theorem dX7_callersWhoReach_7 : decode cX7_callersWhoReach 7 = .ok (.aload_n 0, 1) := by decide +kernel
theorem dX7_callersWhoReach_8 : decode cX7_callersWhoReach 8 = .ok (.getfield 32, 3) := by decide +kernel
theorem dX7_callersWhoReach_11 : decode cX7_callersWhoReach 11 = .ok (.getfield 198, 3) := by decide +kernel
theorem dX7_callersWhoReach_14 : decode cX7_callersWhoReach 14 = .ok (.if_icmp .ge 40, 3) := by decide +kernel
theorem dX7_callersWhoReach_17 : decode cX7_callersWhoReach 17 = .ok (.aload_n 0, 1) := by decide +kernel
theorem dX7_callersWhoReach_18 : decode cX7_callersWhoReach 18 = .ok (.getfield 47, 3) := by decide +kernel
theorem dX7_callersWhoReach_21 : decode cX7_callersWhoReach 21 = .ok (.aload_n 0, 1) := by decide +kernel
theorem dX7_callersWhoReach_22 : decode cX7_callersWhoReach 22 = .ok (.getfield 47, 3) := by decide +kernel
theorem dX7_callersWhoReach_25 : decode cX7_callersWhoReach 25 = .ok (.iload 4, 2) := by decide +kernel
theorem dX7_callersWhoReach_27 : decode cX7_callersWhoReach 27 = .ok (.invokevirtual 154, 3) := by decide +kernel
theorem dX7_callersWhoReach_30 : decode cX7_callersWhoReach 30 = .ok (.iload_n 2, 1) := by decide +kernel
theorem dX7_callersWhoReach_31 : decode cX7_callersWhoReach 31 = .ok (.invokevirtual 186, 3) := by decide +kernel
theorem dX7_callersWhoReach_34 : decode cX7_callersWhoReach 34 = .ok (.iload_n 1, 1) := by decide +kernel
theorem dX7_callersWhoReach_35 : decode cX7_callersWhoReach 35 = .ok (.invokestatic 161, 3) := by decide +kernel
theorem dX7_callersWhoReach_38 : decode cX7_callersWhoReach 38 = .ok (.ifCond .eq 10, 3) := by decide +kernel
theorem dX7_callersWhoReach_41 : decode cX7_callersWhoReach 41 = .ok (.iload_n 3, 1) := by decide +kernel
theorem dX7_callersWhoReach_42 : decode cX7_callersWhoReach 42 = .ok (.iconst 1, 1) := by decide +kernel
theorem dX7_callersWhoReach_43 : decode cX7_callersWhoReach 43 = .ok (.iload 4, 2) := by decide +kernel
theorem dX7_callersWhoReach_45 : decode cX7_callersWhoReach 45 = .ok (.ishl, 1) := by decide +kernel
theorem dX7_callersWhoReach_46 : decode cX7_callersWhoReach 46 = .ok (.ior, 1) := by decide +kernel
theorem dX7_callersWhoReach_47 : decode cX7_callersWhoReach 47 = .ok (.istore_n 3, 1) := by decide +kernel
theorem dX7_callersWhoReach_48 : decode cX7_callersWhoReach 48 = .ok (.iinc 4 1, 3) := by decide +kernel
theorem dX7_callersWhoReach_51 : decode cX7_callersWhoReach 51 = .ok (.goto (-46), 3) := by decide +kernel
theorem dX7_callersWhoReach_54 : decode cX7_callersWhoReach 54 = .ok (.iload_n 3, 1) := by decide +kernel
theorem dX7_callersWhoReach_55 : decode cX7_callersWhoReach 55 = .ok (.ireturn, 1) := by decide +kernel
theorem gX7_knowersByVisitors_X7_remainder : GoodIn wsX7_knowersByVisitors (va_wsS RX7 256 yX7_remainder wsX7_remainder) := gwS aw_730 aw_731 aw_1 aw_732
theorem gX7_knowersByVisitors_X7_quotient : GoodIn wsX7_knowersByVisitors (va_wsS RX7 259 yX7_quotient wsX7_quotient) := gwS aw_704 aw_705 aw_1 aw_706
theorem gX7_knowersByVisitors_X7_has : GoodIn wsX7_knowersByVisitors (va_wsS RX7 161 yX7_has wsX7_has) := gwS aw_524 aw_267 aw_1 aw_268
theorem gX7_knowersByVisitors_X6_knowersByCall : GoodIn wsX7_knowersByVisitors (wsV RX7 154 RX6 yX6_knowersByCall wsX6_knowersByCall) := gwV aw_244 aw_245 aw_246 aw_28 aw_247
theorem gX7_knowersByVisitors_X6_afterDay : GoodIn wsX7_knowersByVisitors (wsV RX7 167 RX6 yX6_afterDay wsX6_afterDay) := gwV aw_532 aw_533 aw_534 aw_28 aw_535
theorem dX7_knowersByVisitors_0 : decode cX7_knowersByVisitors 0 = .ok (.aload_n 0, 1) := by decide +kernel
theorem dX7_knowersByVisitors_1 : decode cX7_knowersByVisitors 1 = .ok (.getfield 38, 3) := by decide +kernel
theorem dX7_knowersByVisitors_4 : decode cX7_knowersByVisitors 4 = .ok (.getfield 144, 3) := by decide +kernel
theorem dX7_knowersByVisitors_7 : decode cX7_knowersByVisitors 7 = .ok (.iload_n 1, 1) := by decide +kernel
theorem dX7_knowersByVisitors_8 : decode cX7_knowersByVisitors 8 = .ok (.iaload, 1) := by decide +kernel
theorem dX7_knowersByVisitors_9 : decode cX7_knowersByVisitors 9 = .ok (.istore 4, 2) := by decide +kernel
theorem dX7_knowersByVisitors_11 : decode cX7_knowersByVisitors 11 = .ok (.iload_n 3, 1) := by decide +kernel
theorem dX7_knowersByVisitors_12 : decode cX7_knowersByVisitors 12 = .ok (.istore 5, 2) := by decide +kernel
theorem dX7_knowersByVisitors_14 : decode cX7_knowersByVisitors 14 = .ok (.iconst 0, 1) := by decide +kernel
theorem dX7_knowersByVisitors_15 : decode cX7_knowersByVisitors 15 = .ok (.istore 6, 2) := by decide +kernel
theorem dX7_knowersByVisitors_17 : decode cX7_knowersByVisitors 17 = .ok (.iload 6, 2) := by decide +kernel
theorem dX7_knowersByVisitors_19 : decode cX7_knowersByVisitors 19 = .ok (.iload_n 2, 1) := by decide +kernel
theorem dX7_knowersByVisitors_20 : decode cX7_knowersByVisitors 20 = .ok (.if_icmp .ge 69, 3) := by decide +kernel
theorem dX7_knowersByVisitors_23 : decode cX7_knowersByVisitors 23 = .ok (.iload 5, 2) := by decide +kernel
theorem dX7_knowersByVisitors_25 : decode cX7_knowersByVisitors 25 = .ok (.aload_n 0, 1) := by decide +kernel
theorem dX7_knowersByVisitors_26 : decode cX7_knowersByVisitors 26 = .ok (.getfield 32, 3) := by decide +kernel
theorem dX7_knowersByVisitors_29 : decode cX7_knowersByVisitors 29 = .ok (.getfield 198, 3) := by decide +kernel
theorem dX7_knowersByVisitors_32 : decode cX7_knowersByVisitors 32 = .ok (.invokestatic 256, 3) := by decide +kernel
theorem dX7_knowersByVisitors_35 : decode cX7_knowersByVisitors 35 = .ok (.istore 7, 2) := by decide +kernel
theorem dX7_knowersByVisitors_37 : decode cX7_knowersByVisitors 37 = .ok (.iload 5, 2) := by decide +kernel
theorem dX7_knowersByVisitors_39 : decode cX7_knowersByVisitors 39 = .ok (.aload_n 0, 1) := by decide +kernel
theorem dX7_knowersByVisitors_40 : decode cX7_knowersByVisitors 40 = .ok (.getfield 32, 3) := by decide +kernel
theorem dX7_knowersByVisitors_43 : decode cX7_knowersByVisitors 43 = .ok (.getfield 198, 3) := by decide +kernel
theorem dX7_knowersByVisitors_46 : decode cX7_knowersByVisitors 46 = .ok (.invokestatic 259, 3) := by decide +kernel
theorem dX7_knowersByVisitors_49 : decode cX7_knowersByVisitors 49 = .ok (.istore 5, 2) := by decide +kernel
theorem dX7_knowersByVisitors_51 : decode cX7_knowersByVisitors 51 = .ok (.iload 4, 2) := by decide +kernel
theorem dX7_knowersByVisitors_53 : decode cX7_knowersByVisitors 53 = .ok (.iload 7, 2) := by decide +kernel
theorem dX7_knowersByVisitors_55 : decode cX7_knowersByVisitors 55 = .ok (.invokestatic 161, 3) := by decide +kernel
theorem dX7_knowersByVisitors_58 : decode cX7_knowersByVisitors 58 = .ok (.ifCond .eq 14, 3) := by decide +kernel
theorem dX7_knowersByVisitors_61 : decode cX7_knowersByVisitors 61 = .ok (.aload_n 0, 1) := by decide +kernel
theorem dX7_knowersByVisitors_62 : decode cX7_knowersByVisitors 62 = .ok (.getfield 47, 3) := by decide +kernel
theorem dX7_knowersByVisitors_65 : decode cX7_knowersByVisitors 65 = .ok (.iload 7, 2) := by decide +kernel
theorem dX7_knowersByVisitors_67 : decode cX7_knowersByVisitors 67 = .ok (.invokevirtual 154, 3) := by decide +kernel
theorem dX7_knowersByVisitors_70 : decode cX7_knowersByVisitors 70 = .ok (.istore 4, 2) := by decide +kernel
theorem dX7_knowersByVisitors_72 : decode cX7_knowersByVisitors 72 = .ok (.aload_n 0, 1) := by decide +kernel
theorem dX7_knowersByVisitors_73 : decode cX7_knowersByVisitors 73 = .ok (.getfield 47, 3) := by decide +kernel
theorem dX7_knowersByVisitors_76 : decode cX7_knowersByVisitors 76 = .ok (.iload 4, 2) := by decide +kernel
theorem dX7_knowersByVisitors_78 : decode cX7_knowersByVisitors 78 = .ok (.invokevirtual 167, 3) := by decide +kernel
theorem dX7_knowersByVisitors_81 : decode cX7_knowersByVisitors 81 = .ok (.istore 4, 2) := by decide +kernel
theorem dX7_knowersByVisitors_83 : decode cX7_knowersByVisitors 83 = .ok (.iinc 6 1, 3) := by decide +kernel
theorem dX7_knowersByVisitors_86 : decode cX7_knowersByVisitors 86 = .ok (.goto (-69), 3) := by decide +kernel
theorem dX7_knowersByVisitors_89 : decode cX7_knowersByVisitors 89 = .ok (.iload 4, 2) := by decide +kernel
theorem dX7_knowersByVisitors_91 : decode cX7_knowersByVisitors 91 = .ok (.ireturn, 1) := by decide +kernel
theorem gX7_goOnInStreet_X7_remainder : GoodIn wsX7_goOnInStreet (va_wsS RX7 256 yX7_remainder wsX7_remainder) := gwS aw_730 aw_731 aw_1 aw_732
theorem gX7_goOnInStreet_X7_isDoor : GoodIn wsX7_goOnInStreet (wsV RX7 135 RX7 yX7_isDoor wsX7_isDoor) := gwV aw_474 aw_475 aw_476 aw_1 aw_477
theorem gX7_goOnInStreet_X6_knowersByCall : GoodIn wsX7_goOnInStreet (wsV RX7 154 RX6 yX6_knowersByCall wsX6_knowersByCall) := gwV aw_244 aw_245 aw_246 aw_28 aw_247
theorem gX7_goOnInStreet_X6_afterDay : GoodIn wsX7_goOnInStreet (wsV RX7 167 RX6 yX6_afterDay wsX6_afterDay) := gwV aw_532 aw_533 aw_534 aw_28 aw_535
theorem dX7_goOnInStreet_0 : decode cX7_goOnInStreet 0 = .ok (.iload_n 1, 1) := by decide +kernel
theorem dX7_goOnInStreet_1 : decode cX7_goOnInStreet 1 = .ok (.bipush 64, 2) := by decide +kernel
theorem dX7_goOnInStreet_3 : decode cX7_goOnInStreet 3 = .ok (.idiv, 1) := by decide +kernel
theorem dX7_goOnInStreet_4 : decode cX7_goOnInStreet 4 = .ok (.iconst 3, 1) := by decide +kernel
theorem dX7_goOnInStreet_5 : decode cX7_goOnInStreet 5 = .ok (.irem, 1) := by decide +kernel
theorem dX7_goOnInStreet_6 : decode cX7_goOnInStreet 6 = .ok (.ifCond .eq 51, 3) := by decide +kernel
theorem dX7_goOnInStreet_9 : decode cX7_goOnInStreet 9 = .ok (.iload_n 1, 1) := by decide +kernel
theorem dX7_goOnInStreet_10 : decode cX7_goOnInStreet 10 = .ok (.bipush 8, 2) := by decide +kernel
theorem dX7_goOnInStreet_12 : decode cX7_goOnInStreet 12 = .ok (.idiv, 1) := by decide +kernel
theorem dX7_goOnInStreet_13 : decode cX7_goOnInStreet 13 = .ok (.aload_n 0, 1) := by decide +kernel
theorem dX7_goOnInStreet_14 : decode cX7_goOnInStreet 14 = .ok (.getfield 32, 3) := by decide +kernel
theorem dX7_goOnInStreet_17 : decode cX7_goOnInStreet 17 = .ok (.getfield 106, 3) := by decide +kernel
theorem dX7_goOnInStreet_20 : decode cX7_goOnInStreet 20 = .ok (.invokestatic 256, 3) := by decide +kernel
theorem dX7_goOnInStreet_23 : decode cX7_goOnInStreet 23 = .ok (.istore_n 2, 1) := by decide +kernel
theorem dX7_goOnInStreet_24 : decode cX7_goOnInStreet 24 = .ok (.aload_n 0, 1) := by decide +kernel
theorem dX7_goOnInStreet_25 : decode cX7_goOnInStreet 25 = .ok (.iload_n 2, 1) := by decide +kernel
theorem dX7_goOnInStreet_26 : decode cX7_goOnInStreet 26 = .ok (.invokevirtual 135, 3) := by decide +kernel
theorem dX7_goOnInStreet_29 : decode cX7_goOnInStreet 29 = .ok (.ifCond .eq 27, 3) := by decide +kernel
theorem dX7_goOnInStreet_32 : decode cX7_goOnInStreet 32 = .ok (.aload_n 0, 1) := by decide +kernel
theorem dX7_goOnInStreet_33 : decode cX7_goOnInStreet 33 = .ok (.getfield 70, 3) := by decide +kernel
theorem dX7_goOnInStreet_36 : decode cX7_goOnInStreet 36 = .ok (.iload_n 2, 1) := by decide +kernel
theorem dX7_goOnInStreet_37 : decode cX7_goOnInStreet 37 = .ok (.aload_n 0, 1) := by decide +kernel
theorem dX7_goOnInStreet_38 : decode cX7_goOnInStreet 38 = .ok (.getfield 47, 3) := by decide +kernel
theorem dX7_goOnInStreet_41 : decode cX7_goOnInStreet 41 = .ok (.iload_n 1, 1) := by decide +kernel
theorem dX7_goOnInStreet_42 : decode cX7_goOnInStreet 42 = .ok (.aload_n 0, 1) := by decide +kernel
theorem dX7_goOnInStreet_43 : decode cX7_goOnInStreet 43 = .ok (.getfield 32, 3) := by decide +kernel
theorem dX7_goOnInStreet_46 : decode cX7_goOnInStreet 46 = .ok (.getfield 198, 3) := by decide +kernel
theorem dX7_goOnInStreet_49 : decode cX7_goOnInStreet 49 = .ok (.invokestatic 256, 3) := by decide +kernel
theorem dX7_goOnInStreet_52 : decode cX7_goOnInStreet 52 = .ok (.invokevirtual 154, 3) := by decide +kernel
theorem dX7_goOnInStreet_55 : decode cX7_goOnInStreet 55 = .ok (.iastore, 1) := by decide +kernel
theorem dX7_goOnInStreet_56 : decode cX7_goOnInStreet 56 = .ok (.return_, 1) := by decide +kernel
theorem dX7_goOnInStreet_57 : decode cX7_goOnInStreet 57 = .ok (.iconst 0, 1) := by decide +kernel
theorem dX7_goOnInStreet_58 : decode cX7_goOnInStreet 58 = .ok (.istore_n 2, 1) := by decide +kernel
theorem dX7_goOnInStreet_59 : decode cX7_goOnInStreet 59 = .ok (.iload_n 2, 1) := by decide +kernel
theorem dX7_goOnInStreet_60 : decode cX7_goOnInStreet 60 = .ok (.aload_n 0, 1) := by decide +kernel
theorem dX7_goOnInStreet_61 : decode cX7_goOnInStreet 61 = .ok (.getfield 32, 3) := by decide +kernel
theorem dX7_goOnInStreet_64 : decode cX7_goOnInStreet 64 = .ok (.getfield 106, 3) := by decide +kernel
theorem dX7_goOnInStreet_67 : decode cX7_goOnInStreet 67 = .ok (.if_icmp .ge 28, 3) := by decide +kernel
theorem dX7_goOnInStreet_70 : decode cX7_goOnInStreet 70 = .ok (.aload_n 0, 1) := by decide +kernel
theorem dX7_goOnInStreet_71 : decode cX7_goOnInStreet 71 = .ok (.getfield 70, 3) := by decide +kernel
theorem dX7_goOnInStreet_74 : decode cX7_goOnInStreet 74 = .ok (.iload_n 2, 1) := by decide +kernel
theorem dX7_goOnInStreet_75 : decode cX7_goOnInStreet 75 = .ok (.aload_n 0, 1) := by decide +kernel
theorem dX7_goOnInStreet_76 : decode cX7_goOnInStreet 76 = .ok (.getfield 47, 3) := by decide +kernel
theorem dX7_goOnInStreet_79 : decode cX7_goOnInStreet 79 = .ok (.aload_n 0, 1) := by decide +kernel
theorem dX7_goOnInStreet_80 : decode cX7_goOnInStreet 80 = .ok (.getfield 70, 3) := by decide +kernel
theorem dX7_goOnInStreet_83 : decode cX7_goOnInStreet 83 = .ok (.iload_n 2, 1) := by decide +kernel
theorem dX7_goOnInStreet_84 : decode cX7_goOnInStreet 84 = .ok (.iaload, 1) := by decide +kernel
theorem dX7_goOnInStreet_85 : decode cX7_goOnInStreet 85 = .ok (.invokevirtual 167, 3) := by decide +kernel
theorem dX7_goOnInStreet_88 : decode cX7_goOnInStreet 88 = .ok (.iastore, 1) := by decide +kernel
theorem dX7_goOnInStreet_89 : decode cX7_goOnInStreet 89 = .ok (.iinc 2 1, 3) := by decide +kernel
theorem dX7_goOnInStreet_92 : decode cX7_goOnInStreet 92 = .ok (.goto (-33), 3) := by decide +kernel
theorem dX7_goOnInStreet_95 : decode cX7_goOnInStreet 95 = .ok (.return_, 1) := by decide +kernel
theorem dX7_drawOf_0 : decode cX7_drawOf 0 = .ok (.ldc2_w 262, 3) := by decide +kernel
theorem dX7_drawOf_3 : decode cX7_drawOf 3 = .ok (.iload_n 0, 1) := by decide +kernel
theorem dX7_drawOf_4 : decode cX7_drawOf 4 = .ok (.i2l, 1) := by decide +kernel
theorem dX7_drawOf_5 : decode cX7_drawOf 5 = .ok (.lmul, 1) := by decide +kernel
theorem dX7_drawOf_6 : decode cX7_drawOf 6 = .ok (.ldc2_w 264, 3) := by decide +kernel
theorem dX7_drawOf_9 : decode cX7_drawOf 9 = .ok (.iload_n 1, 1) := by decide +kernel
theorem dX7_drawOf_10 : decode cX7_drawOf 10 = .ok (.i2l, 1) := by decide +kernel
theorem dX7_drawOf_11 : decode cX7_drawOf 11 = .ok (.lmul, 1) := by decide +kernel
theorem dX7_drawOf_12 : decode cX7_drawOf 12 = .ok (.ladd, 1) := by decide +kernel
theorem dX7_drawOf_13 : decode cX7_drawOf 13 = .ok (.lconst 1, 1) := by decide +kernel
theorem dX7_drawOf_14 : decode cX7_drawOf 14 = .ok (.ladd, 1) := by decide +kernel
theorem dX7_drawOf_15 : decode cX7_drawOf 15 = .ok (.lstore_n 2, 1) := by decide +kernel
theorem dX7_drawOf_16 : decode cX7_drawOf 16 = .ok (.lload_n 2, 1) := by decide +kernel
theorem dX7_drawOf_17 : decode cX7_drawOf 17 = .ok (.lload_n 2, 1) := by decide +kernel
theorem dX7_drawOf_18 : decode cX7_drawOf 18 = .ok (.lmul, 1) := by decide +kernel
theorem dX7_drawOf_19 : decode cX7_drawOf 19 = .ok (.ldc2_w 266, 3) := by decide +kernel
theorem dX7_drawOf_22 : decode cX7_drawOf 22 = .ok (.lrem, 1) := by decide +kernel
theorem dX7_drawOf_23 : decode cX7_drawOf 23 = .ok (.ldc2_w 268, 3) := by decide +kernel
theorem dX7_drawOf_26 : decode cX7_drawOf 26 = .ok (.ldiv, 1) := by decide +kernel
theorem dX7_drawOf_27 : decode cX7_drawOf 27 = .ok (.l2i, 1) := by decide +kernel
theorem dX7_drawOf_28 : decode cX7_drawOf 28 = .ok (.ireturn, 1) := by decide +kernel
theorem gX7_inLowestTerms_X7_commonDivisor : GoodIn wsX7_inLowestTerms (va_wsS RX7 270 yX7_commonDivisor wsX7_commonDivisor) := gwS aw_701 aw_702 aw_1 aw_703
theorem gX7_inLowestTerms_X7_quotient : GoodIn wsX7_inLowestTerms (va_wsS RX7 259 yX7_quotient wsX7_quotient) := gwS aw_704 aw_705 aw_1 aw_706
theorem dX7_inLowestTerms_0 : decode cX7_inLowestTerms 0 = .ok (.iload_n 0, 1) := by decide +kernel
theorem dX7_inLowestTerms_1 : decode cX7_inLowestTerms 1 = .ok (.iload_n 1, 1) := by decide +kernel
theorem dX7_inLowestTerms_2 : decode cX7_inLowestTerms 2 = .ok (.invokestatic 270, 3) := by decide +kernel
theorem dX7_inLowestTerms_5 : decode cX7_inLowestTerms 5 = .ok (.istore_n 3, 1) := by decide +kernel
theorem dX7_inLowestTerms_6 : decode cX7_inLowestTerms 6 = .ok (.iload_n 2, 1) := by decide +kernel
theorem dX7_inLowestTerms_7 : decode cX7_inLowestTerms 7 = .ok (.ifCond .ne 7, 3) := by decide +kernel
theorem dX7_inLowestTerms_10 : decode cX7_inLowestTerms 10 = .ok (.iload_n 0, 1) := by decide +kernel
theorem dX7_inLowestTerms_11 : decode cX7_inLowestTerms 11 = .ok (.goto 4, 3) := by decide +kernel
theorem dX7_inLowestTerms_14 : decode cX7_inLowestTerms 14 = .ok (.iload_n 1, 1) := by decide +kernel
theorem dX7_inLowestTerms_15 : decode cX7_inLowestTerms 15 = .ok (.iload_n 3, 1) := by decide +kernel
theorem dX7_inLowestTerms_16 : decode cX7_inLowestTerms 16 = .ok (.invokestatic 259, 3) := by decide +kernel
theorem dX7_inLowestTerms_19 : decode cX7_inLowestTerms 19 = .ok (.ireturn, 1) := by decide +kernel
theorem dX7_commonDivisor_0 : decode cX7_commonDivisor 0 = .ok (.iload_n 0, 1) := by decide +kernel
theorem dX7_commonDivisor_1 : decode cX7_commonDivisor 1 = .ok (.istore_n 2, 1) := by decide +kernel
theorem dX7_commonDivisor_2 : decode cX7_commonDivisor 2 = .ok (.iload_n 1, 1) := by decide +kernel
theorem dX7_commonDivisor_3 : decode cX7_commonDivisor 3 = .ok (.istore_n 3, 1) := by decide +kernel
theorem dX7_commonDivisor_4 : decode cX7_commonDivisor 4 = .ok (.iconst 0, 1) := by decide +kernel
theorem dX7_commonDivisor_5 : decode cX7_commonDivisor 5 = .ok (.istore 4, 2) := by decide +kernel
theorem dX7_commonDivisor_7 : decode cX7_commonDivisor 7 = .ok (.iload 4, 2) := by decide +kernel
theorem dX7_commonDivisor_9 : decode cX7_commonDivisor 9 = .ok (.bipush 64, 2) := by decide +kernel
theorem dX7_commonDivisor_11 : decode cX7_commonDivisor 11 = .ok (.if_icmp .ge 23, 3) := by decide +kernel
theorem dX7_commonDivisor_14 : decode cX7_commonDivisor 14 = .ok (.iload_n 3, 1) := by decide +kernel
theorem dX7_commonDivisor_15 : decode cX7_commonDivisor 15 = .ok (.ifCond .eq 19, 3) := by decide +kernel
theorem dX7_commonDivisor_18 : decode cX7_commonDivisor 18 = .ok (.iload_n 2, 1) := by decide +kernel
theorem dX7_commonDivisor_19 : decode cX7_commonDivisor 19 = .ok (.iload_n 3, 1) := by decide +kernel
theorem dX7_commonDivisor_20 : decode cX7_commonDivisor 20 = .ok (.irem, 1) := by decide +kernel
theorem dX7_commonDivisor_21 : decode cX7_commonDivisor 21 = .ok (.istore 5, 2) := by decide +kernel
theorem dX7_commonDivisor_23 : decode cX7_commonDivisor 23 = .ok (.iload_n 3, 1) := by decide +kernel
theorem dX7_commonDivisor_24 : decode cX7_commonDivisor 24 = .ok (.istore_n 2, 1) := by decide +kernel
theorem dX7_commonDivisor_25 : decode cX7_commonDivisor 25 = .ok (.iload 5, 2) := by decide +kernel
theorem dX7_commonDivisor_27 : decode cX7_commonDivisor 27 = .ok (.istore_n 3, 1) := by decide +kernel
theorem dX7_commonDivisor_28 : decode cX7_commonDivisor 28 = .ok (.iinc 4 1, 3) := by decide +kernel
theorem dX7_commonDivisor_31 : decode cX7_commonDivisor 31 = .ok (.goto (-24), 3) := by decide +kernel
theorem dX7_commonDivisor_34 : decode cX7_commonDivisor 34 = .ok (.iload_n 2, 1) := by decide +kernel
theorem dX7_commonDivisor_35 : decode cX7_commonDivisor 35 = .ok (.ireturn, 1) := by decide +kernel
theorem dX7_quotient_0 : decode cX7_quotient 0 = .ok (.iload_n 1, 1) := by decide +kernel
theorem dX7_quotient_1 : decode cX7_quotient 1 = .ok (.ifCond .le 9, 3) := by decide +kernel
theorem dX7_quotient_4 : decode cX7_quotient 4 = .ok (.iload_n 0, 1) := by decide +kernel
theorem dX7_quotient_5 : decode cX7_quotient 5 = .ok (.iload_n 1, 1) := by decide +kernel
theorem dX7_quotient_6 : decode cX7_quotient 6 = .ok (.idiv, 1) := by decide +kernel
theorem dX7_quotient_7 : decode cX7_quotient 7 = .ok (.goto 4, 3) := by decide +kernel
theorem dX7_quotient_10 : decode cX7_quotient 10 = .ok (.iconst 0, 1) := by decide +kernel
theorem dX7_quotient_11 : decode cX7_quotient 11 = .ok (.ireturn, 1) := by decide +kernel
theorem dX7_remainder_0 : decode cX7_remainder 0 = .ok (.iload_n 1, 1) := by decide +kernel
theorem dX7_remainder_1 : decode cX7_remainder 1 = .ok (.ifCond .le 9, 3) := by decide +kernel
theorem dX7_remainder_4 : decode cX7_remainder 4 = .ok (.iload_n 0, 1) := by decide +kernel
theorem dX7_remainder_5 : decode cX7_remainder 5 = .ok (.iload_n 1, 1) := by decide +kernel
theorem dX7_remainder_6 : decode cX7_remainder 6 = .ok (.irem, 1) := by decide +kernel
theorem dX7_remainder_7 : decode cX7_remainder 7 = .ok (.goto 4, 3) := by decide +kernel
theorem dX7_remainder_10 : decode cX7_remainder 10 = .ok (.iconst 0, 1) := by decide +kernel
theorem dX7_remainder_11 : decode cX7_remainder 11 = .ok (.ireturn, 1) := by decide +kernel
theorem dX7_has_0 : decode cX7_has 0 = .ok (.iload_n 0, 1) := by decide +kernel
theorem dX7_has_1 : decode cX7_has 1 = .ok (.iload_n 1, 1) := by decide +kernel
theorem dX7_has_2 : decode cX7_has 2 = .ok (.ishr, 1) := by decide +kernel
theorem dX7_has_3 : decode cX7_has 3 = .ok (.iconst 1, 1) := by decide +kernel
theorem dX7_has_4 : decode cX7_has 4 = .ok (.iand, 1) := by decide +kernel
theorem dX7_has_5 : decode cX7_has 5 = .ok (.iconst 1, 1) := by decide +kernel
theorem dX7_has_6 : decode cX7_has 6 = .ok (.if_icmp .ne 7, 3) := by decide +kernel
theorem dX7_has_9 : decode cX7_has 9 = .ok (.iconst 1, 1) := by decide +kernel
theorem dX7_has_10 : decode cX7_has 10 = .ok (.goto 4, 3) := by decide +kernel
theorem dX7_has_13 : decode cX7_has 13 = .ok (.iconst 0, 1) := by decide +kernel
theorem dX7_has_14 : decode cX7_has 14 = .ok (.ireturn, 1) := by decide +kernel
theorem gX7_lowest_J6_numberOfTrailingZeros_0f7a4 : GoodIn wsX7_lowest (va_wsS RX7 273 yJ6_numberOfTrailingZeros_0f7a4 wsJ6_numberOfTrailingZeros_0f7a4) := gwS aw_631 aw_632 aw_442 aw_633
theorem dX7_lowest_0 : decode cX7_lowest 0 = .ok (.iload_n 0, 1) := by decide +kernel
theorem dX7_lowest_1 : decode cX7_lowest 1 = .ok (.ifCond .ne 8, 3) := by decide +kernel
theorem dX7_lowest_4 : decode cX7_lowest 4 = .ok (.bipush (-4), 2) := by decide +kernel
theorem dX7_lowest_6 : decode cX7_lowest 6 = .ok (.goto 7, 3) := by decide +kernel
theorem dX7_lowest_9 : decode cX7_lowest 9 = .ok (.iload_n 0, 1) := by decide +kernel
theorem dX7_lowest_10 : decode cX7_lowest 10 = .ok (.invokestatic 273, 3) := by decide +kernel
theorem dX7_lowest_13 : decode cX7_lowest 13 = .ok (.ireturn, 1) := by decide +kernel
theorem dX7_pair_0 : decode cX7_pair 0 = .ok (.iload_n 0, 1) := by decide +kernel
theorem dX7_pair_1 : decode cX7_pair 1 = .ok (.bipush 8, 2) := by decide +kernel
theorem dX7_pair_3 : decode cX7_pair 3 = .ok (.imul, 1) := by decide +kernel
theorem dX7_pair_4 : decode cX7_pair 4 = .ok (.iload_n 1, 1) := by decide +kernel
theorem dX7_pair_5 : decode cX7_pair 5 = .ok (.iadd, 1) := by decide +kernel
theorem dX7_pair_6 : decode cX7_pair 6 = .ok (.ireturn, 1) := by decide +kernel
