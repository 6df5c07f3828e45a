theorem dX12_init_0 : decode cX12_init 0 = .ok (.aload_n 0, 1) := by decide +kernel
theorem dX12_init_1 : decode cX12_init 1 = .ok (.invokespecial 1, 3) := by decide +kernel
theorem dX12_init_4 : decode cX12_init 4 = .ok (.aload_n 0, 1) := by decide +kernel
theorem dX12_init_5 : decode cX12_init 5 = .ok (.sipush 300, 3) := by decide +kernel
theorem dX12_init_8 : decode cX12_init 8 = .ok (.newarray .int, 2) := by decide +kernel
theorem dX12_init_10 : decode cX12_init 10 = .ok (.putfield 7, 3) := by decide +kernel
theorem dX12_init_13 : decode cX12_init 13 = .ok (.aload_n 0, 1) := by decide +kernel
theorem dX12_init_14 : decode cX12_init 14 = .ok (.sipush 300, 3) := by decide +kernel
theorem dX12_init_17 : decode cX12_init 17 = .ok (.newarray .int, 2) := by decide +kernel
theorem dX12_init_19 : decode cX12_init 19 = .ok (.putfield 13, 3) := by decide +kernel
theorem dX12_init_22 : decode cX12_init 22 = .ok (.aload_n 0, 1) := by decide +kernel
theorem dX12_init_23 : decode cX12_init 23 = .ok (.sipush 300, 3) := by decide +kernel
theorem dX12_init_26 : decode cX12_init 26 = .ok (.newarray .int, 2) := by decide +kernel
theorem dX12_init_28 : decode cX12_init 28 = .ok (.putfield 16, 3) := by decide +kernel
theorem dX12_init_31 : decode cX12_init 31 = .ok (.aload_n 0, 1) := by decide +kernel
theorem dX12_init_32 : decode cX12_init 32 = .ok (.sipush 300, 3) := by decide +kernel
theorem dX12_init_35 : decode cX12_init 35 = .ok (.newarray .int, 2) := by decide +kernel
theorem dX12_init_37 : decode cX12_init 37 = .ok (.putfield 19, 3) := by decide +kernel
theorem dX12_init_40 : decode cX12_init 40 = .ok (.aload_n 0, 1) := by decide +kernel
theorem dX12_init_41 : decode cX12_init 41 = .ok (.sipush 300, 3) := by decide +kernel
theorem dX12_init_44 : decode cX12_init 44 = .ok (.newarray .int, 2) := by decide +kernel
theorem dX12_init_46 : decode cX12_init 46 = .ok (.putfield 22, 3) := by decide +kernel
theorem dX12_init_49 : decode cX12_init 49 = .ok (.aload_n 0, 1) := by decide +kernel
theorem dX12_init_50 : decode cX12_init 50 = .ok (.bipush 6, 2) := by decide +kernel
theorem dX12_init_52 : decode cX12_init 52 = .ok (.newarray .int, 2) := by decide +kernel
theorem dX12_init_54 : decode cX12_init 54 = .ok (.putfield 25, 3) := by decide +kernel
theorem dX12_init_57 : decode cX12_init 57 = .ok (.aload_n 0, 1) := by decide +kernel
theorem dX12_init_58 : decode cX12_init 58 = .ok (.iconst 3, 1) := by decide +kernel
theorem dX12_init_59 : decode cX12_init 59 = .ok (.newarray .int, 2) := by decide +kernel
theorem dX12_init_61 : decode cX12_init 61 = .ok (.putfield 28, 3) := by decide +kernel
theorem dX12_init_64 : decode cX12_init 64 = .ok (.aload_n 0, 1) := by decide +kernel
theorem dX12_init_65 : decode cX12_init 65 = .ok (.bipush 40, 2) := by decide +kernel
theorem dX12_init_67 : decode cX12_init 67 = .ok (.newarray .int, 2) := by decide +kernel
theorem dX12_init_69 : decode cX12_init 69 = .ok (.putfield 31, 3) := by decide +kernel
theorem dX12_init_72 : decode cX12_init 72 = .ok (.aload_n 0, 1) := by decide +kernel
theorem dX12_init_73 : decode cX12_init 73 = .ok (.iconst 4, 1) := by decide +kernel
theorem dX12_init_74 : decode cX12_init 74 = .ok (.newarray .int, 2) := by decide +kernel
theorem dX12_init_76 : decode cX12_init 76 = .ok (.putfield 34, 3) := by decide +kernel
theorem dX12_init_79 : decode cX12_init 79 = .ok (.aload_n 0, 1) := by decide +kernel
theorem dX12_init_80 : decode cX12_init 80 = .ok (.iconst 4, 1) := by decide +kernel
theorem dX12_init_81 : decode cX12_init 81 = .ok (.newarray .int, 2) := by decide +kernel
theorem dX12_init_83 : decode cX12_init 83 = .ok (.putfield 37, 3) := by decide +kernel
theorem dX12_init_86 : decode cX12_init 86 = .ok (.aload_n 0, 1) := by decide +kernel
theorem dX12_init_87 : decode cX12_init 87 = .ok (.sipush 160, 3) := by decide +kernel
theorem dX12_init_90 : decode cX12_init 90 = .ok (.newarray .int, 2) := by decide +kernel
theorem dX12_init_92 : decode cX12_init 92 = .ok (.putfield 40, 3) := by decide +kernel
theorem dX12_init_95 : decode cX12_init 95 = .ok (.aload_n 0, 1) := by decide +kernel
theorem dX12_init_96 : decode cX12_init 96 = .ok (.bipush 40, 2) := by decide +kernel
theorem dX12_init_98 : decode cX12_init 98 = .ok (.newarray .int, 2) := by decide +kernel
theorem dX12_init_100 : decode cX12_init 100 = .ok (.putfield 43, 3) := by decide +kernel
theorem dX12_init_103 : decode cX12_init 103 = .ok (.aload_n 0, 1) := by decide +kernel
theorem dX12_init_104 : decode cX12_init 104 = .ok (.getfield 7, 3) := by decide +kernel
theorem dX12_init_107 : decode cX12_init 107 = .ok (.iconst 4, 1) := by decide +kernel
theorem dX12_init_108 : decode cX12_init 108 = .ok (.ldc 46, 2) := by decide +kernel
theorem dX12_init_110 : decode cX12_init 110 = .ok (.iastore, 1) := by decide +kernel
theorem dX12_init_111 : decode cX12_init 111 = .ok (.aload_n 0, 1) := by decide +kernel
theorem dX12_init_112 : decode cX12_init 112 = .ok (.getfield 7, 3) := by decide +kernel
theorem dX12_init_115 : decode cX12_init 115 = .ok (.iconst 5, 1) := by decide +kernel
theorem dX12_init_116 : decode cX12_init 116 = .ok (.bipush 10, 2) := by decide +kernel
theorem dX12_init_118 : decode cX12_init 118 = .ok (.iastore, 1) := by decide +kernel
theorem dX12_init_119 : decode cX12_init 119 = .ok (.aload_n 0, 1) := by decide +kernel
theorem dX12_init_120 : decode cX12_init 120 = .ok (.getfield 7, 3) := by decide +kernel
theorem dX12_init_123 : decode cX12_init 123 = .ok (.bipush 6, 2) := by decide +kernel
theorem dX12_init_125 : decode cX12_init 125 = .ok (.iconst 1, 1) := by decide +kernel
theorem dX12_init_126 : decode cX12_init 126 = .ok (.iastore, 1) := by decide +kernel
theorem dX12_init_127 : decode cX12_init 127 = .ok (.return_, 1) := by decide +kernel
theorem dX12_finds_0 : decode cX12_finds 0 = .ok (.aload_n 0, 1) := by decide +kernel
theorem dX12_finds_1 : decode cX12_finds 1 = .ok (.getfield 25, 3) := by decide +kernel
theorem dX12_finds_4 : decode cX12_finds 4 = .ok (.iload_n 1, 1) := by decide +kernel
theorem dX12_finds_5 : decode cX12_finds 5 = .ok (.dup2, 1) := by decide +kernel
theorem dX12_finds_6 : decode cX12_finds 6 = .ok (.iaload, 1) := by decide +kernel
theorem dX12_finds_7 : decode cX12_finds 7 = .ok (.iconst 1, 1) := by decide +kernel
theorem dX12_finds_8 : decode cX12_finds 8 = .ok (.iadd, 1) := by decide +kernel
theorem dX12_finds_9 : decode cX12_finds 9 = .ok (.iastore, 1) := by decide +kernel
theorem dX12_finds_10 : decode cX12_finds 10 = .ok (.ldc 47, 2) := by decide +kernel
theorem dX12_finds_12 : decode cX12_finds 12 = .ok (.iload_n 1, 1) := by decide +kernel
theorem dX12_finds_13 : decode cX12_finds 13 = .ok (.isub, 1) := by decide +kernel
theorem dX12_finds_14 : decode cX12_finds 14 = .ok (.ireturn, 1) := by decide +kernel
theorem dX12_in_0 : decode cX12_in 0 = .ok (.lload_n 0, 1) := by decide +kernel
theorem dX12_in_1 : decode cX12_in 1 = .ok (.lload_n 2, 1) := by decide +kernel
theorem dX12_in_2 : decode cX12_in 2 = .ok (.lcmp, 1) := by decide +kernel
theorem dX12_in_3 : decode cX12_in 3 = .ok (.ifCond .lt 14, 3) := by decide +kernel
theorem dX12_in_6 : decode cX12_in 6 = .ok (.lload_n 0, 1) := by decide +kernel
theorem dX12_in_7 : decode cX12_in 7 = .ok (.lload 4, 2) := by decide +kernel
theorem dX12_in_9 : decode cX12_in 9 = .ok (.lcmp, 1) := by decide +kernel
theorem dX12_in_10 : decode cX12_in 10 = .ok (.ifCond .gt 7, 3) := by decide +kernel
theorem dX12_in_13 : decode cX12_in 13 = .ok (.iconst 1, 1) := by decide +kernel
theorem dX12_in_14 : decode cX12_in 14 = .ok (.goto 4, 3) := by decide +kernel
theorem dX12_in_17 : decode cX12_in 17 = .ok (.iconst 0, 1) := by decide +kernel
theorem dX12_in_18 : decode cX12_in 18 = .ok (.ireturn, 1) := by decide +kernel
theorem dX12_held_0 : decode cX12_held 0 = .ok (.lload_n 0, 1) := by decide +kernel
theorem dX12_held_1 : decode cX12_held 1 = .ok (.iload_n 2, 1) := by decide +kernel
theorem dX12_held_2 : decode cX12_held 2 = .ok (.i2l, 1) := by decide +kernel
theorem dX12_held_3 : decode cX12_held 3 = .ok (.lcmp, 1) := by decide +kernel
theorem dX12_held_4 : decode cX12_held 4 = .ok (.ifCond .ge 8, 3) := by decide +kernel
theorem dX12_held_7 : decode cX12_held 7 = .ok (.iload_n 2, 1) := by decide +kernel
theorem dX12_held_8 : decode cX12_held 8 = .ok (.i2l, 1) := by decide +kernel
theorem dX12_held_9 : decode cX12_held 9 = .ok (.goto 16, 3) := by decide +kernel
theorem dX12_held_12 : decode cX12_held 12 = .ok (.lload_n 0, 1) := by decide +kernel
theorem dX12_held_13 : decode cX12_held 13 = .ok (.iload_n 3, 1) := by decide +kernel
theorem dX12_held_14 : decode cX12_held 14 = .ok (.i2l, 1) := by decide +kernel
theorem dX12_held_15 : decode cX12_held 15 = .ok (.lcmp, 1) := by decide +kernel
theorem dX12_held_16 : decode cX12_held 16 = .ok (.ifCond .le 8, 3) := by decide +kernel
theorem dX12_held_19 : decode cX12_held 19 = .ok (.iload_n 3, 1) := by decide +kernel
theorem dX12_held_20 : decode cX12_held 20 = .ok (.i2l, 1) := by decide +kernel
theorem dX12_held_21 : decode cX12_held 21 = .ok (.goto 4, 3) := by decide +kernel
theorem dX12_held_24 : decode cX12_held 24 = .ok (.lload_n 0, 1) := by decide +kernel
theorem dX12_held_25 : decode cX12_held 25 = .ok (.l2i, 1) := by decide +kernel
theorem dX12_held_26 : decode cX12_held 26 = .ok (.ireturn, 1) := by decide +kernel
theorem dX12_copies_0 : decode cX12_copies 0 = .ok (.iconst 0, 1) := by decide +kernel
theorem dX12_copies_1 : decode cX12_copies 1 = .ok (.istore_n 2, 1) := by decide +kernel
theorem dX12_copies_2 : decode cX12_copies 2 = .ok (.iload_n 2, 1) := by decide +kernel
theorem dX12_copies_3 : decode cX12_copies 3 = .ok (.sipush 300, 3) := by decide +kernel
theorem dX12_copies_6 : decode cX12_copies 6 = .ok (.if_icmp .ge 15, 3) := by decide +kernel
theorem dX12_copies_9 : decode cX12_copies 9 = .ok (.aload_n 1, 1) := by decide +kernel
theorem dX12_copies_10 : decode cX12_copies 10 = .ok (.iload_n 2, 1) := by decide +kernel
theorem dX12_copies_11 : decode cX12_copies 11 = .ok (.aload_n 0, 1) := by decide +kernel
theorem dX12_copies_12 : decode cX12_copies 12 = .ok (.iload_n 2, 1) := by decide +kernel
theorem dX12_copies_13 : decode cX12_copies 13 = .ok (.iaload, 1) := by decide +kernel
theorem dX12_copies_14 : decode cX12_copies 14 = .ok (.iastore, 1) := by decide +kernel
theorem dX12_copies_15 : decode cX12_copies 15 = .ok (.iinc 2 1, 3) := by decide +kernel
theorem dX12_copies_18 : decode cX12_copies 18 = .ok (.goto (-16), 3) := by decide +kernel
theorem dX12_copies_21 : decode cX12_copies 21 = .ok (.return_, 1) := by decide +kernel
theorem dX12_isRing_0 : decode cX12_isRing 0 = .ok (.iload_n 1, 1) := by decide +kernel
theorem dX12_isRing_1 : decode cX12_isRing 1 = .ok (.i2l, 1) := by decide +kernel
theorem dX12_isRing_2 : decode cX12_isRing 2 = .ok (.lconst 0, 1) := by decide +kernel
theorem dX12_isRing_3 : decode cX12_isRing 3 = .ok (.aload_n 0, 1) := by decide +kernel
theorem dX12_isRing_4 : decode cX12_isRing 4 = .ok (.getfield 7, 3) := by decide +kernel
theorem dX12_isRing_7 : decode cX12_isRing 7 = .ok (.iconst 1, 1) := by decide +kernel
theorem dX12_isRing_8 : decode cX12_isRing 8 = .ok (.iaload, 1) := by decide +kernel
theorem dX12_isRing_9 : decode cX12_isRing 9 = .ok (.iconst 1, 1) := by decide +kernel
theorem dX12_isRing_10 : decode cX12_isRing 10 = .ok (.isub, 1) := by decide +kernel
theorem dX12_isRing_11 : decode cX12_isRing 11 = .ok (.i2l, 1) := by decide +kernel
theorem dX12_isRing_12 : decode cX12_isRing 12 = .ok (.invokestatic 48, 3) := by decide +kernel
theorem dX12_isRing_15 : decode cX12_isRing 15 = .ok (.ireturn, 1) := by decide +kernel
theorem dX12_isLaw_0 : decode cX12_isLaw 0 = .ok (.iload_n 1, 1) := by decide +kernel
theorem dX12_isLaw_1 : decode cX12_isLaw 1 = .ok (.i2l, 1) := by decide +kernel
theorem dX12_isLaw_2 : decode cX12_isLaw 2 = .ok (.lconst 0, 1) := by decide +kernel
theorem dX12_isLaw_3 : decode cX12_isLaw 3 = .ok (.aload_n 0, 1) := by decide +kernel
theorem dX12_isLaw_4 : decode cX12_isLaw 4 = .ok (.getfield 7, 3) := by decide +kernel
theorem dX12_isLaw_7 : decode cX12_isLaw 7 = .ok (.iconst 2, 1) := by decide +kernel
theorem dX12_isLaw_8 : decode cX12_isLaw 8 = .ok (.iaload, 1) := by decide +kernel
theorem dX12_isLaw_9 : decode cX12_isLaw 9 = .ok (.iconst 1, 1) := by decide +kernel
theorem dX12_isLaw_10 : decode cX12_isLaw 10 = .ok (.isub, 1) := by decide +kernel
theorem dX12_isLaw_11 : decode cX12_isLaw 11 = .ok (.i2l, 1) := by decide +kernel
theorem dX12_isLaw_12 : decode cX12_isLaw 12 = .ok (.invokestatic 48, 3) := by decide +kernel
theorem dX12_isLaw_15 : decode cX12_isLaw 15 = .ok (.ireturn, 1) := by decide +kernel
theorem dX12_of_0 : decode cX12_of 0 = .ok (.aload_n 0, 1) := by decide +kernel
theorem dX12_of_1 : decode cX12_of 1 = .ok (.bipush 80, 2) := by decide +kernel
theorem dX12_of_3 : decode cX12_of 3 = .ok (.bipush 8, 2) := by decide +kernel
theorem dX12_of_5 : decode cX12_of 5 = .ok (.iload_n 1, 1) := by decide +kernel
theorem dX12_of_6 : decode cX12_of 6 = .ok (.imul, 1) := by decide +kernel
theorem dX12_of_7 : decode cX12_of 7 = .ok (.iadd, 1) := by decide +kernel
theorem dX12_of_8 : decode cX12_of 8 = .ok (.iload_n 2, 1) := by decide +kernel
theorem dX12_of_9 : decode cX12_of 9 = .ok (.iadd, 1) := by decide +kernel
theorem dX12_of_10 : decode cX12_of 10 = .ok (.iaload, 1) := by decide +kernel
theorem dX12_of_11 : decode cX12_of 11 = .ok (.ireturn, 1) := by decide +kernel
theorem dX12_isWhole_0 : decode cX12_isWhole 0 = .ok (.aload_n 0, 1) := by decide +kernel
theorem dX12_isWhole_1 : decode cX12_isWhole 1 = .ok (.bipush 80, 2) := by decide +kernel
theorem dX12_isWhole_3 : decode cX12_isWhole 3 = .ok (.bipush 8, 2) := by decide +kernel
theorem dX12_isWhole_5 : decode cX12_isWhole 5 = .ok (.iload_n 1, 1) := by decide +kernel
theorem dX12_isWhole_6 : decode cX12_isWhole 6 = .ok (.imul, 1) := by decide +kernel
theorem dX12_isWhole_7 : decode cX12_isWhole 7 = .ok (.iadd, 1) := by decide +kernel
theorem dX12_isWhole_8 : decode cX12_isWhole 8 = .ok (.bipush 6, 2) := by decide +kernel
theorem dX12_isWhole_10 : decode cX12_isWhole 10 = .ok (.iadd, 1) := by decide +kernel
theorem dX12_isWhole_11 : decode cX12_isWhole 11 = .ok (.iaload, 1) := by decide +kernel
theorem dX12_isWhole_12 : decode cX12_isWhole 12 = .ok (.iconst 1, 1) := by decide +kernel
theorem dX12_isWhole_13 : decode cX12_isWhole 13 = .ok (.if_icmp .ne 7, 3) := by decide +kernel
theorem dX12_isWhole_16 : decode cX12_isWhole 16 = .ok (.iconst 1, 1) := by decide +kernel
theorem dX12_isWhole_17 : decode cX12_isWhole 17 = .ok (.goto 4, 3) := by decide +kernel
theorem dX12_isWhole_20 : decode cX12_isWhole 20 = .ok (.iconst 0, 1) := by decide +kernel
theorem dX12_isWhole_21 : decode cX12_isWhole 21 = .ok (.ireturn, 1) := by decide +kernel
theorem dX12_adds_0 : decode cX12_adds 0 = .ok (.bipush 80, 2) := by decide +kernel
theorem dX12_adds_2 : decode cX12_adds 2 = .ok (.bipush 8, 2) := by decide +kernel
theorem dX12_adds_4 : decode cX12_adds 4 = .ok (.aload_n 0, 1) := by decide +kernel
theorem dX12_adds_5 : decode cX12_adds 5 = .ok (.iconst 1, 1) := by decide +kernel
theorem dX12_adds_6 : decode cX12_adds 6 = .ok (.iaload, 1) := by decide +kernel
theorem dX12_adds_7 : decode cX12_adds 7 = .ok (.imul, 1) := by decide +kernel
theorem dX12_adds_8 : decode cX12_adds 8 = .ok (.iadd, 1) := by decide +kernel
theorem dX12_adds_9 : decode cX12_adds 9 = .ok (.istore 7, 2) := by decide +kernel
theorem dX12_adds_11 : decode cX12_adds 11 = .ok (.aload_n 0, 1) := by decide +kernel
theorem dX12_adds_12 : decode cX12_adds 12 = .ok (.iload 7, 2) := by decide +kernel
theorem dX12_adds_14 : decode cX12_adds 14 = .ok (.iconst 0, 1) := by decide +kernel
theorem dX12_adds_15 : decode cX12_adds 15 = .ok (.iadd, 1) := by decide +kernel
theorem dX12_adds_16 : decode cX12_adds 16 = .ok (.iload_n 1, 1) := by decide +kernel
theorem dX12_adds_17 : decode cX12_adds 17 = .ok (.iastore, 1) := by decide +kernel
theorem dX12_adds_18 : decode cX12_adds 18 = .ok (.aload_n 0, 1) := by decide +kernel
theorem dX12_adds_19 : decode cX12_adds 19 = .ok (.iload 7, 2) := by decide +kernel
theorem dX12_adds_21 : decode cX12_adds 21 = .ok (.iconst 1, 1) := by decide +kernel
theorem dX12_adds_22 : decode cX12_adds 22 = .ok (.iadd, 1) := by decide +kernel
theorem dX12_adds_23 : decode cX12_adds 23 = .ok (.iload_n 2, 1) := by decide +kernel
theorem dX12_adds_24 : decode cX12_adds 24 = .ok (.iastore, 1) := by decide +kernel
theorem dX12_adds_25 : decode cX12_adds 25 = .ok (.aload_n 0, 1) := by decide +kernel
theorem dX12_adds_26 : decode cX12_adds 26 = .ok (.iload 7, 2) := by decide +kernel
theorem dX12_adds_28 : decode cX12_adds 28 = .ok (.iconst 2, 1) := by decide +kernel
theorem dX12_adds_29 : decode cX12_adds 29 = .ok (.iadd, 1) := by decide +kernel
theorem dX12_adds_30 : decode cX12_adds 30 = .ok (.iload_n 3, 1) := by decide +kernel
theorem dX12_adds_31 : decode cX12_adds 31 = .ok (.iastore, 1) := by decide +kernel
theorem dX12_adds_32 : decode cX12_adds 32 = .ok (.aload_n 0, 1) := by decide +kernel
theorem dX12_adds_33 : decode cX12_adds 33 = .ok (.iload 7, 2) := by decide +kernel
theorem dX12_adds_35 : decode cX12_adds 35 = .ok (.iconst 3, 1) := by decide +kernel
theorem dX12_adds_36 : decode cX12_adds 36 = .ok (.iadd, 1) := by decide +kernel
theorem dX12_adds_37 : decode cX12_adds 37 = .ok (.iload 4, 2) := by decide +kernel
theorem dX12_adds_39 : decode cX12_adds 39 = .ok (.iastore, 1) := by decide +kernel
theorem dX12_adds_40 : decode cX12_adds 40 = .ok (.aload_n 0, 1) := by decide +kernel
theorem dX12_adds_41 : decode cX12_adds 41 = .ok (.iload 7, 2) := by decide +kernel
theorem dX12_adds_43 : decode cX12_adds 43 = .ok (.iconst 4, 1) := by decide +kernel
theorem dX12_adds_44 : decode cX12_adds 44 = .ok (.iadd, 1) := by decide +kernel
theorem dX12_adds_45 : decode cX12_adds 45 = .ok (.iload 5, 2) := by decide +kernel
theorem dX12_adds_47 : decode cX12_adds 47 = .ok (.iastore, 1) := by decide +kernel
theorem dX12_adds_48 : decode cX12_adds 48 = .ok (.aload_n 0, 1) := by decide +kernel
theorem dX12_adds_49 : decode cX12_adds 49 = .ok (.iload 7, 2) := by decide +kernel
theorem dX12_adds_51 : decode cX12_adds 51 = .ok (.iconst 5, 1) := by decide +kernel
theorem dX12_adds_52 : decode cX12_adds 52 = .ok (.iadd, 1) := by decide +kernel
theorem dX12_adds_53 : decode cX12_adds 53 = .ok (.iload 6, 2) := by decide +kernel
theorem dX12_adds_55 : decode cX12_adds 55 = .ok (.iastore, 1) := by decide +kernel
theorem dX12_adds_56 : decode cX12_adds 56 = .ok (.aload_n 0, 1) := by decide +kernel
theorem dX12_adds_57 : decode cX12_adds 57 = .ok (.iload 7, 2) := by decide +kernel
theorem dX12_adds_59 : decode cX12_adds 59 = .ok (.bipush 6, 2) := by decide +kernel
theorem dX12_adds_61 : decode cX12_adds 61 = .ok (.iadd, 1) := by decide +kernel
theorem dX12_adds_62 : decode cX12_adds 62 = .ok (.iconst 1, 1) := by decide +kernel
theorem dX12_adds_63 : decode cX12_adds 63 = .ok (.iastore, 1) := by decide +kernel
theorem dX12_adds_64 : decode cX12_adds 64 = .ok (.aload_n 0, 1) := by decide +kernel
theorem dX12_adds_65 : decode cX12_adds 65 = .ok (.iconst 1, 1) := by decide +kernel
theorem dX12_adds_66 : decode cX12_adds 66 = .ok (.dup2, 1) := by decide +kernel
theorem dX12_adds_67 : decode cX12_adds 67 = .ok (.iaload, 1) := by decide +kernel
theorem dX12_adds_68 : decode cX12_adds 68 = .ok (.iconst 1, 1) := by decide +kernel
theorem dX12_adds_69 : decode cX12_adds 69 = .ok (.iadd, 1) := by decide +kernel
theorem dX12_adds_70 : decode cX12_adds 70 = .ok (.iastore, 1) := by decide +kernel
theorem dX12_adds_71 : decode cX12_adds 71 = .ok (.aload_n 0, 1) := by decide +kernel
theorem dX12_adds_72 : decode cX12_adds 72 = .ok (.iconst 1, 1) := by decide +kernel
theorem dX12_adds_73 : decode cX12_adds 73 = .ok (.iaload, 1) := by decide +kernel
theorem dX12_adds_74 : decode cX12_adds 74 = .ok (.iconst 1, 1) := by decide +kernel
theorem dX12_adds_75 : decode cX12_adds 75 = .ok (.isub, 1) := by decide +kernel
theorem dX12_adds_76 : decode cX12_adds 76 = .ok (.ireturn, 1) := by decide +kernel
theorem dX12_ring_0 : decode cX12_ring 0 = .ok (.iload_n 1, 1) := by decide +kernel
theorem dX12_ring_1 : decode cX12_ring 1 = .ok (.sipush 2000, 3) := by decide +kernel
theorem dX12_ring_4 : decode cX12_ring 4 = .ok (.idiv, 1) := by decide +kernel
theorem dX12_ring_5 : decode cX12_ring 5 = .ok (.ldc 52, 2) := by decide +kernel
theorem dX12_ring_7 : decode cX12_ring 7 = .ok (.isub, 1) := by decide +kernel
theorem dX12_ring_8 : decode cX12_ring 8 = .ok (.istore 5, 2) := by decide +kernel
theorem dX12_ring_10 : decode cX12_ring 10 = .ok (.iload_n 1, 1) := by decide +kernel
theorem dX12_ring_11 : decode cX12_ring 11 = .ok (.sipush 2000, 3) := by decide +kernel
theorem dX12_ring_14 : decode cX12_ring 14 = .ok (.irem, 1) := by decide +kernel
theorem dX12_ring_15 : decode cX12_ring 15 = .ok (.sipush 1000, 3) := by decide +kernel
theorem dX12_ring_18 : decode cX12_ring 18 = .ok (.isub, 1) := by decide +kernel
theorem dX12_ring_19 : decode cX12_ring 19 = .ok (.istore 6, 2) := by decide +kernel
theorem dX12_ring_21 : decode cX12_ring 21 = .ok (.iload_n 1, 1) := by decide +kernel
theorem dX12_ring_22 : decode cX12_ring 22 = .ok (.ifCond .lt 59, 3) := by decide +kernel
theorem dX12_ring_25 : decode cX12_ring 25 = .ok (.iload 5, 2) := by decide +kernel
theorem dX12_ring_27 : decode cX12_ring 27 = .ok (.i2l, 1) := by decide +kernel
theorem dX12_ring_28 : decode cX12_ring 28 = .ok (.ldc2_w 53, 3) := by decide +kernel
theorem dX12_ring_31 : decode cX12_ring 31 = .ok (.ldc2_w 55, 3) := by decide +kernel
theorem dX12_ring_34 : decode cX12_ring 34 = .ok (.invokestatic 48, 3) := by decide +kernel
theorem dX12_ring_37 : decode cX12_ring 37 = .ok (.ifCond .eq 44, 3) := by decide +kernel
theorem dX12_ring_40 : decode cX12_ring 40 = .ok (.iload 6, 2) := by decide +kernel
theorem dX12_ring_42 : decode cX12_ring 42 = .ok (.i2l, 1) := by decide +kernel
theorem dX12_ring_43 : decode cX12_ring 43 = .ok (.ldc2_w 57, 3) := by decide +kernel
theorem dX12_ring_46 : decode cX12_ring 46 = .ok (.ldc2_w 59, 3) := by decide +kernel
theorem dX12_ring_49 : decode cX12_ring 49 = .ok (.invokestatic 48, 3) := by decide +kernel
theorem dX12_ring_52 : decode cX12_ring 52 = .ok (.ifCond .eq 29, 3) := by decide +kernel
theorem dX12_ring_55 : decode cX12_ring 55 = .ok (.iload_n 2, 1) := by decide +kernel
theorem dX12_ring_56 : decode cX12_ring 56 = .ok (.iconst 1, 1) := by decide +kernel
theorem dX12_ring_57 : decode cX12_ring 57 = .ok (.if_icmp .eq 8, 3) := by decide +kernel
theorem dX12_ring_60 : decode cX12_ring 60 = .ok (.iload_n 2, 1) := by decide +kernel
theorem dX12_ring_61 : decode cX12_ring 61 = .ok (.iconst (-1), 1) := by decide +kernel
theorem dX12_ring_62 : decode cX12_ring 62 = .ok (.if_icmp .ne 19, 3) := by decide +kernel
theorem dX12_ring_65 : decode cX12_ring 65 = .ok (.iload_n 3, 1) := by decide +kernel
theorem dX12_ring_66 : decode cX12_ring 66 = .ok (.i2l, 1) := by decide +kernel
theorem dX12_ring_67 : decode cX12_ring 67 = .ok (.lconst 0, 1) := by decide +kernel
theorem dX12_ring_68 : decode cX12_ring 68 = .ok (.ldc2_w 59, 3) := by decide +kernel
theorem dX12_ring_71 : decode cX12_ring 71 = .ok (.invokestatic 48, 3) := by decide +kernel
theorem dX12_ring_74 : decode cX12_ring 74 = .ok (.ifCond .eq 7, 3) := by decide +kernel
theorem dX12_ring_77 : decode cX12_ring 77 = .ok (.iconst 1, 1) := by decide +kernel
theorem dX12_ring_78 : decode cX12_ring 78 = .ok (.goto 4, 3) := by decide +kernel
theorem dX12_ring_81 : decode cX12_ring 81 = .ok (.iconst 0, 1) := by decide +kernel
theorem dX12_ring_82 : decode cX12_ring 82 = .ok (.istore 7, 2) := by decide +kernel
theorem dX12_ring_84 : decode cX12_ring 84 = .ok (.iload 7, 2) := by decide +kernel
theorem dX12_ring_86 : decode cX12_ring 86 = .ok (.ifCond .eq 40, 3) := by decide +kernel
theorem dX12_ring_89 : decode cX12_ring 89 = .ok (.iload 4, 2) := by decide +kernel
theorem dX12_ring_91 : decode cX12_ring 91 = .ok (.ifCond .lt 35, 3) := by decide +kernel
theorem dX12_ring_94 : decode cX12_ring 94 = .ok (.iload 4, 2) := by decide +kernel
theorem dX12_ring_96 : decode cX12_ring 96 = .ok (.bipush 100, 2) := by decide +kernel
theorem dX12_ring_98 : decode cX12_ring 98 = .ok (.idiv, 1) := by decide +kernel
theorem dX12_ring_99 : decode cX12_ring 99 = .ok (.i2l, 1) := by decide +kernel
theorem dX12_ring_100 : decode cX12_ring 100 = .ok (.lconst 1, 1) := by decide +kernel
theorem dX12_ring_101 : decode cX12_ring 101 = .ok (.ldc2_w 61, 3) := by decide +kernel
theorem dX12_ring_104 : decode cX12_ring 104 = .ok (.invokestatic 48, 3) := by decide +kernel
theorem dX12_ring_107 : decode cX12_ring 107 = .ok (.ifCond .eq 19, 3) := by decide +kernel
theorem dX12_ring_110 : decode cX12_ring 110 = .ok (.iload 4, 2) := by decide +kernel
theorem dX12_ring_112 : decode cX12_ring 112 = .ok (.bipush 100, 2) := by decide +kernel
theorem dX12_ring_114 : decode cX12_ring 114 = .ok (.irem, 1) := by decide +kernel
theorem dX12_ring_115 : decode cX12_ring 115 = .ok (.i2l, 1) := by decide +kernel
theorem dX12_ring_116 : decode cX12_ring 116 = .ok (.lconst 1, 1) := by decide +kernel
theorem dX12_ring_117 : decode cX12_ring 117 = .ok (.ldc2_w 63, 3) := by decide +kernel
theorem dX12_ring_120 : decode cX12_ring 120 = .ok (.invokestatic 48, 3) := by decide +kernel
theorem dX12_ring_123 : decode cX12_ring 123 = .ok (.ifCond .ne 9, 3) := by decide +kernel
theorem dX12_ring_126 : decode cX12_ring 126 = .ok (.aload_n 0, 1) := by decide +kernel
theorem dX12_ring_127 : decode cX12_ring 127 = .ok (.iconst 1, 1) := by decide +kernel
theorem dX12_ring_128 : decode cX12_ring 128 = .ok (.invokevirtual 65, 3) := by decide +kernel
theorem dX12_ring_131 : decode cX12_ring 131 = .ok (.ireturn, 1) := by decide +kernel
theorem dX12_ring_132 : decode cX12_ring 132 = .ok (.aload_n 0, 1) := by decide +kernel
theorem dX12_ring_133 : decode cX12_ring 133 = .ok (.getfield 7, 3) := by decide +kernel
theorem dX12_ring_136 : decode cX12_ring 136 = .ok (.iconst 1, 1) := by decide +kernel
theorem dX12_ring_137 : decode cX12_ring 137 = .ok (.iaload, 1) := by decide +kernel
theorem dX12_ring_138 : decode cX12_ring 138 = .ok (.bipush 8, 2) := by decide +kernel
theorem dX12_ring_140 : decode cX12_ring 140 = .ok (.if_icmp .ne 11, 3) := by decide +kernel
theorem dX12_ring_143 : decode cX12_ring 143 = .ok (.aload_n 0, 1) := by decide +kernel
theorem dX12_ring_144 : decode cX12_ring 144 = .ok (.iconst 4, 1) := by decide +kernel
theorem dX12_ring_145 : decode cX12_ring 145 = .ok (.invokevirtual 65, 3) := by decide +kernel
theorem dX12_ring_148 : decode cX12_ring 148 = .ok (.goto 26, 3) := by decide +kernel
theorem dX12_ring_151 : decode cX12_ring 151 = .ok (.aload_n 0, 1) := by decide +kernel
theorem dX12_ring_152 : decode cX12_ring 152 = .ok (.getfield 7, 3) := by decide +kernel
theorem dX12_ring_155 : decode cX12_ring 155 = .ok (.iload 5, 2) := by decide +kernel
theorem dX12_ring_157 : decode cX12_ring 157 = .ok (.iload 6, 2) := by decide +kernel
theorem dX12_ring_159 : decode cX12_ring 159 = .ok (.iload_n 2, 1) := by decide +kernel
theorem dX12_ring_160 : decode cX12_ring 160 = .ok (.iload_n 3, 1) := by decide +kernel
theorem dX12_ring_161 : decode cX12_ring 161 = .ok (.iload 4, 2) := by decide +kernel
theorem dX12_ring_163 : decode cX12_ring 163 = .ok (.bipush 100, 2) := by decide +kernel
theorem dX12_ring_165 : decode cX12_ring 165 = .ok (.idiv, 1) := by decide +kernel
theorem dX12_ring_166 : decode cX12_ring 166 = .ok (.iload 4, 2) := by decide +kernel
theorem dX12_ring_168 : decode cX12_ring 168 = .ok (.bipush 100, 2) := by decide +kernel
theorem dX12_ring_170 : decode cX12_ring 170 = .ok (.irem, 1) := by decide +kernel
theorem dX12_ring_171 : decode cX12_ring 171 = .ok (.invokestatic 69, 3) := by decide +kernel
theorem dX12_ring_174 : decode cX12_ring 174 = .ok (.ireturn, 1) := by decide +kernel
theorem dX12_paceOf_0 : decode cX12_paceOf 0 = .ok (.iconst 3, 1) := by decide +kernel
theorem dX12_paceOf_1 : decode cX12_paceOf 1 = .ok (.istore_n 2, 1) := by decide +kernel
theorem dX12_paceOf_2 : decode cX12_paceOf 2 = .ok (.aload_n 0, 1) := by decide +kernel
theorem dX12_paceOf_3 : decode cX12_paceOf 3 = .ok (.iload_n 1, 1) := by decide +kernel
theorem dX12_paceOf_4 : decode cX12_paceOf 4 = .ok (.iconst 4, 1) := by decide +kernel
theorem dX12_paceOf_5 : decode cX12_paceOf 5 = .ok (.invokestatic 73, 3) := by decide +kernel
theorem dX12_paceOf_8 : decode cX12_paceOf 8 = .ok (.istore_n 3, 1) := by decide +kernel
theorem dX12_paceOf_9 : decode cX12_paceOf 9 = .ok (.iload_n 3, 1) := by decide +kernel
theorem dX12_paceOf_10 : decode cX12_paceOf 10 = .ok (.aload_n 0, 1) := by decide +kernel
theorem dX12_paceOf_11 : decode cX12_paceOf 11 = .ok (.iload_n 1, 1) := by decide +kernel
theorem dX12_paceOf_12 : decode cX12_paceOf 12 = .ok (.iconst 5, 1) := by decide +kernel
theorem dX12_paceOf_13 : decode cX12_paceOf 13 = .ok (.invokestatic 73, 3) := by decide +kernel
theorem dX12_paceOf_16 : decode cX12_paceOf 16 = .ok (.if_icmp .le 13, 3) := by decide +kernel
theorem dX12_paceOf_19 : decode cX12_paceOf 19 = .ok (.iinc 2 1, 3) := by decide +kernel
theorem dX12_paceOf_22 : decode cX12_paceOf 22 = .ok (.iload_n 3, 1) := by decide +kernel
theorem dX12_paceOf_23 : decode cX12_paceOf 23 = .ok (.iconst 2, 1) := by decide +kernel
theorem dX12_paceOf_24 : decode cX12_paceOf 24 = .ok (.idiv, 1) := by decide +kernel
theorem dX12_paceOf_25 : decode cX12_paceOf 25 = .ok (.istore_n 3, 1) := by decide +kernel
theorem dX12_paceOf_26 : decode cX12_paceOf 26 = .ok (.goto (-17), 3) := by decide +kernel
theorem dX12_paceOf_29 : decode cX12_paceOf 29 = .ok (.aload_n 0, 1) := by decide +kernel
theorem dX12_paceOf_30 : decode cX12_paceOf 30 = .ok (.iload_n 1, 1) := by decide +kernel
theorem dX12_paceOf_31 : decode cX12_paceOf 31 = .ok (.iconst 3, 1) := by decide +kernel
theorem dX12_paceOf_32 : decode cX12_paceOf 32 = .ok (.invokestatic 73, 3) := by decide +kernel
theorem dX12_paceOf_35 : decode cX12_paceOf 35 = .ok (.iload_n 2, 1) := by decide +kernel
theorem dX12_paceOf_36 : decode cX12_paceOf 36 = .ok (.imul, 1) := by decide +kernel
theorem dX12_paceOf_37 : decode cX12_paceOf 37 = .ok (.aload_n 0, 1) := by decide +kernel
theorem dX12_paceOf_38 : decode cX12_paceOf 38 = .ok (.iload_n 1, 1) := by decide +kernel
theorem dX12_paceOf_39 : decode cX12_paceOf 39 = .ok (.iconst 4, 1) := by decide +kernel
theorem dX12_paceOf_40 : decode cX12_paceOf 40 = .ok (.invokestatic 73, 3) := by decide +kernel
theorem dX12_paceOf_43 : decode cX12_paceOf 43 = .ok (.idiv, 1) := by decide +kernel
theorem dX12_paceOf_44 : decode cX12_paceOf 44 = .ok (.ireturn, 1) := by decide +kernel
theorem dX12_ofRing_0 : decode cX12_ofRing 0 = .ok (.aload_n 0, 1) := by decide +kernel
theorem dX12_ofRing_1 : decode cX12_ofRing 1 = .ok (.iload_n 1, 1) := by decide +kernel
theorem dX12_ofRing_2 : decode cX12_ofRing 2 = .ok (.invokevirtual 77, 3) := by decide +kernel
theorem dX12_ofRing_5 : decode cX12_ofRing 5 = .ok (.ifCond .eq 15, 3) := by decide +kernel
theorem dX12_ofRing_8 : decode cX12_ofRing 8 = .ok (.iload_n 2, 1) := by decide +kernel
theorem dX12_ofRing_9 : decode cX12_ofRing 9 = .ok (.i2l, 1) := by decide +kernel
theorem dX12_ofRing_10 : decode cX12_ofRing 10 = .ok (.lconst 0, 1) := by decide +kernel
theorem dX12_ofRing_11 : decode cX12_ofRing 11 = .ok (.ldc2_w 81, 3) := by decide +kernel
theorem dX12_ofRing_14 : decode cX12_ofRing 14 = .ok (.invokestatic 48, 3) := by decide +kernel
theorem dX12_ofRing_17 : decode cX12_ofRing 17 = .ok (.ifCond .ne 9, 3) := by decide +kernel
theorem dX12_ofRing_20 : decode cX12_ofRing 20 = .ok (.aload_n 0, 1) := by decide +kernel
theorem dX12_ofRing_21 : decode cX12_ofRing 21 = .ok (.iconst 1, 1) := by decide +kernel
theorem dX12_ofRing_22 : decode cX12_ofRing 22 = .ok (.invokevirtual 65, 3) := by decide +kernel
theorem dX12_ofRing_25 : decode cX12_ofRing 25 = .ok (.ireturn, 1) := by decide +kernel
theorem dX12_ofRing_26 : decode cX12_ofRing 26 = .ok (.iload_n 2, 1) := by decide +kernel
theorem dX12_ofRing_27 : decode cX12_ofRing 27 = .ok (.bipush 7, 2) := by decide +kernel
theorem dX12_ofRing_29 : decode cX12_ofRing 29 = .ok (.if_icmp .ne 14, 3) := by decide +kernel
theorem dX12_ofRing_32 : decode cX12_ofRing 32 = .ok (.aload_n 0, 1) := by decide +kernel
theorem dX12_ofRing_33 : decode cX12_ofRing 33 = .ok (.getfield 7, 3) := by decide +kernel
theorem dX12_ofRing_36 : decode cX12_ofRing 36 = .ok (.iload_n 1, 1) := by decide +kernel
theorem dX12_ofRing_37 : decode cX12_ofRing 37 = .ok (.invokestatic 83, 3) := by decide +kernel
theorem dX12_ofRing_40 : decode cX12_ofRing 40 = .ok (.goto 12, 3) := by decide +kernel
theorem dX12_ofRing_43 : decode cX12_ofRing 43 = .ok (.aload_n 0, 1) := by decide +kernel
theorem dX12_ofRing_44 : decode cX12_ofRing 44 = .ok (.getfield 7, 3) := by decide +kernel
theorem dX12_ofRing_47 : decode cX12_ofRing 47 = .ok (.iload_n 1, 1) := by decide +kernel
theorem dX12_ofRing_48 : decode cX12_ofRing 48 = .ok (.iload_n 2, 1) := by decide +kernel
theorem dX12_ofRing_49 : decode cX12_ofRing 49 = .ok (.invokestatic 73, 3) := by decide +kernel
theorem dX12_ofRing_52 : decode cX12_ofRing 52 = .ok (.ireturn, 1) := by decide +kernel
theorem dX12_end_0 : decode cX12_end 0 = .ok (.aload_n 0, 1) := by decide +kernel
theorem dX12_end_1 : decode cX12_end 1 = .ok (.iload_n 1, 1) := by decide +kernel
theorem dX12_end_2 : decode cX12_end 2 = .ok (.invokevirtual 77, 3) := by decide +kernel
theorem dX12_end_5 : decode cX12_end 5 = .ok (.ifCond .ne 9, 3) := by decide +kernel
theorem dX12_end_8 : decode cX12_end 8 = .ok (.aload_n 0, 1) := by decide +kernel
theorem dX12_end_9 : decode cX12_end 9 = .ok (.iconst 1, 1) := by decide +kernel
theorem dX12_end_10 : decode cX12_end 10 = .ok (.invokevirtual 65, 3) := by decide +kernel
theorem dX12_end_13 : decode cX12_end 13 = .ok (.ireturn, 1) := by decide +kernel
theorem dX12_end_14 : decode cX12_end 14 = .ok (.aload_n 0, 1) := by decide +kernel
theorem dX12_end_15 : decode cX12_end 15 = .ok (.getfield 7, 3) := by decide +kernel
theorem dX12_end_18 : decode cX12_end 18 = .ok (.iload_n 1, 1) := by decide +kernel
theorem dX12_end_19 : decode cX12_end 19 = .ok (.bipush 6, 2) := by decide +kernel
theorem dX12_end_21 : decode cX12_end 21 = .ok (.invokestatic 73, 3) := by decide +kernel
theorem dX12_end_24 : decode cX12_end 24 = .ok (.istore_n 2, 1) := by decide +kernel
theorem dX12_end_25 : decode cX12_end 25 = .ok (.aload_n 0, 1) := by decide +kernel
theorem dX12_end_26 : decode cX12_end 26 = .ok (.getfield 7, 3) := by decide +kernel
theorem dX12_end_29 : decode cX12_end 29 = .ok (.bipush 80, 2) := by decide +kernel
theorem dX12_end_31 : decode cX12_end 31 = .ok (.bipush 8, 2) := by decide +kernel
theorem dX12_end_33 : decode cX12_end 33 = .ok (.iload_n 1, 1) := by decide +kernel
theorem dX12_end_34 : decode cX12_end 34 = .ok (.imul, 1) := by decide +kernel
theorem dX12_end_35 : decode cX12_end 35 = .ok (.iadd, 1) := by decide +kernel
theorem dX12_end_36 : decode cX12_end 36 = .ok (.bipush 6, 2) := by decide +kernel
theorem dX12_end_38 : decode cX12_end 38 = .ok (.iadd, 1) := by decide +kernel
theorem dX12_end_39 : decode cX12_end 39 = .ok (.iconst 0, 1) := by decide +kernel
theorem dX12_end_40 : decode cX12_end 40 = .ok (.iastore, 1) := by decide +kernel
theorem dX12_end_41 : decode cX12_end 41 = .ok (.iload_n 2, 1) := by decide +kernel
theorem dX12_end_42 : decode cX12_end 42 = .ok (.ireturn, 1) := by decide +kernel
theorem dX12_wall_0 : decode cX12_wall 0 = .ok (.iload_n 1, 1) := by decide +kernel
theorem dX12_wall_1 : decode cX12_wall 1 = .ok (.i2l, 1) := by decide +kernel
theorem dX12_wall_2 : decode cX12_wall 2 = .ok (.ldc2_w 53, 3) := by decide +kernel
theorem dX12_wall_5 : decode cX12_wall 5 = .ok (.ldc2_w 55, 3) := by decide +kernel
theorem dX12_wall_8 : decode cX12_wall 8 = .ok (.invokestatic 48, 3) := by decide +kernel
theorem dX12_wall_11 : decode cX12_wall 11 = .ok (.ifCond .ne 9, 3) := by decide +kernel
theorem dX12_wall_14 : decode cX12_wall 14 = .ok (.aload_n 0, 1) := by decide +kernel
theorem dX12_wall_15 : decode cX12_wall 15 = .ok (.iconst 1, 1) := by decide +kernel
theorem dX12_wall_16 : decode cX12_wall 16 = .ok (.invokevirtual 65, 3) := by decide +kernel
theorem dX12_wall_19 : decode cX12_wall 19 = .ok (.ireturn, 1) := by decide +kernel
theorem dX12_wall_20 : decode cX12_wall 20 = .ok (.aload_n 0, 1) := by decide +kernel
theorem dX12_wall_21 : decode cX12_wall 21 = .ok (.getfield 7, 3) := by decide +kernel
theorem dX12_wall_24 : decode cX12_wall 24 = .ok (.iconst 4, 1) := by decide +kernel
theorem dX12_wall_25 : decode cX12_wall 25 = .ok (.iaload, 1) := by decide +kernel
theorem dX12_wall_26 : decode cX12_wall 26 = .ok (.istore_n 2, 1) := by decide +kernel
theorem dX12_wall_27 : decode cX12_wall 27 = .ok (.aload_n 0, 1) := by decide +kernel
theorem dX12_wall_28 : decode cX12_wall 28 = .ok (.getfield 7, 3) := by decide +kernel
theorem dX12_wall_31 : decode cX12_wall 31 = .ok (.iconst 4, 1) := by decide +kernel
theorem dX12_wall_32 : decode cX12_wall 32 = .ok (.iload_n 1, 1) := by decide +kernel
theorem dX12_wall_33 : decode cX12_wall 33 = .ok (.iastore, 1) := by decide +kernel
theorem dX12_wall_34 : decode cX12_wall 34 = .ok (.iload_n 2, 1) := by decide +kernel
theorem dX12_wall_35 : decode cX12_wall 35 = .ok (.ireturn, 1) := by decide +kernel
theorem dX12_law_0 : decode cX12_law 0 = .ok (.iload_n 1, 1) := by decide +kernel
theorem dX12_law_1 : decode cX12_law 1 = .ok (.i2l, 1) := by decide +kernel
theorem dX12_law_2 : decode cX12_law 2 = .ok (.lconst 0, 1) := by decide +kernel
theorem dX12_law_3 : decode cX12_law 3 = .ok (.ldc2_w 87, 3) := by decide +kernel
theorem dX12_law_6 : decode cX12_law 6 = .ok (.invokestatic 48, 3) := by decide +kernel
theorem dX12_law_9 : decode cX12_law 9 = .ok (.ifCond .eq 15, 3) := by decide +kernel
theorem dX12_law_12 : decode cX12_law 12 = .ok (.iload_n 2, 1) := by decide +kernel
theorem dX12_law_13 : decode cX12_law 13 = .ok (.i2l, 1) := by decide +kernel
theorem dX12_law_14 : decode cX12_law 14 = .ok (.lconst 0, 1) := by decide +kernel
theorem dX12_law_15 : decode cX12_law 15 = .ok (.ldc2_w 89, 3) := by decide +kernel
theorem dX12_law_18 : decode cX12_law 18 = .ok (.invokestatic 48, 3) := by decide +kernel
theorem dX12_law_21 : decode cX12_law 21 = .ok (.ifCond .ne 9, 3) := by decide +kernel
theorem dX12_law_24 : decode cX12_law 24 = .ok (.aload_n 0, 1) := by decide +kernel
theorem dX12_law_25 : decode cX12_law 25 = .ok (.iconst 1, 1) := by decide +kernel
theorem dX12_law_26 : decode cX12_law 26 = .ok (.invokevirtual 65, 3) := by decide +kernel
theorem dX12_law_29 : decode cX12_law 29 = .ok (.ireturn, 1) := by decide +kernel
theorem dX12_law_30 : decode cX12_law 30 = .ok (.aload_n 0, 1) := by decide +kernel
theorem dX12_law_31 : decode cX12_law 31 = .ok (.getfield 7, 3) := by decide +kernel
theorem dX12_law_34 : decode cX12_law 34 = .ok (.iconst 2, 1) := by decide +kernel
theorem dX12_law_35 : decode cX12_law 35 = .ok (.iaload, 1) := by decide +kernel
theorem dX12_law_36 : decode cX12_law 36 = .ok (.bipush 6, 2) := by decide +kernel
theorem dX12_law_38 : decode cX12_law 38 = .ok (.if_icmp .ne 9, 3) := by decide +kernel
theorem dX12_law_41 : decode cX12_law 41 = .ok (.aload_n 0, 1) := by decide +kernel
theorem dX12_law_42 : decode cX12_law 42 = .ok (.iconst 4, 1) := by decide +kernel
theorem dX12_law_43 : decode cX12_law 43 = .ok (.invokevirtual 65, 3) := by decide +kernel
theorem dX12_law_46 : decode cX12_law 46 = .ok (.ireturn, 1) := by decide +kernel
theorem dX12_law_47 : decode cX12_law 47 = .ok (.aload_n 0, 1) := by decide +kernel
theorem dX12_law_48 : decode cX12_law 48 = .ok (.getfield 7, 3) := by decide +kernel
theorem dX12_law_51 : decode cX12_law 51 = .ok (.bipush 20, 2) := by decide +kernel
theorem dX12_law_53 : decode cX12_law 53 = .ok (.iconst 2, 1) := by decide +kernel
theorem dX12_law_54 : decode cX12_law 54 = .ok (.aload_n 0, 1) := by decide +kernel
theorem dX12_law_55 : decode cX12_law 55 = .ok (.getfield 7, 3) := by decide +kernel
theorem dX12_law_58 : decode cX12_law 58 = .ok (.iconst 2, 1) := by decide +kernel
theorem dX12_law_59 : decode cX12_law 59 = .ok (.iaload, 1) := by decide +kernel
theorem dX12_law_60 : decode cX12_law 60 = .ok (.imul, 1) := by decide +kernel
theorem dX12_law_61 : decode cX12_law 61 = .ok (.iadd, 1) := by decide +kernel
theorem dX12_law_62 : decode cX12_law 62 = .ok (.iload_n 1, 1) := by decide +kernel
theorem dX12_law_63 : decode cX12_law 63 = .ok (.iastore, 1) := by decide +kernel
theorem dX12_law_64 : decode cX12_law 64 = .ok (.aload_n 0, 1) := by decide +kernel
theorem dX12_law_65 : decode cX12_law 65 = .ok (.getfield 7, 3) := by decide +kernel
theorem dX12_law_68 : decode cX12_law 68 = .ok (.bipush 20, 2) := by decide +kernel
theorem dX12_law_70 : decode cX12_law 70 = .ok (.iconst 2, 1) := by decide +kernel
theorem dX12_law_71 : decode cX12_law 71 = .ok (.aload_n 0, 1) := by decide +kernel
theorem dX12_law_72 : decode cX12_law 72 = .ok (.getfield 7, 3) := by decide +kernel
theorem dX12_law_75 : decode cX12_law 75 = .ok (.iconst 2, 1) := by decide +kernel
theorem dX12_law_76 : decode cX12_law 76 = .ok (.iaload, 1) := by decide +kernel
theorem dX12_law_77 : decode cX12_law 77 = .ok (.imul, 1) := by decide +kernel
theorem dX12_law_78 : decode cX12_law 78 = .ok (.iadd, 1) := by decide +kernel
theorem dX12_law_79 : decode cX12_law 79 = .ok (.iconst 1, 1) := by decide +kernel
theorem dX12_law_80 : decode cX12_law 80 = .ok (.iadd, 1) := by decide +kernel
theorem dX12_law_81 : decode cX12_law 81 = .ok (.iload_n 2, 1) := by decide +kernel
theorem dX12_law_82 : decode cX12_law 82 = .ok (.iastore, 1) := by decide +kernel
theorem dX12_law_83 : decode cX12_law 83 = .ok (.aload_n 0, 1) := by decide +kernel
theorem dX12_law_84 : decode cX12_law 84 = .ok (.getfield 7, 3) := by decide +kernel
theorem dX12_law_87 : decode cX12_law 87 = .ok (.iconst 3, 1) := by decide +kernel
theorem dX12_law_88 : decode cX12_law 88 = .ok (.dup2, 1) := by decide +kernel
theorem dX12_law_89 : decode cX12_law 89 = .ok (.iaload, 1) := by decide +kernel
theorem dX12_law_90 : decode cX12_law 90 = .ok (.iconst 1, 1) := by decide +kernel
theorem dX12_law_91 : decode cX12_law 91 = .ok (.aload_n 0, 1) := by decide +kernel
theorem dX12_law_92 : decode cX12_law 92 = .ok (.getfield 7, 3) := by decide +kernel
theorem dX12_law_95 : decode cX12_law 95 = .ok (.iconst 2, 1) := by decide +kernel
theorem dX12_law_96 : decode cX12_law 96 = .ok (.iaload, 1) := by decide +kernel
theorem dX12_law_97 : decode cX12_law 97 = .ok (.ishl, 1) := by decide +kernel
theorem dX12_law_98 : decode cX12_law 98 = .ok (.ior, 1) := by decide +kernel
theorem dX12_law_99 : decode cX12_law 99 = .ok (.iastore, 1) := by decide +kernel
theorem dX12_law_100 : decode cX12_law 100 = .ok (.aload_n 0, 1) := by decide +kernel
theorem dX12_law_101 : decode cX12_law 101 = .ok (.getfield 7, 3) := by decide +kernel
theorem dX12_law_104 : decode cX12_law 104 = .ok (.iconst 2, 1) := by decide +kernel
theorem dX12_law_105 : decode cX12_law 105 = .ok (.dup2, 1) := by decide +kernel
theorem dX12_law_106 : decode cX12_law 106 = .ok (.iaload, 1) := by decide +kernel
theorem dX12_law_107 : decode cX12_law 107 = .ok (.iconst 1, 1) := by decide +kernel
theorem dX12_law_108 : decode cX12_law 108 = .ok (.iadd, 1) := by decide +kernel
theorem dX12_law_109 : decode cX12_law 109 = .ok (.iastore, 1) := by decide +kernel
theorem dX12_law_110 : decode cX12_law 110 = .ok (.aload_n 0, 1) := by decide +kernel
theorem dX12_law_111 : decode cX12_law 111 = .ok (.getfield 7, 3) := by decide +kernel
theorem dX12_law_114 : decode cX12_law 114 = .ok (.iconst 2, 1) := by decide +kernel
theorem dX12_law_115 : decode cX12_law 115 = .ok (.iaload, 1) := by decide +kernel
theorem dX12_law_116 : decode cX12_law 116 = .ok (.iconst 1, 1) := by decide +kernel
theorem dX12_law_117 : decode cX12_law 117 = .ok (.isub, 1) := by decide +kernel
theorem dX12_law_118 : decode cX12_law 118 = .ok (.ireturn, 1) := by decide +kernel
theorem dX12_ofLaw_0 : decode cX12_ofLaw 0 = .ok (.aload_n 0, 1) := by decide +kernel
theorem dX12_ofLaw_1 : decode cX12_ofLaw 1 = .ok (.iload_n 1, 1) := by decide +kernel
theorem dX12_ofLaw_2 : decode cX12_ofLaw 2 = .ok (.invokevirtual 91, 3) := by decide +kernel
theorem dX12_ofLaw_5 : decode cX12_ofLaw 5 = .ok (.ifCond .eq 15, 3) := by decide +kernel
theorem dX12_ofLaw_8 : decode cX12_ofLaw 8 = .ok (.iload_n 2, 1) := by decide +kernel
theorem dX12_ofLaw_9 : decode cX12_ofLaw 9 = .ok (.i2l, 1) := by decide +kernel
theorem dX12_ofLaw_10 : decode cX12_ofLaw 10 = .ok (.lconst 0, 1) := by decide +kernel
theorem dX12_ofLaw_11 : decode cX12_ofLaw 11 = .ok (.ldc2_w 94, 3) := by decide +kernel
theorem dX12_ofLaw_14 : decode cX12_ofLaw 14 = .ok (.invokestatic 48, 3) := by decide +kernel
theorem dX12_ofLaw_17 : decode cX12_ofLaw 17 = .ok (.ifCond .ne 9, 3) := by decide +kernel
theorem dX12_ofLaw_20 : decode cX12_ofLaw 20 = .ok (.aload_n 0, 1) := by decide +kernel
theorem dX12_ofLaw_21 : decode cX12_ofLaw 21 = .ok (.iconst 1, 1) := by decide +kernel
theorem dX12_ofLaw_22 : decode cX12_ofLaw 22 = .ok (.invokevirtual 65, 3) := by decide +kernel
theorem dX12_ofLaw_25 : decode cX12_ofLaw 25 = .ok (.ireturn, 1) := by decide +kernel
theorem dX12_ofLaw_26 : decode cX12_ofLaw 26 = .ok (.iload_n 2, 1) := by decide +kernel
theorem dX12_ofLaw_27 : decode cX12_ofLaw 27 = .ok (.iconst 2, 1) := by decide +kernel
theorem dX12_ofLaw_28 : decode cX12_ofLaw 28 = .ok (.if_icmp .ne 16, 3) := by decide +kernel
theorem dX12_ofLaw_31 : decode cX12_ofLaw 31 = .ok (.aload_n 0, 1) := by decide +kernel
theorem dX12_ofLaw_32 : decode cX12_ofLaw 32 = .ok (.getfield 7, 3) := by decide +kernel
theorem dX12_ofLaw_35 : decode cX12_ofLaw 35 = .ok (.iconst 3, 1) := by decide +kernel
theorem dX12_ofLaw_36 : decode cX12_ofLaw 36 = .ok (.iaload, 1) := by decide +kernel
theorem dX12_ofLaw_37 : decode cX12_ofLaw 37 = .ok (.iload_n 1, 1) := by decide +kernel
theorem dX12_ofLaw_38 : decode cX12_ofLaw 38 = .ok (.ishr, 1) := by decide +kernel
theorem dX12_ofLaw_39 : decode cX12_ofLaw 39 = .ok (.iconst 1, 1) := by decide +kernel
theorem dX12_ofLaw_40 : decode cX12_ofLaw 40 = .ok (.iand, 1) := by decide +kernel
theorem dX12_ofLaw_41 : decode cX12_ofLaw 41 = .ok (.goto 16, 3) := by decide +kernel
theorem dX12_ofLaw_44 : decode cX12_ofLaw 44 = .ok (.aload_n 0, 1) := by decide +kernel
theorem dX12_ofLaw_45 : decode cX12_ofLaw 45 = .ok (.getfield 7, 3) := by decide +kernel
theorem dX12_ofLaw_48 : decode cX12_ofLaw 48 = .ok (.bipush 20, 2) := by decide +kernel
theorem dX12_ofLaw_50 : decode cX12_ofLaw 50 = .ok (.iconst 2, 1) := by decide +kernel
theorem dX12_ofLaw_51 : decode cX12_ofLaw 51 = .ok (.iload_n 1, 1) := by decide +kernel
theorem dX12_ofLaw_52 : decode cX12_ofLaw 52 = .ok (.imul, 1) := by decide +kernel
theorem dX12_ofLaw_53 : decode cX12_ofLaw 53 = .ok (.iadd, 1) := by decide +kernel
theorem dX12_ofLaw_54 : decode cX12_ofLaw 54 = .ok (.iload_n 2, 1) := by decide +kernel
theorem dX12_ofLaw_55 : decode cX12_ofLaw 55 = .ok (.iadd, 1) := by decide +kernel
theorem dX12_ofLaw_56 : decode cX12_ofLaw 56 = .ok (.iaload, 1) := by decide +kernel
theorem dX12_ofLaw_57 : decode cX12_ofLaw 57 = .ok (.ireturn, 1) := by decide +kernel
theorem dX12_isOf_0 : decode cX12_isOf 0 = .ok (.iload_n 1, 1) := by decide +kernel
theorem dX12_isOf_1 : decode cX12_isOf 1 = .ok (.ifCond .eq 29, 3) := by decide +kernel
theorem dX12_isOf_4 : decode cX12_isOf 4 = .ok (.iload_n 1, 1) := by decide +kernel
theorem dX12_isOf_5 : decode cX12_isOf 5 = .ok (.iload_n 0, 1) := by decide +kernel
theorem dX12_isOf_6 : decode cX12_isOf 6 = .ok (.if_icmp .eq 24, 3) := by decide +kernel
theorem dX12_isOf_9 : decode cX12_isOf 9 = .ok (.iload_n 1, 1) := by decide +kernel
theorem dX12_isOf_10 : decode cX12_isOf 10 = .ok (.iconst 3, 1) := by decide +kernel
theorem dX12_isOf_11 : decode cX12_isOf 11 = .ok (.if_icmp .ne 8, 3) := by decide +kernel
theorem dX12_isOf_14 : decode cX12_isOf 14 = .ok (.iload_n 0, 1) := by decide +kernel
theorem dX12_isOf_15 : decode cX12_isOf 15 = .ok (.iconst 4, 1) := by decide +kernel
theorem dX12_isOf_16 : decode cX12_isOf 16 = .ok (.if_icmp .eq 14, 3) := by decide +kernel
theorem dX12_isOf_19 : decode cX12_isOf 19 = .ok (.iload_n 1, 1) := by decide +kernel
theorem dX12_isOf_20 : decode cX12_isOf 20 = .ok (.iconst 5, 1) := by decide +kernel
theorem dX12_isOf_21 : decode cX12_isOf 21 = .ok (.if_icmp .ne 13, 3) := by decide +kernel
theorem dX12_isOf_24 : decode cX12_isOf 24 = .ok (.iload_n 0, 1) := by decide +kernel
theorem dX12_isOf_25 : decode cX12_isOf 25 = .ok (.bipush 6, 2) := by decide +kernel
theorem dX12_isOf_27 : decode cX12_isOf 27 = .ok (.if_icmp .ne 7, 3) := by decide +kernel
theorem dX12_isOf_30 : decode cX12_isOf 30 = .ok (.iconst 1, 1) := by decide +kernel
theorem dX12_isOf_31 : decode cX12_isOf 31 = .ok (.goto 4, 3) := by decide +kernel
theorem dX12_isOf_34 : decode cX12_isOf 34 = .ok (.iconst 0, 1) := by decide +kernel
theorem dX12_isOf_35 : decode cX12_isOf 35 = .ok (.ireturn, 1) := by decide +kernel
theorem dX12_as_0 : decode cX12_as 0 = .ok (.aload_n 0, 1) := by decide +kernel
theorem dX12_as_1 : decode cX12_as 1 = .ok (.iload_n 1, 1) := by decide +kernel
theorem dX12_as_2 : decode cX12_as 2 = .ok (.invokevirtual 91, 3) := by decide +kernel
theorem dX12_as_5 : decode cX12_as 5 = .ok (.ifCond .eq 15, 3) := by decide +kernel
theorem dX12_as_8 : decode cX12_as 8 = .ok (.iload_n 2, 1) := by decide +kernel
theorem dX12_as_9 : decode cX12_as 9 = .ok (.i2l, 1) := by decide +kernel
theorem dX12_as_10 : decode cX12_as 10 = .ok (.lconst 0, 1) := by decide +kernel
theorem dX12_as_11 : decode cX12_as 11 = .ok (.ldc2_w 87, 3) := by decide +kernel
theorem dX12_as_14 : decode cX12_as 14 = .ok (.invokestatic 48, 3) := by decide +kernel
theorem dX12_as_17 : decode cX12_as 17 = .ok (.ifCond .ne 9, 3) := by decide +kernel
theorem dX12_as_20 : decode cX12_as 20 = .ok (.aload_n 0, 1) := by decide +kernel
theorem dX12_as_21 : decode cX12_as 21 = .ok (.iconst 1, 1) := by decide +kernel
theorem dX12_as_22 : decode cX12_as 22 = .ok (.invokevirtual 65, 3) := by decide +kernel
theorem dX12_as_25 : decode cX12_as 25 = .ok (.ireturn, 1) := by decide +kernel
theorem dX12_as_26 : decode cX12_as 26 = .ok (.aload_n 0, 1) := by decide +kernel
theorem dX12_as_27 : decode cX12_as 27 = .ok (.getfield 7, 3) := by decide +kernel
theorem dX12_as_30 : decode cX12_as 30 = .ok (.bipush 20, 2) := by decide +kernel
theorem dX12_as_32 : decode cX12_as 32 = .ok (.iconst 2, 1) := by decide +kernel
theorem dX12_as_33 : decode cX12_as 33 = .ok (.iload_n 1, 1) := by decide +kernel
theorem dX12_as_34 : decode cX12_as 34 = .ok (.imul, 1) := by decide +kernel
theorem dX12_as_35 : decode cX12_as 35 = .ok (.iadd, 1) := by decide +kernel
theorem dX12_as_36 : decode cX12_as 36 = .ok (.iaload, 1) := by decide +kernel
theorem dX12_as_37 : decode cX12_as 37 = .ok (.iload_n 2, 1) := by decide +kernel
theorem dX12_as_38 : decode cX12_as 38 = .ok (.invokestatic 96, 3) := by decide +kernel
theorem dX12_as_41 : decode cX12_as 41 = .ok (.ifCond .eq 19, 3) := by decide +kernel
theorem dX12_as_44 : decode cX12_as 44 = .ok (.aload_n 0, 1) := by decide +kernel
theorem dX12_as_45 : decode cX12_as 45 = .ok (.getfield 7, 3) := by decide +kernel
theorem dX12_as_48 : decode cX12_as 48 = .ok (.bipush 20, 2) := by decide +kernel
theorem dX12_as_50 : decode cX12_as 50 = .ok (.iconst 2, 1) := by decide +kernel
theorem dX12_as_51 : decode cX12_as 51 = .ok (.iload_n 1, 1) := by decide +kernel
theorem dX12_as_52 : decode cX12_as 52 = .ok (.imul, 1) := by decide +kernel
theorem dX12_as_53 : decode cX12_as 53 = .ok (.iadd, 1) := by decide +kernel
theorem dX12_as_54 : decode cX12_as 54 = .ok (.iconst 1, 1) := by decide +kernel
theorem dX12_as_55 : decode cX12_as 55 = .ok (.iadd, 1) := by decide +kernel
theorem dX12_as_56 : decode cX12_as 56 = .ok (.iaload, 1) := by decide +kernel
theorem dX12_as_57 : decode cX12_as 57 = .ok (.goto 8, 3) := by decide +kernel
theorem dX12_as_60 : decode cX12_as 60 = .ok (.aload_n 0, 1) := by decide +kernel
theorem dX12_as_61 : decode cX12_as 61 = .ok (.iconst 5, 1) := by decide +kernel
theorem dX12_as_62 : decode cX12_as 62 = .ok (.invokevirtual 65, 3) := by decide +kernel
theorem dX12_as_65 : decode cX12_as 65 = .ok (.ireturn, 1) := by decide +kernel
theorem dX12_turn_0 : decode cX12_turn 0 = .ok (.aload_n 0, 1) := by decide +kernel
theorem dX12_turn_1 : decode cX12_turn 1 = .ok (.iload_n 1, 1) := by decide +kernel
theorem dX12_turn_2 : decode cX12_turn 2 = .ok (.invokevirtual 91, 3) := by decide +kernel
theorem dX12_turn_5 : decode cX12_turn 5 = .ok (.ifCond .eq 13, 3) := by decide +kernel
theorem dX12_turn_8 : decode cX12_turn 8 = .ok (.iload_n 2, 1) := by decide +kernel
theorem dX12_turn_9 : decode cX12_turn 9 = .ok (.i2l, 1) := by decide +kernel
theorem dX12_turn_10 : decode cX12_turn 10 = .ok (.lconst 0, 1) := by decide +kernel
theorem dX12_turn_11 : decode cX12_turn 11 = .ok (.lconst 1, 1) := by decide +kernel
theorem dX12_turn_12 : decode cX12_turn 12 = .ok (.invokestatic 48, 3) := by decide +kernel
theorem dX12_turn_15 : decode cX12_turn 15 = .ok (.ifCond .ne 9, 3) := by decide +kernel
theorem dX12_turn_18 : decode cX12_turn 18 = .ok (.aload_n 0, 1) := by decide +kernel
theorem dX12_turn_19 : decode cX12_turn 19 = .ok (.iconst 1, 1) := by decide +kernel
theorem dX12_turn_20 : decode cX12_turn 20 = .ok (.invokevirtual 65, 3) := by decide +kernel
theorem dX12_turn_23 : decode cX12_turn 23 = .ok (.ireturn, 1) := by decide +kernel
theorem dX12_turn_24 : decode cX12_turn 24 = .ok (.aload_n 0, 1) := by decide +kernel
theorem dX12_turn_25 : decode cX12_turn 25 = .ok (.getfield 7, 3) := by decide +kernel
theorem dX12_turn_28 : decode cX12_turn 28 = .ok (.iconst 3, 1) := by decide +kernel
theorem dX12_turn_29 : decode cX12_turn 29 = .ok (.iaload, 1) := by decide +kernel
theorem dX12_turn_30 : decode cX12_turn 30 = .ok (.iload_n 1, 1) := by decide +kernel
theorem dX12_turn_31 : decode cX12_turn 31 = .ok (.ishr, 1) := by decide +kernel
theorem dX12_turn_32 : decode cX12_turn 32 = .ok (.iconst 1, 1) := by decide +kernel
theorem dX12_turn_33 : decode cX12_turn 33 = .ok (.iand, 1) := by decide +kernel
theorem dX12_turn_34 : decode cX12_turn 34 = .ok (.istore_n 3, 1) := by decide +kernel
theorem dX12_turn_35 : decode cX12_turn 35 = .ok (.aload_n 0, 1) := by decide +kernel
theorem dX12_turn_36 : decode cX12_turn 36 = .ok (.getfield 7, 3) := by decide +kernel
theorem dX12_turn_39 : decode cX12_turn 39 = .ok (.iconst 3, 1) := by decide +kernel
theorem dX12_turn_40 : decode cX12_turn 40 = .ok (.aload_n 0, 1) := by decide +kernel
theorem dX12_turn_41 : decode cX12_turn 41 = .ok (.getfield 7, 3) := by decide +kernel
theorem dX12_turn_44 : decode cX12_turn 44 = .ok (.iconst 3, 1) := by decide +kernel
theorem dX12_turn_45 : decode cX12_turn 45 = .ok (.iaload, 1) := by decide +kernel
theorem dX12_turn_46 : decode cX12_turn 46 = .ok (.iconst 1, 1) := by decide +kernel
theorem dX12_turn_47 : decode cX12_turn 47 = .ok (.iload_n 1, 1) := by decide +kernel
theorem dX12_turn_48 : decode cX12_turn 48 = .ok (.ishl, 1) := by decide +kernel
theorem dX12_turn_49 : decode cX12_turn 49 = .ok (.iconst (-1), 1) := by decide +kernel
theorem dX12_turn_50 : decode cX12_turn 50 = .ok (.ixor, 1) := by decide +kernel
theorem dX12_turn_51 : decode cX12_turn 51 = .ok (.iand, 1) := by decide +kernel
theorem dX12_turn_52 : decode cX12_turn 52 = .ok (.iload_n 2, 1) := by decide +kernel
theorem dX12_turn_53 : decode cX12_turn 53 = .ok (.iload_n 1, 1) := by decide +kernel
theorem dX12_turn_54 : decode cX12_turn 54 = .ok (.ishl, 1) := by decide +kernel
theorem dX12_turn_55 : decode cX12_turn 55 = .ok (.ior, 1) := by decide +kernel
theorem dX12_turn_56 : decode cX12_turn 56 = .ok (.iastore, 1) := by decide +kernel
theorem dX12_turn_57 : decode cX12_turn 57 = .ok (.iload_n 3, 1) := by decide +kernel
theorem dX12_turn_58 : decode cX12_turn 58 = .ok (.ireturn, 1) := by decide +kernel
theorem dX12_apart_0 : decode cX12_apart 0 = .ok (.iload_n 0, 1) := by decide +kernel
theorem dX12_apart_1 : decode cX12_apart 1 = .ok (.iload_n 1, 1) := by decide +kernel
theorem dX12_apart_2 : decode cX12_apart 2 = .ok (.if_icmp .le 9, 3) := by decide +kernel
theorem dX12_apart_5 : decode cX12_apart 5 = .ok (.iload_n 0, 1) := by decide +kernel
theorem dX12_apart_6 : decode cX12_apart 6 = .ok (.iload_n 1, 1) := by decide +kernel
theorem dX12_apart_7 : decode cX12_apart 7 = .ok (.isub, 1) := by decide +kernel
theorem dX12_apart_8 : decode cX12_apart 8 = .ok (.goto 6, 3) := by decide +kernel
theorem dX12_apart_11 : decode cX12_apart 11 = .ok (.iload_n 1, 1) := by decide +kernel
theorem dX12_apart_12 : decode cX12_apart 12 = .ok (.iload_n 0, 1) := by decide +kernel
theorem dX12_apart_13 : decode cX12_apart 13 = .ok (.isub, 1) := by decide +kernel
theorem dX12_apart_14 : decode cX12_apart 14 = .ok (.ireturn, 1) := by decide +kernel
theorem dX12_gap_0 : decode cX12_gap 0 = .ok (.aload_n 0, 1) := by decide +kernel
theorem dX12_gap_1 : decode cX12_gap 1 = .ok (.iload_n 1, 1) := by decide +kernel
theorem dX12_gap_2 : decode cX12_gap 2 = .ok (.iconst 0, 1) := by decide +kernel
theorem dX12_gap_3 : decode cX12_gap 3 = .ok (.invokestatic 73, 3) := by decide +kernel
theorem dX12_gap_6 : decode cX12_gap 6 = .ok (.aload_n 0, 1) := by decide +kernel
theorem dX12_gap_7 : decode cX12_gap 7 = .ok (.iload_n 2, 1) := by decide +kernel
theorem dX12_gap_8 : decode cX12_gap 8 = .ok (.iconst 0, 1) := by decide +kernel
theorem dX12_gap_9 : decode cX12_gap 9 = .ok (.invokestatic 73, 3) := by decide +kernel
theorem dX12_gap_12 : decode cX12_gap 12 = .ok (.invokestatic 100, 3) := by decide +kernel
theorem dX12_gap_15 : decode cX12_gap 15 = .ok (.ireturn, 1) := by decide +kernel
theorem dX12_areNear_0 : decode cX12_areNear 0 = .ok (.aload_n 0, 1) := by decide +kernel
theorem dX12_areNear_1 : decode cX12_areNear 1 = .ok (.iload_n 1, 1) := by decide +kernel
theorem dX12_areNear_2 : decode cX12_areNear 2 = .ok (.iconst 1, 1) := by decide +kernel
theorem dX12_areNear_3 : decode cX12_areNear 3 = .ok (.invokestatic 73, 3) := by decide +kernel
theorem dX12_areNear_6 : decode cX12_areNear 6 = .ok (.aload_n 0, 1) := by decide +kernel
theorem dX12_areNear_7 : decode cX12_areNear 7 = .ok (.iload_n 2, 1) := by decide +kernel
theorem dX12_areNear_8 : decode cX12_areNear 8 = .ok (.iconst 1, 1) := by decide +kernel
theorem dX12_areNear_9 : decode cX12_areNear 9 = .ok (.invokestatic 73, 3) := by decide +kernel
theorem dX12_areNear_12 : decode cX12_areNear 12 = .ok (.invokestatic 100, 3) := by decide +kernel
theorem dX12_areNear_15 : decode cX12_areNear 15 = .ok (.aload_n 0, 1) := by decide +kernel
theorem dX12_areNear_16 : decode cX12_areNear 16 = .ok (.iload_n 1, 1) := by decide +kernel
theorem dX12_areNear_17 : decode cX12_areNear 17 = .ok (.iconst 4, 1) := by decide +kernel
theorem dX12_areNear_18 : decode cX12_areNear 18 = .ok (.invokestatic 73, 3) := by decide +kernel
theorem dX12_areNear_21 : decode cX12_areNear 21 = .ok (.aload_n 0, 1) := by decide +kernel
theorem dX12_areNear_22 : decode cX12_areNear 22 = .ok (.iload_n 2, 1) := by decide +kernel
theorem dX12_areNear_23 : decode cX12_areNear 23 = .ok (.iconst 4, 1) := by decide +kernel
theorem dX12_areNear_24 : decode cX12_areNear 24 = .ok (.invokestatic 73, 3) := by decide +kernel
theorem dX12_areNear_27 : decode cX12_areNear 27 = .ok (.iadd, 1) := by decide +kernel
theorem dX12_areNear_28 : decode cX12_areNear 28 = .ok (.if_icmp .ge 7, 3) := by decide +kernel
theorem dX12_areNear_31 : decode cX12_areNear 31 = .ok (.iconst 1, 1) := by decide +kernel
theorem dX12_areNear_32 : decode cX12_areNear 32 = .ok (.goto 4, 3) := by decide +kernel
theorem dX12_areNear_35 : decode cX12_areNear 35 = .ok (.iconst 0, 1) := by decide +kernel
theorem dX12_areNear_36 : decode cX12_areNear 36 = .ok (.ireturn, 1) := by decide +kernel
theorem dX12_isBehind_0 : decode cX12_isBehind 0 = .ok (.aload_n 0, 1) := by decide +kernel
theorem dX12_isBehind_1 : decode cX12_isBehind 1 = .ok (.iload_n 1, 1) := by decide +kernel
theorem dX12_isBehind_2 : decode cX12_isBehind 2 = .ok (.iconst 0, 1) := by decide +kernel
theorem dX12_isBehind_3 : decode cX12_isBehind 3 = .ok (.invokestatic 73, 3) := by decide +kernel
theorem dX12_isBehind_6 : decode cX12_isBehind 6 = .ok (.aload_n 0, 1) := by decide +kernel
theorem dX12_isBehind_7 : decode cX12_isBehind 7 = .ok (.iload_n 1, 1) := by decide +kernel
theorem dX12_isBehind_8 : decode cX12_isBehind 8 = .ok (.iconst 2, 1) := by decide +kernel
theorem dX12_isBehind_9 : decode cX12_isBehind 9 = .ok (.invokestatic 73, 3) := by decide +kernel
theorem dX12_isBehind_12 : decode cX12_isBehind 12 = .ok (.imul, 1) := by decide +kernel
theorem dX12_isBehind_13 : decode cX12_isBehind 13 = .ok (.istore_n 3, 1) := by decide +kernel
theorem dX12_isBehind_14 : decode cX12_isBehind 14 = .ok (.aload_n 0, 1) := by decide +kernel
theorem dX12_isBehind_15 : decode cX12_isBehind 15 = .ok (.iload_n 2, 1) := by decide +kernel
theorem dX12_isBehind_16 : decode cX12_isBehind 16 = .ok (.iconst 0, 1) := by decide +kernel
theorem dX12_isBehind_17 : decode cX12_isBehind 17 = .ok (.invokestatic 73, 3) := by decide +kernel
theorem dX12_isBehind_20 : decode cX12_isBehind 20 = .ok (.aload_n 0, 1) := by decide +kernel
theorem dX12_isBehind_21 : decode cX12_isBehind 21 = .ok (.iload_n 1, 1) := by decide +kernel
theorem dX12_isBehind_22 : decode cX12_isBehind 22 = .ok (.iconst 2, 1) := by decide +kernel
theorem dX12_isBehind_23 : decode cX12_isBehind 23 = .ok (.invokestatic 73, 3) := by decide +kernel
theorem dX12_isBehind_26 : decode cX12_isBehind 26 = .ok (.imul, 1) := by decide +kernel
theorem dX12_isBehind_27 : decode cX12_isBehind 27 = .ok (.istore 4, 2) := by decide +kernel
theorem dX12_isBehind_29 : decode cX12_isBehind 29 = .ok (.aload_n 0, 1) := by decide +kernel
theorem dX12_isBehind_30 : decode cX12_isBehind 30 = .ok (.iload_n 1, 1) := by decide +kernel
theorem dX12_isBehind_31 : decode cX12_isBehind 31 = .ok (.iconst 2, 1) := by decide +kernel
theorem dX12_isBehind_32 : decode cX12_isBehind 32 = .ok (.invokestatic 73, 3) := by decide +kernel
theorem dX12_isBehind_35 : decode cX12_isBehind 35 = .ok (.aload_n 0, 1) := by decide +kernel
theorem dX12_isBehind_36 : decode cX12_isBehind 36 = .ok (.iload_n 2, 1) := by decide +kernel
theorem dX12_isBehind_37 : decode cX12_isBehind 37 = .ok (.iconst 2, 1) := by decide +kernel
theorem dX12_isBehind_38 : decode cX12_isBehind 38 = .ok (.invokestatic 73, 3) := by decide +kernel
theorem dX12_isBehind_41 : decode cX12_isBehind 41 = .ok (.if_icmp .ne 24, 3) := by decide +kernel
theorem dX12_isBehind_44 : decode cX12_isBehind 44 = .ok (.iload_n 3, 1) := by decide +kernel
theorem dX12_isBehind_45 : decode cX12_isBehind 45 = .ok (.iload 4, 2) := by decide +kernel
theorem dX12_isBehind_47 : decode cX12_isBehind 47 = .ok (.if_icmp .lt 14, 3) := by decide +kernel
theorem dX12_isBehind_50 : decode cX12_isBehind 50 = .ok (.iload_n 3, 1) := by decide +kernel
theorem dX12_isBehind_51 : decode cX12_isBehind 51 = .ok (.iload 4, 2) := by decide +kernel
theorem dX12_isBehind_53 : decode cX12_isBehind 53 = .ok (.if_icmp .ne 12, 3) := by decide +kernel
theorem dX12_isBehind_56 : decode cX12_isBehind 56 = .ok (.iload_n 1, 1) := by decide +kernel
theorem dX12_isBehind_57 : decode cX12_isBehind 57 = .ok (.iload_n 2, 1) := by decide +kernel
theorem dX12_isBehind_58 : decode cX12_isBehind 58 = .ok (.if_icmp .le 7, 3) := by decide +kernel
theorem dX12_isBehind_61 : decode cX12_isBehind 61 = .ok (.iconst 1, 1) := by decide +kernel
theorem dX12_isBehind_62 : decode cX12_isBehind 62 = .ok (.goto 4, 3) := by decide +kernel
theorem dX12_isBehind_65 : decode cX12_isBehind 65 = .ok (.iconst 0, 1) := by decide +kernel
theorem dX12_isBehind_66 : decode cX12_isBehind 66 = .ok (.ireturn, 1) := by decide +kernel
theorem dX12_widens_0 : decode cX12_widens 0 = .ok (.aload_n 0, 1) := by decide +kernel
theorem dX12_widens_1 : decode cX12_widens 1 = .ok (.bipush 20, 2) := by decide +kernel
theorem dX12_widens_3 : decode cX12_widens 3 = .ok (.iconst 2, 1) := by decide +kernel
theorem dX12_widens_4 : decode cX12_widens 4 = .ok (.iload_n 1, 1) := by decide +kernel
theorem dX12_widens_5 : decode cX12_widens 5 = .ok (.imul, 1) := by decide +kernel
theorem dX12_widens_6 : decode cX12_widens 6 = .ok (.iadd, 1) := by decide +kernel
theorem dX12_widens_7 : decode cX12_widens 7 = .ok (.iaload, 1) := by decide +kernel
theorem dX12_widens_8 : decode cX12_widens 8 = .ok (.istore 4, 2) := by decide +kernel
theorem dX12_widens_10 : decode cX12_widens 10 = .ok (.aload_n 0, 1) := by decide +kernel
theorem dX12_widens_11 : decode cX12_widens 11 = .ok (.iload_n 2, 1) := by decide +kernel
theorem dX12_widens_12 : decode cX12_widens 12 = .ok (.iconst 2, 1) := by decide +kernel
theorem dX12_widens_13 : decode cX12_widens 13 = .ok (.invokestatic 73, 3) := by decide +kernel
theorem dX12_widens_16 : decode cX12_widens 16 = .ok (.aload_n 0, 1) := by decide +kernel
theorem dX12_widens_17 : decode cX12_widens 17 = .ok (.iload_n 3, 1) := by decide +kernel
theorem dX12_widens_18 : decode cX12_widens 18 = .ok (.iconst 2, 1) := by decide +kernel
theorem dX12_widens_19 : decode cX12_widens 19 = .ok (.invokestatic 73, 3) := by decide +kernel
theorem dX12_widens_22 : decode cX12_widens 22 = .ok (.if_icmp .ne 7, 3) := by decide +kernel
theorem dX12_widens_25 : decode cX12_widens 25 = .ok (.iconst 1, 1) := by decide +kernel
theorem dX12_widens_26 : decode cX12_widens 26 = .ok (.goto 4, 3) := by decide +kernel
theorem dX12_widens_29 : decode cX12_widens 29 = .ok (.iconst 0, 1) := by decide +kernel
theorem dX12_widens_30 : decode cX12_widens 30 = .ok (.istore 5, 2) := by decide +kernel
theorem dX12_widens_32 : decode cX12_widens 32 = .ok (.aload_n 0, 1) := by decide +kernel
theorem dX12_widens_33 : decode cX12_widens 33 = .ok (.bipush 20, 2) := by decide +kernel
theorem dX12_widens_35 : decode cX12_widens 35 = .ok (.iconst 2, 1) := by decide +kernel
theorem dX12_widens_36 : decode cX12_widens 36 = .ok (.iload_n 1, 1) := by decide +kernel
theorem dX12_widens_37 : decode cX12_widens 37 = .ok (.imul, 1) := by decide +kernel
theorem dX12_widens_38 : decode cX12_widens 38 = .ok (.iadd, 1) := by decide +kernel
theorem dX12_widens_39 : decode cX12_widens 39 = .ok (.iconst 1, 1) := by decide +kernel
theorem dX12_widens_40 : decode cX12_widens 40 = .ok (.iadd, 1) := by decide +kernel
theorem dX12_widens_41 : decode cX12_widens 41 = .ok (.iaload, 1) := by decide +kernel
theorem dX12_widens_42 : decode cX12_widens 42 = .ok (.aload_n 0, 1) := by decide +kernel
theorem dX12_widens_43 : decode cX12_widens 43 = .ok (.iload_n 3, 1) := by decide +kernel
theorem dX12_widens_44 : decode cX12_widens 44 = .ok (.iconst 3, 1) := by decide +kernel
theorem dX12_widens_45 : decode cX12_widens 45 = .ok (.invokestatic 73, 3) := by decide +kernel
theorem dX12_widens_48 : decode cX12_widens 48 = .ok (.imul, 1) := by decide +kernel
theorem dX12_widens_49 : decode cX12_widens 49 = .ok (.aload_n 0, 1) := by decide +kernel
theorem dX12_widens_50 : decode cX12_widens 50 = .ok (.iload_n 2, 1) := by decide +kernel
theorem dX12_widens_51 : decode cX12_widens 51 = .ok (.iload_n 3, 1) := by decide +kernel
theorem dX12_widens_52 : decode cX12_widens 52 = .ok (.invokestatic 104, 3) := by decide +kernel
theorem dX12_widens_55 : decode cX12_widens 55 = .ok (.bipush 10, 2) := by decide +kernel
theorem dX12_widens_57 : decode cX12_widens 57 = .ok (.iadd, 1) := by decide +kernel
theorem dX12_widens_58 : decode cX12_widens 58 = .ok (.idiv, 1) := by decide +kernel
theorem dX12_widens_59 : decode cX12_widens 59 = .ok (.istore 6, 2) := by decide +kernel
theorem dX12_widens_61 : decode cX12_widens 61 = .ok (.iload 4, 2) := by decide +kernel
theorem dX12_widens_63 : decode cX12_widens 63 = .ok (.iconst 3, 1) := by decide +kernel
theorem dX12_widens_64 : decode cX12_widens 64 = .ok (.if_icmp .eq 9, 3) := by decide +kernel
theorem dX12_widens_67 : decode cX12_widens 67 = .ok (.iload 4, 2) := by decide +kernel
theorem dX12_widens_69 : decode cX12_widens 69 = .ok (.iconst 4, 1) := by decide +kernel
theorem dX12_widens_70 : decode cX12_widens 70 = .ok (.if_icmp .ne 7, 3) := by decide +kernel
theorem dX12_widens_73 : decode cX12_widens 73 = .ok (.iconst 1, 1) := by decide +kernel
theorem dX12_widens_74 : decode cX12_widens 74 = .ok (.goto 4, 3) := by decide +kernel
theorem dX12_widens_77 : decode cX12_widens 77 = .ok (.iconst 0, 1) := by decide +kernel
theorem dX12_widens_78 : decode cX12_widens 78 = .ok (.istore 7, 2) := by decide +kernel
theorem dX12_widens_80 : decode cX12_widens 80 = .ok (.iload 4, 2) := by decide +kernel
theorem dX12_widens_82 : decode cX12_widens 82 = .ok (.iconst 5, 1) := by decide +kernel
theorem dX12_widens_83 : decode cX12_widens 83 = .ok (.if_icmp .eq 26, 3) := by decide +kernel
theorem dX12_widens_86 : decode cX12_widens 86 = .ok (.iload 4, 2) := by decide +kernel
theorem dX12_widens_88 : decode cX12_widens 88 = .ok (.bipush 6, 2) := by decide +kernel
theorem dX12_widens_90 : decode cX12_widens 90 = .ok (.if_icmp .eq 19, 3) := by decide +kernel
theorem dX12_widens_93 : decode cX12_widens 93 = .ok (.aload_n 0, 1) := by decide +kernel
theorem dX12_widens_94 : decode cX12_widens 94 = .ok (.iload_n 2, 1) := by decide +kernel
theorem dX12_widens_95 : decode cX12_widens 95 = .ok (.iload_n 3, 1) := by decide +kernel
theorem dX12_widens_96 : decode cX12_widens 96 = .ok (.invokestatic 107, 3) := by decide +kernel
theorem dX12_widens_99 : decode cX12_widens 99 = .ok (.ifCond .eq 10, 3) := by decide +kernel
theorem dX12_widens_102 : decode cX12_widens 102 = .ok (.iload 5, 2) := by decide +kernel
theorem dX12_widens_104 : decode cX12_widens 104 = .ok (.iload 7, 2) := by decide +kernel
theorem dX12_widens_106 : decode cX12_widens 106 = .ok (.if_icmp .ne 5, 3) := by decide +kernel
theorem dX12_widens_109 : decode cX12_widens 109 = .ok (.iconst 0, 1) := by decide +kernel
theorem dX12_widens_110 : decode cX12_widens 110 = .ok (.ireturn, 1) := by decide +kernel
theorem dX12_widens_111 : decode cX12_widens 111 = .ok (.iload 7, 2) := by decide +kernel
theorem dX12_widens_113 : decode cX12_widens 113 = .ok (.ifCond .eq 6, 3) := by decide +kernel
theorem dX12_widens_116 : decode cX12_widens 116 = .ok (.iload 6, 2) := by decide +kernel
theorem dX12_widens_118 : decode cX12_widens 118 = .ok (.ireturn, 1) := by decide +kernel
theorem dX12_widens_119 : decode cX12_widens 119 = .ok (.aload_n 0, 1) := by decide +kernel
theorem dX12_widens_120 : decode cX12_widens 120 = .ok (.iload_n 2, 1) := by decide +kernel
theorem dX12_widens_121 : decode cX12_widens 121 = .ok (.iload_n 3, 1) := by decide +kernel
theorem dX12_widens_122 : decode cX12_widens 122 = .ok (.invokestatic 111, 3) := by decide +kernel
theorem dX12_widens_125 : decode cX12_widens 125 = .ok (.ifCond .eq 9, 3) := by decide +kernel
theorem dX12_widens_128 : decode cX12_widens 128 = .ok (.iload 6, 2) := by decide +kernel
theorem dX12_widens_130 : decode cX12_widens 130 = .ok (.ineg, 1) := by decide +kernel
theorem dX12_widens_131 : decode cX12_widens 131 = .ok (.goto 5, 3) := by decide +kernel
theorem dX12_widens_134 : decode cX12_widens 134 = .ok (.iload 6, 2) := by decide +kernel
theorem dX12_widens_136 : decode cX12_widens 136 = .ok (.istore 6, 2) := by decide +kernel
theorem dX12_widens_138 : decode cX12_widens 138 = .ok (.iload 4, 2) := by decide +kernel
theorem dX12_widens_140 : decode cX12_widens 140 = .ok (.iconst 1, 1) := by decide +kernel
theorem dX12_widens_141 : decode cX12_widens 141 = .ok (.if_icmp .ne 32, 3) := by decide +kernel
theorem dX12_widens_144 : decode cX12_widens 144 = .ok (.aload_n 0, 1) := by decide +kernel
theorem dX12_widens_145 : decode cX12_widens 145 = .ok (.iload_n 2, 1) := by decide +kernel
theorem dX12_widens_146 : decode cX12_widens 146 = .ok (.iload_n 3, 1) := by decide +kernel
theorem dX12_widens_147 : decode cX12_widens 147 = .ok (.invokestatic 104, 3) := by decide +kernel
theorem dX12_widens_150 : decode cX12_widens 150 = .ok (.aload_n 0, 1) := by decide +kernel
theorem dX12_widens_151 : decode cX12_widens 151 = .ok (.iload_n 2, 1) := by decide +kernel
theorem dX12_widens_152 : decode cX12_widens 152 = .ok (.iconst 5, 1) := by decide +kernel
theorem dX12_widens_153 : decode cX12_widens 153 = .ok (.invokestatic 73, 3) := by decide +kernel
theorem dX12_widens_156 : decode cX12_widens 156 = .ok (.aload_n 0, 1) := by decide +kernel
theorem dX12_widens_157 : decode cX12_widens 157 = .ok (.iload_n 3, 1) := by decide +kernel
theorem dX12_widens_158 : decode cX12_widens 158 = .ok (.iconst 5, 1) := by decide +kernel
theorem dX12_widens_159 : decode cX12_widens 159 = .ok (.invokestatic 73, 3) := by decide +kernel
theorem dX12_widens_162 : decode cX12_widens 162 = .ok (.iadd, 1) := by decide +kernel
theorem dX12_widens_163 : decode cX12_widens 163 = .ok (.if_icmp .ge 10, 3) := by decide +kernel
theorem dX12_widens_166 : decode cX12_widens 166 = .ok (.iconst 2, 1) := by decide +kernel
theorem dX12_widens_167 : decode cX12_widens 167 = .ok (.iload 6, 2) := by decide +kernel
theorem dX12_widens_169 : decode cX12_widens 169 = .ok (.imul, 1) := by decide +kernel
theorem dX12_widens_170 : decode cX12_widens 170 = .ok (.goto 5, 3) := by decide +kernel
theorem dX12_widens_173 : decode cX12_widens 173 = .ok (.iload 6, 2) := by decide +kernel
theorem dX12_widens_175 : decode cX12_widens 175 = .ok (.ireturn, 1) := by decide +kernel
theorem dX12_spreads_0 : decode cX12_spreads 0 = .ok (.aload_n 0, 1) := by decide +kernel
theorem dX12_spreads_1 : decode cX12_spreads 1 = .ok (.bipush 20, 2) := by decide +kernel
theorem dX12_spreads_3 : decode cX12_spreads 3 = .ok (.iconst 2, 1) := by decide +kernel
theorem dX12_spreads_4 : decode cX12_spreads 4 = .ok (.iload_n 1, 1) := by decide +kernel
theorem dX12_spreads_5 : decode cX12_spreads 5 = .ok (.imul, 1) := by decide +kernel
theorem dX12_spreads_6 : decode cX12_spreads 6 = .ok (.iadd, 1) := by decide +kernel
theorem dX12_spreads_7 : decode cX12_spreads 7 = .ok (.iaload, 1) := by decide +kernel
theorem dX12_spreads_8 : decode cX12_spreads 8 = .ok (.istore_n 3, 1) := by decide +kernel
theorem dX12_spreads_9 : decode cX12_spreads 9 = .ok (.aload_n 0, 1) := by decide +kernel
theorem dX12_spreads_10 : decode cX12_spreads 10 = .ok (.iconst 4, 1) := by decide +kernel
theorem dX12_spreads_11 : decode cX12_spreads 11 = .ok (.iaload, 1) := by decide +kernel
theorem dX12_spreads_12 : decode cX12_spreads 12 = .ok (.aload_n 0, 1) := by decide +kernel
theorem dX12_spreads_13 : decode cX12_spreads 13 = .ok (.iload_n 2, 1) := by decide +kernel
theorem dX12_spreads_14 : decode cX12_spreads 14 = .ok (.iconst 0, 1) := by decide +kernel
theorem dX12_spreads_15 : decode cX12_spreads 15 = .ok (.invokestatic 73, 3) := by decide +kernel
theorem dX12_spreads_18 : decode cX12_spreads 18 = .ok (.invokestatic 100, 3) := by decide +kernel
theorem dX12_spreads_21 : decode cX12_spreads 21 = .ok (.istore 4, 2) := by decide +kernel
theorem dX12_spreads_23 : decode cX12_spreads 23 = .ok (.iload_n 3, 1) := by decide +kernel
theorem dX12_spreads_24 : decode cX12_spreads 24 = .ok (.iconst 5, 1) := by decide +kernel
theorem dX12_spreads_25 : decode cX12_spreads 25 = .ok (.if_icmp .eq 9, 3) := by decide +kernel
theorem dX12_spreads_28 : decode cX12_spreads 28 = .ok (.iload_n 3, 1) := by decide +kernel
theorem dX12_spreads_29 : decode cX12_spreads 29 = .ok (.bipush 6, 2) := by decide +kernel
theorem dX12_spreads_31 : decode cX12_spreads 31 = .ok (.if_icmp .ne 10, 3) := by decide +kernel
theorem dX12_spreads_34 : decode cX12_spreads 34 = .ok (.iload 4, 2) := by decide +kernel
theorem dX12_spreads_36 : decode cX12_spreads 36 = .ok (.bipush 100, 2) := by decide +kernel
theorem dX12_spreads_38 : decode cX12_spreads 38 = .ok (.if_icmp .lt 5, 3) := by decide +kernel
theorem dX12_spreads_41 : decode cX12_spreads 41 = .ok (.iconst 0, 1) := by decide +kernel
theorem dX12_spreads_42 : decode cX12_spreads 42 = .ok (.ireturn, 1) := by decide +kernel
theorem dX12_spreads_43 : decode cX12_spreads 43 = .ok (.aload_n 0, 1) := by decide +kernel
theorem dX12_spreads_44 : decode cX12_spreads 44 = .ok (.bipush 20, 2) := by decide +kernel
theorem dX12_spreads_46 : decode cX12_spreads 46 = .ok (.iconst 2, 1) := by decide +kernel
theorem dX12_spreads_47 : decode cX12_spreads 47 = .ok (.iload_n 1, 1) := by decide +kernel
theorem dX12_spreads_48 : decode cX12_spreads 48 = .ok (.imul, 1) := by decide +kernel
theorem dX12_spreads_49 : decode cX12_spreads 49 = .ok (.iadd, 1) := by decide +kernel
theorem dX12_spreads_50 : decode cX12_spreads 50 = .ok (.iconst 1, 1) := by decide +kernel
theorem dX12_spreads_51 : decode cX12_spreads 51 = .ok (.iadd, 1) := by decide +kernel
theorem dX12_spreads_52 : decode cX12_spreads 52 = .ok (.iaload, 1) := by decide +kernel
theorem dX12_spreads_53 : decode cX12_spreads 53 = .ok (.aload_n 0, 1) := by decide +kernel
theorem dX12_spreads_54 : decode cX12_spreads 54 = .ok (.iload_n 2, 1) := by decide +kernel
theorem dX12_spreads_55 : decode cX12_spreads 55 = .ok (.iconst 3, 1) := by decide +kernel
theorem dX12_spreads_56 : decode cX12_spreads 56 = .ok (.invokestatic 73, 3) := by decide +kernel
theorem dX12_spreads_59 : decode cX12_spreads 59 = .ok (.imul, 1) := by decide +kernel
theorem dX12_spreads_60 : decode cX12_spreads 60 = .ok (.iload 4, 2) := by decide +kernel
theorem dX12_spreads_62 : decode cX12_spreads 62 = .ok (.bipush 10, 2) := by decide +kernel
theorem dX12_spreads_64 : decode cX12_spreads 64 = .ok (.iadd, 1) := by decide +kernel
theorem dX12_spreads_65 : decode cX12_spreads 65 = .ok (.idiv, 1) := by decide +kernel
theorem dX12_spreads_66 : decode cX12_spreads 66 = .ok (.istore 5, 2) := by decide +kernel
theorem dX12_spreads_68 : decode cX12_spreads 68 = .ok (.iload_n 3, 1) := by decide +kernel
theorem dX12_spreads_69 : decode cX12_spreads 69 = .ok (.bipush 6, 2) := by decide +kernel
theorem dX12_spreads_71 : decode cX12_spreads 71 = .ok (.if_icmp .ne 10, 3) := by decide +kernel
theorem dX12_spreads_74 : decode cX12_spreads 74 = .ok (.iload 5, 2) := by decide +kernel
theorem dX12_spreads_76 : decode cX12_spreads 76 = .ok (.iconst 2, 1) := by decide +kernel
theorem dX12_spreads_77 : decode cX12_spreads 77 = .ok (.idiv, 1) := by decide +kernel
theorem dX12_spreads_78 : decode cX12_spreads 78 = .ok (.goto 5, 3) := by decide +kernel
theorem dX12_spreads_81 : decode cX12_spreads 81 = .ok (.iload 5, 2) := by decide +kernel
theorem dX12_spreads_83 : decode cX12_spreads 83 = .ok (.ireturn, 1) := by decide +kernel
theorem dX12_lifts_0 : decode cX12_lifts 0 = .ok (.aload_n 0, 1) := by decide +kernel
theorem dX12_lifts_1 : decode cX12_lifts 1 = .ok (.bipush 20, 2) := by decide +kernel
theorem dX12_lifts_3 : decode cX12_lifts 3 = .ok (.iconst 2, 1) := by decide +kernel
theorem dX12_lifts_4 : decode cX12_lifts 4 = .ok (.iload_n 1, 1) := by decide +kernel
theorem dX12_lifts_5 : decode cX12_lifts 5 = .ok (.imul, 1) := by decide +kernel
theorem dX12_lifts_6 : decode cX12_lifts 6 = .ok (.iadd, 1) := by decide +kernel
theorem dX12_lifts_7 : decode cX12_lifts 7 = .ok (.iaload, 1) := by decide +kernel
theorem dX12_lifts_8 : decode cX12_lifts 8 = .ok (.bipush 6, 2) := by decide +kernel
theorem dX12_lifts_10 : decode cX12_lifts 10 = .ok (.if_icmp .ne 12, 3) := by decide +kernel
theorem dX12_lifts_13 : decode cX12_lifts 13 = .ok (.aload_n 0, 1) := by decide +kernel
theorem dX12_lifts_14 : decode cX12_lifts 14 = .ok (.iload_n 1, 1) := by decide +kernel
theorem dX12_lifts_15 : decode cX12_lifts 15 = .ok (.iload_n 2, 1) := by decide +kernel
theorem dX12_lifts_16 : decode cX12_lifts 16 = .ok (.invokestatic 114, 3) := by decide +kernel
theorem dX12_lifts_19 : decode cX12_lifts 19 = .ok (.goto 4, 3) := by decide +kernel
theorem dX12_lifts_22 : decode cX12_lifts 22 = .ok (.iconst 0, 1) := by decide +kernel
theorem dX12_lifts_23 : decode cX12_lifts 23 = .ok (.ireturn, 1) := by decide +kernel
theorem dX12_doesEnd_0 : decode cX12_doesEnd 0 = .ok (.aload_n 0, 1) := by decide +kernel
theorem dX12_doesEnd_1 : decode cX12_doesEnd 1 = .ok (.bipush 20, 2) := by decide +kernel
theorem dX12_doesEnd_3 : decode cX12_doesEnd 3 = .ok (.iconst 2, 1) := by decide +kernel
theorem dX12_doesEnd_4 : decode cX12_doesEnd 4 = .ok (.iload_n 1, 1) := by decide +kernel
theorem dX12_doesEnd_5 : decode cX12_doesEnd 5 = .ok (.imul, 1) := by decide +kernel
theorem dX12_doesEnd_6 : decode cX12_doesEnd 6 = .ok (.iadd, 1) := by decide +kernel
theorem dX12_doesEnd_7 : decode cX12_doesEnd 7 = .ok (.iaload, 1) := by decide +kernel
theorem dX12_doesEnd_8 : decode cX12_doesEnd 8 = .ok (.lookupswitch 98 #[(2, 28), (4, 71)], 28) := by decide +kernel
theorem dX12_doesEnd_36 : decode cX12_doesEnd 36 = .ok (.aload_n 0, 1) := by decide +kernel
theorem dX12_doesEnd_37 : decode cX12_doesEnd 37 = .ok (.iload_n 2, 1) := by decide +kernel
theorem dX12_doesEnd_38 : decode cX12_doesEnd 38 = .ok (.iload_n 3, 1) := by decide +kernel
theorem dX12_doesEnd_39 : decode cX12_doesEnd 39 = .ok (.invokestatic 107, 3) := by decide +kernel
theorem dX12_doesEnd_42 : decode cX12_doesEnd 42 = .ok (.ifCond .eq 35, 3) := by decide +kernel
theorem dX12_doesEnd_45 : decode cX12_doesEnd 45 = .ok (.aload_n 0, 1) := by decide +kernel
theorem dX12_doesEnd_46 : decode cX12_doesEnd 46 = .ok (.iload_n 2, 1) := by decide +kernel
theorem dX12_doesEnd_47 : decode cX12_doesEnd 47 = .ok (.iload_n 3, 1) := by decide +kernel
theorem dX12_doesEnd_48 : decode cX12_doesEnd 48 = .ok (.invokestatic 104, 3) := by decide +kernel
theorem dX12_doesEnd_51 : decode cX12_doesEnd 51 = .ok (.aload_n 0, 1) := by decide +kernel
theorem dX12_doesEnd_52 : decode cX12_doesEnd 52 = .ok (.bipush 20, 2) := by decide +kernel
theorem dX12_doesEnd_54 : decode cX12_doesEnd 54 = .ok (.iconst 2, 1) := by decide +kernel
theorem dX12_doesEnd_55 : decode cX12_doesEnd 55 = .ok (.iload_n 1, 1) := by decide +kernel
theorem dX12_doesEnd_56 : decode cX12_doesEnd 56 = .ok (.imul, 1) := by decide +kernel
theorem dX12_doesEnd_57 : decode cX12_doesEnd 57 = .ok (.iadd, 1) := by decide +kernel
theorem dX12_doesEnd_58 : decode cX12_doesEnd 58 = .ok (.iconst 1, 1) := by decide +kernel
theorem dX12_doesEnd_59 : decode cX12_doesEnd 59 = .ok (.iadd, 1) := by decide +kernel
theorem dX12_doesEnd_60 : decode cX12_doesEnd 60 = .ok (.iaload, 1) := by decide +kernel
theorem dX12_doesEnd_61 : decode cX12_doesEnd 61 = .ok (.if_icmp .gt 16, 3) := by decide +kernel
theorem dX12_doesEnd_64 : decode cX12_doesEnd 64 = .ok (.aload_n 0, 1) := by decide +kernel
theorem dX12_doesEnd_65 : decode cX12_doesEnd 65 = .ok (.iload_n 2, 1) := by decide +kernel
theorem dX12_doesEnd_66 : decode cX12_doesEnd 66 = .ok (.iload_n 3, 1) := by decide +kernel
theorem dX12_doesEnd_67 : decode cX12_doesEnd 67 = .ok (.invokestatic 111, 3) := by decide +kernel
theorem dX12_doesEnd_70 : decode cX12_doesEnd 70 = .ok (.ifCond .eq 7, 3) := by decide +kernel
theorem dX12_doesEnd_73 : decode cX12_doesEnd 73 = .ok (.iconst 1, 1) := by decide +kernel
theorem dX12_doesEnd_74 : decode cX12_doesEnd 74 = .ok (.goto 4, 3) := by decide +kernel
theorem dX12_doesEnd_77 : decode cX12_doesEnd 77 = .ok (.iconst 0, 1) := by decide +kernel
theorem dX12_doesEnd_78 : decode cX12_doesEnd 78 = .ok (.ireturn, 1) := by decide +kernel
theorem dX12_doesEnd_79 : decode cX12_doesEnd 79 = .ok (.aload_n 0, 1) := by decide +kernel
theorem dX12_doesEnd_80 : decode cX12_doesEnd 80 = .ok (.iload_n 2, 1) := by decide +kernel
theorem dX12_doesEnd_81 : decode cX12_doesEnd 81 = .ok (.iconst 4, 1) := by decide +kernel
theorem dX12_doesEnd_82 : decode cX12_doesEnd 82 = .ok (.invokestatic 73, 3) := by decide +kernel
theorem dX12_doesEnd_85 : decode cX12_doesEnd 85 = .ok (.sipush 150, 3) := by decide +kernel
theorem dX12_doesEnd_88 : decode cX12_doesEnd 88 = .ok (.if_icmp .lt 16, 3) := by decide +kernel
theorem dX12_doesEnd_91 : decode cX12_doesEnd 91 = .ok (.aload_n 0, 1) := by decide +kernel
theorem dX12_doesEnd_92 : decode cX12_doesEnd 92 = .ok (.iload_n 2, 1) := by decide +kernel
theorem dX12_doesEnd_93 : decode cX12_doesEnd 93 = .ok (.iload_n 3, 1) := by decide +kernel
theorem dX12_doesEnd_94 : decode cX12_doesEnd 94 = .ok (.invokestatic 107, 3) := by decide +kernel
theorem dX12_doesEnd_97 : decode cX12_doesEnd 97 = .ok (.ifCond .eq 7, 3) := by decide +kernel
theorem dX12_doesEnd_100 : decode cX12_doesEnd 100 = .ok (.iconst 1, 1) := by decide +kernel
theorem dX12_doesEnd_101 : decode cX12_doesEnd 101 = .ok (.goto 4, 3) := by decide +kernel
theorem dX12_doesEnd_104 : decode cX12_doesEnd 104 = .ok (.iconst 0, 1) := by decide +kernel
theorem dX12_doesEnd_105 : decode cX12_doesEnd 105 = .ok (.ireturn, 1) := by decide +kernel
theorem dX12_doesEnd_106 : decode cX12_doesEnd 106 = .ok (.iconst 0, 1) := by decide +kernel
theorem dX12_doesEnd_107 : decode cX12_doesEnd 107 = .ok (.ireturn, 1) := by decide +kernel
theorem dX12_does_0 : decode cX12_does 0 = .ok (.aload_n 0, 1) := by decide +kernel
theorem dX12_does_1 : decode cX12_does 1 = .ok (.iload_n 1, 1) := by decide +kernel
theorem dX12_does_2 : decode cX12_does 2 = .ok (.invokevirtual 91, 3) := by decide +kernel
theorem dX12_does_5 : decode cX12_does 5 = .ok (.ifCond .eq 43, 3) := by decide +kernel
theorem dX12_does_8 : decode cX12_does 8 = .ok (.aload_n 0, 1) := by decide +kernel
theorem dX12_does_9 : decode cX12_does 9 = .ok (.iload_n 2, 1) := by decide +kernel
theorem dX12_does_10 : decode cX12_does 10 = .ok (.invokevirtual 77, 3) := by decide +kernel
theorem dX12_does_13 : decode cX12_does 13 = .ok (.ifCond .eq 35, 3) := by decide +kernel
theorem dX12_does_16 : decode cX12_does 16 = .ok (.iload 4, 2) := by decide +kernel
theorem dX12_does_18 : decode cX12_does 18 = .ok (.i2l, 1) := by decide +kernel
theorem dX12_does_19 : decode cX12_does 19 = .ok (.lconst 0, 1) := by decide +kernel
theorem dX12_does_20 : decode cX12_does 20 = .ok (.ldc2_w 117, 3) := by decide +kernel
theorem dX12_does_23 : decode cX12_does 23 = .ok (.invokestatic 48, 3) := by decide +kernel
theorem dX12_does_26 : decode cX12_does 26 = .ok (.ifCond .eq 22, 3) := by decide +kernel
theorem dX12_does_29 : decode cX12_does 29 = .ok (.iload 4, 2) := by decide +kernel
theorem dX12_does_31 : decode cX12_does 31 = .ok (.iconst 2, 1) := by decide +kernel
theorem dX12_does_32 : decode cX12_does 32 = .ok (.if_icmp .ge 22, 3) := by decide +kernel
theorem dX12_does_35 : decode cX12_does 35 = .ok (.aload_n 0, 1) := by decide +kernel
theorem dX12_does_36 : decode cX12_does 36 = .ok (.iload_n 3, 1) := by decide +kernel
theorem dX12_does_37 : decode cX12_does 37 = .ok (.invokevirtual 77, 3) := by decide +kernel
theorem dX12_does_40 : decode cX12_does 40 = .ok (.ifCond .eq 8, 3) := by decide +kernel
theorem dX12_does_43 : decode cX12_does 43 = .ok (.iload_n 3, 1) := by decide +kernel
theorem dX12_does_44 : decode cX12_does 44 = .ok (.iload_n 2, 1) := by decide +kernel
theorem dX12_does_45 : decode cX12_does 45 = .ok (.if_icmp .ne 9, 3) := by decide +kernel
theorem dX12_does_48 : decode cX12_does 48 = .ok (.aload_n 0, 1) := by decide +kernel
theorem dX12_does_49 : decode cX12_does 49 = .ok (.iconst 1, 1) := by decide +kernel
theorem dX12_does_50 : decode cX12_does 50 = .ok (.invokevirtual 65, 3) := by decide +kernel
theorem dX12_does_53 : decode cX12_does 53 = .ok (.ireturn, 1) := by decide +kernel
theorem dX12_does_54 : decode cX12_does 54 = .ok (.iload 4, 2) := by decide +kernel
theorem dX12_does_56 : decode cX12_does 56 = .ok (.tableswitch 68 0 2 #[28, 39, 58], 28) := by decide +kernel
theorem dX12_does_84 : decode cX12_does 84 = .ok (.aload_n 0, 1) := by decide +kernel
theorem dX12_does_85 : decode cX12_does 85 = .ok (.getfield 7, 3) := by decide +kernel
theorem dX12_does_88 : decode cX12_does 88 = .ok (.iload_n 1, 1) := by decide +kernel
theorem dX12_does_89 : decode cX12_does 89 = .ok (.iload_n 2, 1) := by decide +kernel
theorem dX12_does_90 : decode cX12_does 90 = .ok (.iload_n 3, 1) := by decide +kernel
theorem dX12_does_91 : decode cX12_does 91 = .ok (.invokestatic 119, 3) := by decide +kernel
theorem dX12_does_94 : decode cX12_does 94 = .ok (.ireturn, 1) := by decide +kernel
theorem dX12_does_95 : decode cX12_does 95 = .ok (.aload_n 0, 1) := by decide +kernel
theorem dX12_does_96 : decode cX12_does 96 = .ok (.getfield 7, 3) := by decide +kernel
theorem dX12_does_99 : decode cX12_does 99 = .ok (.iload_n 1, 1) := by decide +kernel
theorem dX12_does_100 : decode cX12_does 100 = .ok (.iload_n 2, 1) := by decide +kernel
theorem dX12_does_101 : decode cX12_does 101 = .ok (.iload_n 3, 1) := by decide +kernel
theorem dX12_does_102 : decode cX12_does 102 = .ok (.invokestatic 123, 3) := by decide +kernel
theorem dX12_does_105 : decode cX12_does 105 = .ok (.ifCond .eq 7, 3) := by decide +kernel
theorem dX12_does_108 : decode cX12_does 108 = .ok (.iconst 1, 1) := by decide +kernel
theorem dX12_does_109 : decode cX12_does 109 = .ok (.goto 4, 3) := by decide +kernel
theorem dX12_does_112 : decode cX12_does 112 = .ok (.iconst 0, 1) := by decide +kernel
theorem dX12_does_113 : decode cX12_does 113 = .ok (.ireturn, 1) := by decide +kernel
theorem dX12_does_114 : decode cX12_does 114 = .ok (.aload_n 0, 1) := by decide +kernel
theorem dX12_does_115 : decode cX12_does 115 = .ok (.getfield 7, 3) := by decide +kernel
theorem dX12_does_118 : decode cX12_does 118 = .ok (.iload_n 1, 1) := by decide +kernel
theorem dX12_does_119 : decode cX12_does 119 = .ok (.iload_n 2, 1) := by decide +kernel
theorem dX12_does_120 : decode cX12_does 120 = .ok (.invokestatic 114, 3) := by decide +kernel
theorem dX12_does_123 : decode cX12_does 123 = .ok (.ireturn, 1) := by decide +kernel
theorem dX12_does_124 : decode cX12_does 124 = .ok (.aload_n 0, 1) := by decide +kernel
theorem dX12_does_125 : decode cX12_does 125 = .ok (.getfield 7, 3) := by decide +kernel
theorem dX12_does_128 : decode cX12_does 128 = .ok (.iload_n 1, 1) := by decide +kernel
theorem dX12_does_129 : decode cX12_does 129 = .ok (.iload_n 2, 1) := by decide +kernel
theorem dX12_does_130 : decode cX12_does 130 = .ok (.invokestatic 127, 3) := by decide +kernel
theorem dX12_does_133 : decode cX12_does 133 = .ok (.ireturn, 1) := by decide +kernel
theorem dX12_pair_0 : decode cX12_pair 0 = .ok (.aload_n 0, 1) := by decide +kernel
theorem dX12_pair_1 : decode cX12_pair 1 = .ok (.iload_n 1, 1) := by decide +kernel
theorem dX12_pair_2 : decode cX12_pair 2 = .ok (.invokevirtual 77, 3) := by decide +kernel
theorem dX12_pair_5 : decode cX12_pair 5 = .ok (.ifCond .eq 28, 3) := by decide +kernel
theorem dX12_pair_8 : decode cX12_pair 8 = .ok (.aload_n 0, 1) := by decide +kernel
theorem dX12_pair_9 : decode cX12_pair 9 = .ok (.iload_n 2, 1) := by decide +kernel
theorem dX12_pair_10 : decode cX12_pair 10 = .ok (.invokevirtual 77, 3) := by decide +kernel
theorem dX12_pair_13 : decode cX12_pair 13 = .ok (.ifCond .eq 20, 3) := by decide +kernel
theorem dX12_pair_16 : decode cX12_pair 16 = .ok (.iload_n 1, 1) := by decide +kernel
theorem dX12_pair_17 : decode cX12_pair 17 = .ok (.iload_n 2, 1) := by decide +kernel
theorem dX12_pair_18 : decode cX12_pair 18 = .ok (.if_icmp .eq 15, 3) := by decide +kernel
theorem dX12_pair_21 : decode cX12_pair 21 = .ok (.iload_n 3, 1) := by decide +kernel
theorem dX12_pair_22 : decode cX12_pair 22 = .ok (.i2l, 1) := by decide +kernel
theorem dX12_pair_23 : decode cX12_pair 23 = .ok (.lconst 0, 1) := by decide +kernel
theorem dX12_pair_24 : decode cX12_pair 24 = .ok (.ldc2_w 94, 3) := by decide +kernel
theorem dX12_pair_27 : decode cX12_pair 27 = .ok (.invokestatic 48, 3) := by decide +kernel
theorem dX12_pair_30 : decode cX12_pair 30 = .ok (.ifCond .ne 9, 3) := by decide +kernel
theorem dX12_pair_33 : decode cX12_pair 33 = .ok (.aload_n 0, 1) := by decide +kernel
theorem dX12_pair_34 : decode cX12_pair 34 = .ok (.iconst 1, 1) := by decide +kernel
theorem dX12_pair_35 : decode cX12_pair 35 = .ok (.invokevirtual 65, 3) := by decide +kernel
theorem dX12_pair_38 : decode cX12_pair 38 = .ok (.ireturn, 1) := by decide +kernel
theorem dX12_pair_39 : decode cX12_pair 39 = .ok (.iload_n 3, 1) := by decide +kernel
theorem dX12_pair_40 : decode cX12_pair 40 = .ok (.ifCond .ne 15, 3) := by decide +kernel
theorem dX12_pair_43 : decode cX12_pair 43 = .ok (.aload_n 0, 1) := by decide +kernel
theorem dX12_pair_44 : decode cX12_pair 44 = .ok (.getfield 7, 3) := by decide +kernel
theorem dX12_pair_47 : decode cX12_pair 47 = .ok (.iload_n 1, 1) := by decide +kernel
theorem dX12_pair_48 : decode cX12_pair 48 = .ok (.iload_n 2, 1) := by decide +kernel
theorem dX12_pair_49 : decode cX12_pair 49 = .ok (.invokestatic 104, 3) := by decide +kernel
theorem dX12_pair_52 : decode cX12_pair 52 = .ok (.goto 40, 3) := by decide +kernel
theorem dX12_pair_55 : decode cX12_pair 55 = .ok (.iload_n 3, 1) := by decide +kernel
theorem dX12_pair_56 : decode cX12_pair 56 = .ok (.iconst 1, 1) := by decide +kernel
theorem dX12_pair_57 : decode cX12_pair 57 = .ok (.if_icmp .ne 18, 3) := by decide +kernel
theorem dX12_pair_60 : decode cX12_pair 60 = .ok (.aload_n 0, 1) := by decide +kernel
theorem dX12_pair_61 : decode cX12_pair 61 = .ok (.getfield 7, 3) := by decide +kernel
theorem dX12_pair_64 : decode cX12_pair 64 = .ok (.iload_n 1, 1) := by decide +kernel
theorem dX12_pair_65 : decode cX12_pair 65 = .ok (.iload_n 2, 1) := by decide +kernel
theorem dX12_pair_66 : decode cX12_pair 66 = .ok (.invokestatic 107, 3) := by decide +kernel
theorem dX12_pair_69 : decode cX12_pair 69 = .ok (.ifCond .eq 22, 3) := by decide +kernel
theorem dX12_pair_72 : decode cX12_pair 72 = .ok (.goto 15, 3) := by decide +kernel
theorem dX12_pair_75 : decode cX12_pair 75 = .ok (.aload_n 0, 1) := by decide +kernel
theorem dX12_pair_76 : decode cX12_pair 76 = .ok (.getfield 7, 3) := by decide +kernel
theorem dX12_pair_79 : decode cX12_pair 79 = .ok (.iload_n 1, 1) := by decide +kernel
theorem dX12_pair_80 : decode cX12_pair 80 = .ok (.iload_n 2, 1) := by decide +kernel
theorem dX12_pair_81 : decode cX12_pair 81 = .ok (.invokestatic 111, 3) := by decide +kernel
theorem dX12_pair_84 : decode cX12_pair 84 = .ok (.ifCond .eq 7, 3) := by decide +kernel
theorem dX12_pair_87 : decode cX12_pair 87 = .ok (.iconst 1, 1) := by decide +kernel
theorem dX12_pair_88 : decode cX12_pair 88 = .ok (.goto 4, 3) := by decide +kernel
theorem dX12_pair_91 : decode cX12_pair 91 = .ok (.iconst 0, 1) := by decide +kernel
theorem dX12_pair_92 : decode cX12_pair 92 = .ok (.ireturn, 1) := by decide +kernel
theorem dX12_here_0 : decode cX12_here 0 = .ok (.aload_n 0, 1) := by decide +kernel
theorem dX12_here_1 : decode cX12_here 1 = .ok (.getfield 130, 3) := by decide +kernel
theorem dX12_here_4 : decode cX12_here 4 = .ok (.aload_n 0, 1) := by decide +kernel
theorem dX12_here_5 : decode cX12_here 5 = .ok (.getfield 134, 3) := by decide +kernel
theorem dX12_here_8 : decode cX12_here 8 = .ok (.if_icmp .ge 27, 3) := by decide +kernel
theorem dX12_here_11 : decode cX12_here 11 = .ok (.aload_n 0, 1) := by decide +kernel
theorem dX12_here_12 : decode cX12_here 12 = .ok (.getfield 137, 3) := by decide +kernel
theorem dX12_here_15 : decode cX12_here 15 = .ok (.ifCond .ge 20, 3) := by decide +kernel
theorem dX12_here_18 : decode cX12_here 18 = .ok (.aload_n 0, 1) := by decide +kernel
theorem dX12_here_19 : decode cX12_here 19 = .ok (.getfield 7, 3) := by decide +kernel
theorem dX12_here_22 : decode cX12_here 22 = .ok (.aload_n 0, 1) := by decide +kernel
theorem dX12_here_23 : decode cX12_here 23 = .ok (.getfield 140, 3) := by decide +kernel
theorem dX12_here_26 : decode cX12_here 26 = .ok (.aload_n 0, 1) := by decide +kernel
theorem dX12_here_27 : decode cX12_here 27 = .ok (.getfield 130, 3) := by decide +kernel
theorem dX12_here_30 : decode cX12_here 30 = .ok (.iadd, 1) := by decide +kernel
theorem dX12_here_31 : decode cX12_here 31 = .ok (.iaload, 1) := by decide +kernel
theorem dX12_here_32 : decode cX12_here 32 = .ok (.goto 4, 3) := by decide +kernel
theorem dX12_here_35 : decode cX12_here 35 = .ok (.iconst (-1), 1) := by decide +kernel
theorem dX12_here_36 : decode cX12_here 36 = .ok (.ireturn, 1) := by decide +kernel
theorem dX12_wrong_0 : decode cX12_wrong 0 = .ok (.aload_n 0, 1) := by decide +kernel
theorem dX12_wrong_1 : decode cX12_wrong 1 = .ok (.aload_n 0, 1) := by decide +kernel
theorem dX12_wrong_2 : decode cX12_wrong 2 = .ok (.getfield 137, 3) := by decide +kernel
theorem dX12_wrong_5 : decode cX12_wrong 5 = .ok (.ifCond .ge 10, 3) := by decide +kernel
theorem dX12_wrong_8 : decode cX12_wrong 8 = .ok (.aload_n 0, 1) := by decide +kernel
theorem dX12_wrong_9 : decode cX12_wrong 9 = .ok (.getfield 130, 3) := by decide +kernel
theorem dX12_wrong_12 : decode cX12_wrong 12 = .ok (.goto 7, 3) := by decide +kernel
theorem dX12_wrong_15 : decode cX12_wrong 15 = .ok (.aload_n 0, 1) := by decide +kernel
theorem dX12_wrong_16 : decode cX12_wrong 16 = .ok (.getfield 137, 3) := by decide +kernel
theorem dX12_wrong_19 : decode cX12_wrong 19 = .ok (.putfield 137, 3) := by decide +kernel
theorem dX12_wrong_22 : decode cX12_wrong 22 = .ok (.iconst 0, 1) := by decide +kernel
theorem dX12_wrong_23 : decode cX12_wrong 23 = .ok (.ireturn, 1) := by decide +kernel
theorem dX12_takes_0 : decode cX12_takes 0 = .ok (.aload_n 0, 1) := by decide +kernel
theorem dX12_takes_1 : decode cX12_takes 1 = .ok (.invokevirtual 143, 3) := by decide +kernel
theorem dX12_takes_4 : decode cX12_takes 4 = .ok (.iload_n 1, 1) := by decide +kernel
theorem dX12_takes_5 : decode cX12_takes 5 = .ok (.if_icmp .eq 5, 3) := by decide +kernel
theorem dX12_takes_8 : decode cX12_takes 8 = .ok (.iconst 0, 1) := by decide +kernel
theorem dX12_takes_9 : decode cX12_takes 9 = .ok (.ireturn, 1) := by decide +kernel
theorem dX12_takes_10 : decode cX12_takes 10 = .ok (.aload_n 0, 1) := by decide +kernel
theorem dX12_takes_11 : decode cX12_takes 11 = .ok (.dup, 1) := by decide +kernel
theorem dX12_takes_12 : decode cX12_takes 12 = .ok (.getfield 130, 3) := by decide +kernel
theorem dX12_takes_15 : decode cX12_takes 15 = .ok (.iconst 1, 1) := by decide +kernel
theorem dX12_takes_16 : decode cX12_takes 16 = .ok (.iadd, 1) := by decide +kernel
theorem dX12_takes_17 : decode cX12_takes 17 = .ok (.putfield 130, 3) := by decide +kernel
theorem dX12_takes_20 : decode cX12_takes 20 = .ok (.iconst 1, 1) := by decide +kernel
theorem dX12_takes_21 : decode cX12_takes 21 = .ok (.ireturn, 1) := by decide +kernel
theorem dX12_nameOf_0 : decode cX12_nameOf 0 = .ok (.aload_n 0, 1) := by decide +kernel
theorem dX12_nameOf_1 : decode cX12_nameOf 1 = .ok (.getfield 147, 3) := by decide +kernel
theorem dX12_nameOf_4 : decode cX12_nameOf 4 = .ok (.ifCond .eq 35, 3) := by decide +kernel
theorem dX12_nameOf_7 : decode cX12_nameOf 7 = .ok (.iload_n 1, 1) := by decide +kernel
theorem dX12_nameOf_8 : decode cX12_nameOf 8 = .ok (.bipush 108, 2) := by decide +kernel
theorem dX12_nameOf_10 : decode cX12_nameOf 10 = .ok (.if_icmp .ne 7, 3) := by decide +kernel
theorem dX12_nameOf_13 : decode cX12_nameOf 13 = .ok (.iconst 0, 1) := by decide +kernel
theorem dX12_nameOf_14 : decode cX12_nameOf 14 = .ok (.goto 24, 3) := by decide +kernel
theorem dX12_nameOf_17 : decode cX12_nameOf 17 = .ok (.iload_n 1, 1) := by decide +kernel
theorem dX12_nameOf_18 : decode cX12_nameOf 18 = .ok (.bipush 113, 2) := by decide +kernel
theorem dX12_nameOf_20 : decode cX12_nameOf 20 = .ok (.if_icmp .ne 7, 3) := by decide +kernel
theorem dX12_nameOf_23 : decode cX12_nameOf 23 = .ok (.iconst 1, 1) := by decide +kernel
theorem dX12_nameOf_24 : decode cX12_nameOf 24 = .ok (.goto 14, 3) := by decide +kernel
theorem dX12_nameOf_27 : decode cX12_nameOf 27 = .ok (.iload_n 1, 1) := by decide +kernel
theorem dX12_nameOf_28 : decode cX12_nameOf 28 = .ok (.bipush 104, 2) := by decide +kernel
theorem dX12_nameOf_30 : decode cX12_nameOf 30 = .ok (.if_icmp .ne 7, 3) := by decide +kernel
theorem dX12_nameOf_33 : decode cX12_nameOf 33 = .ok (.iconst 2, 1) := by decide +kernel
theorem dX12_nameOf_34 : decode cX12_nameOf 34 = .ok (.goto 4, 3) := by decide +kernel
theorem dX12_nameOf_37 : decode cX12_nameOf 37 = .ok (.iconst (-1), 1) := by decide +kernel
theorem dX12_nameOf_38 : decode cX12_nameOf 38 = .ok (.ireturn, 1) := by decide +kernel
theorem dX12_nameOf_39 : decode cX12_nameOf 39 = .ok (.iload_n 1, 1) := by decide +kernel
theorem dX12_nameOf_40 : decode cX12_nameOf 40 = .ok (.bipush 116, 2) := by decide +kernel
theorem dX12_nameOf_42 : decode cX12_nameOf 42 = .ok (.if_icmp .ne 7, 3) := by decide +kernel
theorem dX12_nameOf_45 : decode cX12_nameOf 45 = .ok (.iconst 0, 1) := by decide +kernel
theorem dX12_nameOf_46 : decode cX12_nameOf 46 = .ok (.goto 24, 3) := by decide +kernel
theorem dX12_nameOf_49 : decode cX12_nameOf 49 = .ok (.iload_n 1, 1) := by decide +kernel
theorem dX12_nameOf_50 : decode cX12_nameOf 50 = .ok (.bipush 119, 2) := by decide +kernel
theorem dX12_nameOf_52 : decode cX12_nameOf 52 = .ok (.if_icmp .ne 7, 3) := by decide +kernel
theorem dX12_nameOf_55 : decode cX12_nameOf 55 = .ok (.iconst 1, 1) := by decide +kernel
theorem dX12_nameOf_56 : decode cX12_nameOf 56 = .ok (.goto 14, 3) := by decide +kernel
theorem dX12_nameOf_59 : decode cX12_nameOf 59 = .ok (.iload_n 1, 1) := by decide +kernel
theorem dX12_nameOf_60 : decode cX12_nameOf 60 = .ok (.bipush 107, 2) := by decide +kernel
theorem dX12_nameOf_62 : decode cX12_nameOf 62 = .ok (.if_icmp .ne 7, 3) := by decide +kernel
theorem dX12_nameOf_65 : decode cX12_nameOf 65 = .ok (.iconst 2, 1) := by decide +kernel
theorem dX12_nameOf_66 : decode cX12_nameOf 66 = .ok (.goto 4, 3) := by decide +kernel
theorem dX12_nameOf_69 : decode cX12_nameOf 69 = .ok (.iconst (-1), 1) := by decide +kernel
theorem dX12_nameOf_70 : decode cX12_nameOf 70 = .ok (.ireturn, 1) := by decide +kernel
theorem dX12_either_0 : decode cX12_either 0 = .ok (.aload_n 0, 1) := by decide +kernel
theorem dX12_either_1 : decode cX12_either 1 = .ok (.invokevirtual 151, 3) := by decide +kernel
theorem dX12_either_4 : decode cX12_either 4 = .ok (.istore_n 1, 1) := by decide +kernel
theorem dX12_either_5 : decode cX12_either 5 = .ok (.aload_n 0, 1) := by decide +kernel
theorem dX12_either_6 : decode cX12_either 6 = .ok (.bipush 124, 2) := by decide +kernel
theorem dX12_either_8 : decode cX12_either 8 = .ok (.invokevirtual 154, 3) := by decide +kernel
theorem dX12_either_11 : decode cX12_either 11 = .ok (.ifCond .eq 25, 3) := by decide +kernel
theorem dX12_either_14 : decode cX12_either 14 = .ok (.aload_n 0, 1) := by decide +kernel
theorem dX12_either_15 : decode cX12_either 15 = .ok (.invokevirtual 151, 3) := by decide +kernel
theorem dX12_either_18 : decode cX12_either 18 = .ok (.istore_n 2, 1) := by decide +kernel
theorem dX12_either_19 : decode cX12_either 19 = .ok (.iload_n 1, 1) := by decide +kernel
theorem dX12_either_20 : decode cX12_either 20 = .ok (.ifCond .ne 7, 3) := by decide +kernel
theorem dX12_either_23 : decode cX12_either 23 = .ok (.iload_n 2, 1) := by decide +kernel
theorem dX12_either_24 : decode cX12_either 24 = .ok (.ifCond .eq 7, 3) := by decide +kernel
theorem dX12_either_27 : decode cX12_either 27 = .ok (.iconst 1, 1) := by decide +kernel
theorem dX12_either_28 : decode cX12_either 28 = .ok (.goto 4, 3) := by decide +kernel
theorem dX12_either_31 : decode cX12_either 31 = .ok (.iconst 0, 1) := by decide +kernel
theorem dX12_either_32 : decode cX12_either 32 = .ok (.istore_n 1, 1) := by decide +kernel
theorem dX12_either_33 : decode cX12_either 33 = .ok (.goto (-28), 3) := by decide +kernel
theorem dX12_either_36 : decode cX12_either 36 = .ok (.iload_n 1, 1) := by decide +kernel
theorem dX12_either_37 : decode cX12_either 37 = .ok (.ireturn, 1) := by decide +kernel
theorem dX12_both_0 : decode cX12_both 0 = .ok (.aload_n 0, 1) := by decide +kernel
theorem dX12_both_1 : decode cX12_both 1 = .ok (.invokevirtual 157, 3) := by decide +kernel
theorem dX12_both_4 : decode cX12_both 4 = .ok (.istore_n 1, 1) := by decide +kernel
theorem dX12_both_5 : decode cX12_both 5 = .ok (.aload_n 0, 1) := by decide +kernel
theorem dX12_both_6 : decode cX12_both 6 = .ok (.bipush 38, 2) := by decide +kernel
theorem dX12_both_8 : decode cX12_both 8 = .ok (.invokevirtual 154, 3) := by decide +kernel
theorem dX12_both_11 : decode cX12_both 11 = .ok (.ifCond .eq 25, 3) := by decide +kernel
theorem dX12_both_14 : decode cX12_both 14 = .ok (.aload_n 0, 1) := by decide +kernel
theorem dX12_both_15 : decode cX12_both 15 = .ok (.invokevirtual 157, 3) := by decide +kernel
theorem dX12_both_18 : decode cX12_both 18 = .ok (.istore_n 2, 1) := by decide +kernel
theorem dX12_both_19 : decode cX12_both 19 = .ok (.iload_n 1, 1) := by decide +kernel
theorem dX12_both_20 : decode cX12_both 20 = .ok (.ifCond .eq 11, 3) := by decide +kernel
theorem dX12_both_23 : decode cX12_both 23 = .ok (.iload_n 2, 1) := by decide +kernel
theorem dX12_both_24 : decode cX12_both 24 = .ok (.ifCond .eq 7, 3) := by decide +kernel
theorem dX12_both_27 : decode cX12_both 27 = .ok (.iconst 1, 1) := by decide +kernel
theorem dX12_both_28 : decode cX12_both 28 = .ok (.goto 4, 3) := by decide +kernel
theorem dX12_both_31 : decode cX12_both 31 = .ok (.iconst 0, 1) := by decide +kernel
theorem dX12_both_32 : decode cX12_both 32 = .ok (.istore_n 1, 1) := by decide +kernel
theorem dX12_both_33 : decode cX12_both 33 = .ok (.goto (-28), 3) := by decide +kernel
theorem dX12_both_36 : decode cX12_both 36 = .ok (.iload_n 1, 1) := by decide +kernel
theorem dX12_both_37 : decode cX12_both 37 = .ok (.ireturn, 1) := by decide +kernel
theorem dX12_compared_0 : decode cX12_compared 0 = .ok (.aload_n 0, 1) := by decide +kernel
theorem dX12_compared_1 : decode cX12_compared 1 = .ok (.invokevirtual 160, 3) := by decide +kernel
theorem dX12_compared_4 : decode cX12_compared 4 = .ok (.istore_n 1, 1) := by decide +kernel
theorem dX12_compared_5 : decode cX12_compared 5 = .ok (.aload_n 0, 1) := by decide +kernel
theorem dX12_compared_6 : decode cX12_compared 6 = .ok (.invokevirtual 143, 3) := by decide +kernel
theorem dX12_compared_9 : decode cX12_compared 9 = .ok (.istore_n 2, 1) := by decide +kernel
theorem dX12_compared_10 : decode cX12_compared 10 = .ok (.iload_n 2, 1) := by decide +kernel
theorem dX12_compared_11 : decode cX12_compared 11 = .ok (.bipush 60, 2) := by decide +kernel
theorem dX12_compared_13 : decode cX12_compared 13 = .ok (.if_icmp .eq 17, 3) := by decide +kernel
theorem dX12_compared_16 : decode cX12_compared 16 = .ok (.iload_n 2, 1) := by decide +kernel
theorem dX12_compared_17 : decode cX12_compared 17 = .ok (.bipush 61, 2) := by decide +kernel
theorem dX12_compared_19 : decode cX12_compared 19 = .ok (.if_icmp .eq 11, 3) := by decide +kernel
theorem dX12_compared_22 : decode cX12_compared 22 = .ok (.iload_n 2, 1) := by decide +kernel
theorem dX12_compared_23 : decode cX12_compared 23 = .ok (.bipush 62, 2) := by decide +kernel
theorem dX12_compared_25 : decode cX12_compared 25 = .ok (.if_icmp .eq 5, 3) := by decide +kernel
theorem dX12_compared_28 : decode cX12_compared 28 = .ok (.iload_n 1, 1) := by decide +kernel
theorem dX12_compared_29 : decode cX12_compared 29 = .ok (.ireturn, 1) := by decide +kernel
theorem dX12_compared_30 : decode cX12_compared 30 = .ok (.aload_n 0, 1) := by decide +kernel
theorem dX12_compared_31 : decode cX12_compared 31 = .ok (.dup, 1) := by decide +kernel
theorem dX12_compared_32 : decode cX12_compared 32 = .ok (.getfield 130, 3) := by decide +kernel
theorem dX12_compared_35 : decode cX12_compared 35 = .ok (.iconst 1, 1) := by decide +kernel
theorem dX12_compared_36 : decode cX12_compared 36 = .ok (.iadd, 1) := by decide +kernel
theorem dX12_compared_37 : decode cX12_compared 37 = .ok (.putfield 130, 3) := by decide +kernel
theorem dX12_compared_40 : decode cX12_compared 40 = .ok (.aload_n 0, 1) := by decide +kernel
theorem dX12_compared_41 : decode cX12_compared 41 = .ok (.invokevirtual 160, 3) := by decide +kernel
theorem dX12_compared_44 : decode cX12_compared 44 = .ok (.istore_n 3, 1) := by decide +kernel
theorem dX12_compared_45 : decode cX12_compared 45 = .ok (.iload_n 2, 1) := by decide +kernel
theorem dX12_compared_46 : decode cX12_compared 46 = .ok (.bipush 60, 2) := by decide +kernel
theorem dX12_compared_48 : decode cX12_compared 48 = .ok (.if_icmp .ne 11, 3) := by decide +kernel
theorem dX12_compared_51 : decode cX12_compared 51 = .ok (.iload_n 1, 1) := by decide +kernel
theorem dX12_compared_52 : decode cX12_compared 52 = .ok (.iload_n 3, 1) := by decide +kernel
theorem dX12_compared_53 : decode cX12_compared 53 = .ok (.if_icmp .ge 29, 3) := by decide +kernel
theorem dX12_compared_56 : decode cX12_compared 56 = .ok (.goto 22, 3) := by decide +kernel
theorem dX12_compared_59 : decode cX12_compared 59 = .ok (.iload_n 2, 1) := by decide +kernel
theorem dX12_compared_60 : decode cX12_compared 60 = .ok (.bipush 61, 2) := by decide +kernel
theorem dX12_compared_62 : decode cX12_compared 62 = .ok (.if_icmp .ne 11, 3) := by decide +kernel
theorem dX12_compared_65 : decode cX12_compared 65 = .ok (.iload_n 1, 1) := by decide +kernel
theorem dX12_compared_66 : decode cX12_compared 66 = .ok (.iload_n 3, 1) := by decide +kernel
theorem dX12_compared_67 : decode cX12_compared 67 = .ok (.if_icmp .ne 15, 3) := by decide +kernel
theorem dX12_compared_70 : decode cX12_compared 70 = .ok (.goto 8, 3) := by decide +kernel
theorem dX12_compared_73 : decode cX12_compared 73 = .ok (.iload_n 1, 1) := by decide +kernel
theorem dX12_compared_74 : decode cX12_compared 74 = .ok (.iload_n 3, 1) := by decide +kernel
theorem dX12_compared_75 : decode cX12_compared 75 = .ok (.if_icmp .le 7, 3) := by decide +kernel
theorem dX12_compared_78 : decode cX12_compared 78 = .ok (.iconst 1, 1) := by decide +kernel
theorem dX12_compared_79 : decode cX12_compared 79 = .ok (.goto 4, 3) := by decide +kernel
theorem dX12_compared_82 : decode cX12_compared 82 = .ok (.iconst 0, 1) := by decide +kernel
theorem dX12_compared_83 : decode cX12_compared 83 = .ok (.ireturn, 1) := by decide +kernel
theorem dX12_sum_0 : decode cX12_sum 0 = .ok (.aload_n 0, 1) := by decide +kernel
theorem dX12_sum_1 : decode cX12_sum 1 = .ok (.invokevirtual 163, 3) := by decide +kernel
theorem dX12_sum_4 : decode cX12_sum 4 = .ok (.istore_n 1, 1) := by decide +kernel
theorem dX12_sum_5 : decode cX12_sum 5 = .ok (.aload_n 0, 1) := by decide +kernel
theorem dX12_sum_6 : decode cX12_sum 6 = .ok (.invokevirtual 143, 3) := by decide +kernel
theorem dX12_sum_9 : decode cX12_sum 9 = .ok (.bipush 43, 2) := by decide +kernel
theorem dX12_sum_11 : decode cX12_sum 11 = .ok (.if_icmp .eq 12, 3) := by decide +kernel
theorem dX12_sum_14 : decode cX12_sum 14 = .ok (.aload_n 0, 1) := by decide +kernel
theorem dX12_sum_15 : decode cX12_sum 15 = .ok (.invokevirtual 143, 3) := by decide +kernel
theorem dX12_sum_18 : decode cX12_sum 18 = .ok (.bipush 45, 2) := by decide +kernel
theorem dX12_sum_20 : decode cX12_sum 20 = .ok (.if_icmp .ne 42, 3) := by decide +kernel
theorem dX12_sum_23 : decode cX12_sum 23 = .ok (.aload_n 0, 1) := by decide +kernel
theorem dX12_sum_24 : decode cX12_sum 24 = .ok (.invokevirtual 143, 3) := by decide +kernel
theorem dX12_sum_27 : decode cX12_sum 27 = .ok (.istore_n 2, 1) := by decide +kernel
theorem dX12_sum_28 : decode cX12_sum 28 = .ok (.aload_n 0, 1) := by decide +kernel
theorem dX12_sum_29 : decode cX12_sum 29 = .ok (.dup, 1) := by decide +kernel
theorem dX12_sum_30 : decode cX12_sum 30 = .ok (.getfield 130, 3) := by decide +kernel
theorem dX12_sum_33 : decode cX12_sum 33 = .ok (.iconst 1, 1) := by decide +kernel
theorem dX12_sum_34 : decode cX12_sum 34 = .ok (.iadd, 1) := by decide +kernel
theorem dX12_sum_35 : decode cX12_sum 35 = .ok (.putfield 130, 3) := by decide +kernel
theorem dX12_sum_38 : decode cX12_sum 38 = .ok (.aload_n 0, 1) := by decide +kernel
theorem dX12_sum_39 : decode cX12_sum 39 = .ok (.invokevirtual 163, 3) := by decide +kernel
theorem dX12_sum_42 : decode cX12_sum 42 = .ok (.istore_n 3, 1) := by decide +kernel
theorem dX12_sum_43 : decode cX12_sum 43 = .ok (.iload_n 2, 1) := by decide +kernel
theorem dX12_sum_44 : decode cX12_sum 44 = .ok (.bipush 43, 2) := by decide +kernel
theorem dX12_sum_46 : decode cX12_sum 46 = .ok (.if_icmp .ne 9, 3) := by decide +kernel
theorem dX12_sum_49 : decode cX12_sum 49 = .ok (.iload_n 1, 1) := by decide +kernel
theorem dX12_sum_50 : decode cX12_sum 50 = .ok (.iload_n 3, 1) := by decide +kernel
theorem dX12_sum_51 : decode cX12_sum 51 = .ok (.iadd, 1) := by decide +kernel
theorem dX12_sum_52 : decode cX12_sum 52 = .ok (.goto 6, 3) := by decide +kernel
theorem dX12_sum_55 : decode cX12_sum 55 = .ok (.iload_n 1, 1) := by decide +kernel
theorem dX12_sum_56 : decode cX12_sum 56 = .ok (.iload_n 3, 1) := by decide +kernel
theorem dX12_sum_57 : decode cX12_sum 57 = .ok (.isub, 1) := by decide +kernel
theorem dX12_sum_58 : decode cX12_sum 58 = .ok (.istore_n 1, 1) := by decide +kernel
theorem dX12_sum_59 : decode cX12_sum 59 = .ok (.goto (-54), 3) := by decide +kernel
theorem dX12_sum_62 : decode cX12_sum 62 = .ok (.iload_n 1, 1) := by decide +kernel
theorem dX12_sum_63 : decode cX12_sum 63 = .ok (.ireturn, 1) := by decide +kernel
theorem dX12_product_0 : decode cX12_product 0 = .ok (.aload_n 0, 1) := by decide +kernel
theorem dX12_product_1 : decode cX12_product 1 = .ok (.invokevirtual 166, 3) := by decide +kernel
theorem dX12_product_4 : decode cX12_product 4 = .ok (.istore_n 1, 1) := by decide +kernel
theorem dX12_product_5 : decode cX12_product 5 = .ok (.aload_n 0, 1) := by decide +kernel
theorem dX12_product_6 : decode cX12_product 6 = .ok (.invokevirtual 143, 3) := by decide +kernel
theorem dX12_product_9 : decode cX12_product 9 = .ok (.bipush 42, 2) := by decide +kernel
theorem dX12_product_11 : decode cX12_product 11 = .ok (.if_icmp .eq 21, 3) := by decide +kernel
theorem dX12_product_14 : decode cX12_product 14 = .ok (.aload_n 0, 1) := by decide +kernel
theorem dX12_product_15 : decode cX12_product 15 = .ok (.invokevirtual 143, 3) := by decide +kernel
theorem dX12_product_18 : decode cX12_product 18 = .ok (.bipush 47, 2) := by decide +kernel
theorem dX12_product_20 : decode cX12_product 20 = .ok (.if_icmp .eq 12, 3) := by decide +kernel
theorem dX12_product_23 : decode cX12_product 23 = .ok (.aload_n 0, 1) := by decide +kernel
theorem dX12_product_24 : decode cX12_product 24 = .ok (.invokevirtual 143, 3) := by decide +kernel
theorem dX12_product_27 : decode cX12_product 27 = .ok (.bipush 37, 2) := by decide +kernel
theorem dX12_product_29 : decode cX12_product 29 = .ok (.if_icmp .ne 62, 3) := by decide +kernel
theorem dX12_product_32 : decode cX12_product 32 = .ok (.aload_n 0, 1) := by decide +kernel
theorem dX12_product_33 : decode cX12_product 33 = .ok (.invokevirtual 143, 3) := by decide +kernel
theorem dX12_product_36 : decode cX12_product 36 = .ok (.istore_n 2, 1) := by decide +kernel
theorem dX12_product_37 : decode cX12_product 37 = .ok (.aload_n 0, 1) := by decide +kernel
theorem dX12_product_38 : decode cX12_product 38 = .ok (.dup, 1) := by decide +kernel
theorem dX12_product_39 : decode cX12_product 39 = .ok (.getfield 130, 3) := by decide +kernel
theorem dX12_product_42 : decode cX12_product 42 = .ok (.iconst 1, 1) := by decide +kernel
theorem dX12_product_43 : decode cX12_product 43 = .ok (.iadd, 1) := by decide +kernel
theorem dX12_product_44 : decode cX12_product 44 = .ok (.putfield 130, 3) := by decide +kernel
theorem dX12_product_47 : decode cX12_product 47 = .ok (.aload_n 0, 1) := by decide +kernel
theorem dX12_product_48 : decode cX12_product 48 = .ok (.invokevirtual 166, 3) := by decide +kernel
theorem dX12_product_51 : decode cX12_product 51 = .ok (.istore_n 3, 1) := by decide +kernel
theorem dX12_product_52 : decode cX12_product 52 = .ok (.iload_n 2, 1) := by decide +kernel
theorem dX12_product_53 : decode cX12_product 53 = .ok (.bipush 42, 2) := by decide +kernel
theorem dX12_product_55 : decode cX12_product 55 = .ok (.if_icmp .ne 9, 3) := by decide +kernel
theorem dX12_product_58 : decode cX12_product 58 = .ok (.iload_n 1, 1) := by decide +kernel
theorem dX12_product_59 : decode cX12_product 59 = .ok (.iload_n 3, 1) := by decide +kernel
theorem dX12_product_60 : decode cX12_product 60 = .ok (.imul, 1) := by decide +kernel
theorem dX12_product_61 : decode cX12_product 61 = .ok (.goto 26, 3) := by decide +kernel
theorem dX12_product_64 : decode cX12_product 64 = .ok (.iload_n 3, 1) := by decide +kernel
theorem dX12_product_65 : decode cX12_product 65 = .ok (.ifCond .ne 7, 3) := by decide +kernel
theorem dX12_product_68 : decode cX12_product 68 = .ok (.iconst 0, 1) := by decide +kernel
theorem dX12_product_69 : decode cX12_product 69 = .ok (.goto 18, 3) := by decide +kernel
theorem dX12_product_72 : decode cX12_product 72 = .ok (.iload_n 2, 1) := by decide +kernel
theorem dX12_product_73 : decode cX12_product 73 = .ok (.bipush 47, 2) := by decide +kernel
theorem dX12_product_75 : decode cX12_product 75 = .ok (.if_icmp .ne 9, 3) := by decide +kernel
theorem dX12_product_78 : decode cX12_product 78 = .ok (.iload_n 1, 1) := by decide +kernel
theorem dX12_product_79 : decode cX12_product 79 = .ok (.iload_n 3, 1) := by decide +kernel
theorem dX12_product_80 : decode cX12_product 80 = .ok (.idiv, 1) := by decide +kernel
theorem dX12_product_81 : decode cX12_product 81 = .ok (.goto 6, 3) := by decide +kernel
theorem dX12_product_84 : decode cX12_product 84 = .ok (.iload_n 1, 1) := by decide +kernel
theorem dX12_product_85 : decode cX12_product 85 = .ok (.iload_n 3, 1) := by decide +kernel
theorem dX12_product_86 : decode cX12_product 86 = .ok (.irem, 1) := by decide +kernel
theorem dX12_product_87 : decode cX12_product 87 = .ok (.istore_n 1, 1) := by decide +kernel
theorem dX12_product_88 : decode cX12_product 88 = .ok (.goto (-83), 3) := by decide +kernel
theorem dX12_product_91 : decode cX12_product 91 = .ok (.iload_n 1, 1) := by decide +kernel
theorem dX12_product_92 : decode cX12_product 92 = .ok (.ireturn, 1) := by decide +kernel
theorem dX12_unit_0 : decode cX12_unit 0 = .ok (.aload_n 0, 1) := by decide +kernel
theorem dX12_unit_1 : decode cX12_unit 1 = .ok (.invokevirtual 143, 3) := by decide +kernel
theorem dX12_unit_4 : decode cX12_unit 4 = .ok (.istore_n 1, 1) := by decide +kernel
theorem dX12_unit_5 : decode cX12_unit 5 = .ok (.iload_n 1, 1) := by decide +kernel
theorem dX12_unit_6 : decode cX12_unit 6 = .ok (.bipush 33, 2) := by decide +kernel
theorem dX12_unit_8 : decode cX12_unit 8 = .ok (.if_icmp .eq 9, 3) := by decide +kernel
theorem dX12_unit_11 : decode cX12_unit 11 = .ok (.iload_n 1, 1) := by decide +kernel
theorem dX12_unit_12 : decode cX12_unit 12 = .ok (.bipush 40, 2) := by decide +kernel
theorem dX12_unit_14 : decode cX12_unit 14 = .ok (.if_icmp .ne 104, 3) := by decide +kernel
theorem dX12_unit_17 : decode cX12_unit 17 = .ok (.aload_n 0, 1) := by decide +kernel
theorem dX12_unit_18 : decode cX12_unit 18 = .ok (.getfield 169, 3) := by decide +kernel
theorem dX12_unit_21 : decode cX12_unit 21 = .ok (.iconst 5, 1) := by decide +kernel
theorem dX12_unit_22 : decode cX12_unit 22 = .ok (.if_icmp .ne 8, 3) := by decide +kernel
theorem dX12_unit_25 : decode cX12_unit 25 = .ok (.aload_n 0, 1) := by decide +kernel
theorem dX12_unit_26 : decode cX12_unit 26 = .ok (.invokevirtual 172, 3) := by decide +kernel
theorem dX12_unit_29 : decode cX12_unit 29 = .ok (.ireturn, 1) := by decide +kernel
theorem dX12_unit_30 : decode cX12_unit 30 = .ok (.aload_n 0, 1) := by decide +kernel
theorem dX12_unit_31 : decode cX12_unit 31 = .ok (.dup, 1) := by decide +kernel
theorem dX12_unit_32 : decode cX12_unit 32 = .ok (.getfield 169, 3) := by decide +kernel
theorem dX12_unit_35 : decode cX12_unit 35 = .ok (.iconst 1, 1) := by decide +kernel
theorem dX12_unit_36 : decode cX12_unit 36 = .ok (.iadd, 1) := by decide +kernel
theorem dX12_unit_37 : decode cX12_unit 37 = .ok (.putfield 169, 3) := by decide +kernel
theorem dX12_unit_40 : decode cX12_unit 40 = .ok (.aload_n 0, 1) := by decide +kernel
theorem dX12_unit_41 : decode cX12_unit 41 = .ok (.dup, 1) := by decide +kernel
theorem dX12_unit_42 : decode cX12_unit 42 = .ok (.getfield 130, 3) := by decide +kernel
theorem dX12_unit_45 : decode cX12_unit 45 = .ok (.iconst 1, 1) := by decide +kernel
theorem dX12_unit_46 : decode cX12_unit 46 = .ok (.iadd, 1) := by decide +kernel
theorem dX12_unit_47 : decode cX12_unit 47 = .ok (.putfield 130, 3) := by decide +kernel
theorem dX12_unit_50 : decode cX12_unit 50 = .ok (.iload_n 1, 1) := by decide +kernel
theorem dX12_unit_51 : decode cX12_unit 51 = .ok (.bipush 40, 2) := by decide +kernel
theorem dX12_unit_53 : decode cX12_unit 53 = .ok (.if_icmp .ne 10, 3) := by decide +kernel
theorem dX12_unit_56 : decode cX12_unit 56 = .ok (.aload_n 0, 1) := by decide +kernel
theorem dX12_unit_57 : decode cX12_unit 57 = .ok (.invokevirtual 175, 3) := by decide +kernel
theorem dX12_unit_60 : decode cX12_unit 60 = .ok (.goto 7, 3) := by decide +kernel
theorem dX12_unit_63 : decode cX12_unit 63 = .ok (.aload_n 0, 1) := by decide +kernel
theorem dX12_unit_64 : decode cX12_unit 64 = .ok (.invokevirtual 166, 3) := by decide +kernel
theorem dX12_unit_67 : decode cX12_unit 67 = .ok (.istore_n 2, 1) := by decide +kernel
theorem dX12_unit_68 : decode cX12_unit 68 = .ok (.iload_n 1, 1) := by decide +kernel
theorem dX12_unit_69 : decode cX12_unit 69 = .ok (.bipush 40, 2) := by decide +kernel
theorem dX12_unit_71 : decode cX12_unit 71 = .ok (.if_icmp .ne 17, 3) := by decide +kernel
theorem dX12_unit_74 : decode cX12_unit 74 = .ok (.aload_n 0, 1) := by decide +kernel
theorem dX12_unit_75 : decode cX12_unit 75 = .ok (.bipush 41, 2) := by decide +kernel
theorem dX12_unit_77 : decode cX12_unit 77 = .ok (.invokevirtual 154, 3) := by decide +kernel
theorem dX12_unit_80 : decode cX12_unit 80 = .ok (.ifCond .ne 8, 3) := by decide +kernel
theorem dX12_unit_83 : decode cX12_unit 83 = .ok (.aload_n 0, 1) := by decide +kernel
theorem dX12_unit_84 : decode cX12_unit 84 = .ok (.invokevirtual 172, 3) := by decide +kernel
theorem dX12_unit_87 : decode cX12_unit 87 = .ok (.ireturn, 1) := by decide +kernel
theorem dX12_unit_88 : decode cX12_unit 88 = .ok (.aload_n 0, 1) := by decide +kernel
theorem dX12_unit_89 : decode cX12_unit 89 = .ok (.dup, 1) := by decide +kernel
theorem dX12_unit_90 : decode cX12_unit 90 = .ok (.getfield 169, 3) := by decide +kernel
theorem dX12_unit_93 : decode cX12_unit 93 = .ok (.iconst 1, 1) := by decide +kernel
theorem dX12_unit_94 : decode cX12_unit 94 = .ok (.isub, 1) := by decide +kernel
theorem dX12_unit_95 : decode cX12_unit 95 = .ok (.putfield 169, 3) := by decide +kernel
theorem dX12_unit_98 : decode cX12_unit 98 = .ok (.iload_n 1, 1) := by decide +kernel
theorem dX12_unit_99 : decode cX12_unit 99 = .ok (.bipush 40, 2) := by decide +kernel
theorem dX12_unit_101 : decode cX12_unit 101 = .ok (.if_icmp .ne 7, 3) := by decide +kernel
theorem dX12_unit_104 : decode cX12_unit 104 = .ok (.iload_n 2, 1) := by decide +kernel
theorem dX12_unit_105 : decode cX12_unit 105 = .ok (.goto 12, 3) := by decide +kernel
theorem dX12_unit_108 : decode cX12_unit 108 = .ok (.iload_n 2, 1) := by decide +kernel
theorem dX12_unit_109 : decode cX12_unit 109 = .ok (.ifCond .ne 7, 3) := by decide +kernel
theorem dX12_unit_112 : decode cX12_unit 112 = .ok (.iconst 1, 1) := by decide +kernel
theorem dX12_unit_113 : decode cX12_unit 113 = .ok (.goto 4, 3) := by decide +kernel
theorem dX12_unit_116 : decode cX12_unit 116 = .ok (.iconst 0, 1) := by decide +kernel
theorem dX12_unit_117 : decode cX12_unit 117 = .ok (.ireturn, 1) := by decide +kernel
theorem dX12_unit_118 : decode cX12_unit 118 = .ok (.aload_n 0, 1) := by decide +kernel
theorem dX12_unit_119 : decode cX12_unit 119 = .ok (.iload_n 1, 1) := by decide +kernel
theorem dX12_unit_120 : decode cX12_unit 120 = .ok (.invokevirtual 178, 3) := by decide +kernel
theorem dX12_unit_123 : decode cX12_unit 123 = .ok (.istore_n 2, 1) := by decide +kernel
theorem dX12_unit_124 : decode cX12_unit 124 = .ok (.iload_n 2, 1) := by decide +kernel
theorem dX12_unit_125 : decode cX12_unit 125 = .ok (.ifCond .lt 20, 3) := by decide +kernel
theorem dX12_unit_128 : decode cX12_unit 128 = .ok (.aload_n 0, 1) := by decide +kernel
theorem dX12_unit_129 : decode cX12_unit 129 = .ok (.dup, 1) := by decide +kernel
theorem dX12_unit_130 : decode cX12_unit 130 = .ok (.getfield 130, 3) := by decide +kernel
theorem dX12_unit_133 : decode cX12_unit 133 = .ok (.iconst 1, 1) := by decide +kernel
theorem dX12_unit_134 : decode cX12_unit 134 = .ok (.iadd, 1) := by decide +kernel
theorem dX12_unit_135 : decode cX12_unit 135 = .ok (.putfield 130, 3) := by decide +kernel
theorem dX12_unit_138 : decode cX12_unit 138 = .ok (.aload_n 0, 1) := by decide +kernel
theorem dX12_unit_139 : decode cX12_unit 139 = .ok (.getfield 28, 3) := by decide +kernel
theorem dX12_unit_142 : decode cX12_unit 142 = .ok (.iload_n 2, 1) := by decide +kernel
theorem dX12_unit_143 : decode cX12_unit 143 = .ok (.iaload, 1) := by decide +kernel
theorem dX12_unit_144 : decode cX12_unit 144 = .ok (.ireturn, 1) := by decide +kernel
theorem dX12_unit_145 : decode cX12_unit 145 = .ok (.iconst 0, 1) := by decide +kernel
theorem dX12_unit_146 : decode cX12_unit 146 = .ok (.istore_n 3, 1) := by decide +kernel
theorem dX12_unit_147 : decode cX12_unit 147 = .ok (.iconst 0, 1) := by decide +kernel
theorem dX12_unit_148 : decode cX12_unit 148 = .ok (.istore 4, 2) := by decide +kernel
theorem dX12_unit_150 : decode cX12_unit 150 = .ok (.iload 4, 2) := by decide +kernel
theorem dX12_unit_152 : decode cX12_unit 152 = .ok (.iconst 4, 1) := by decide +kernel
theorem dX12_unit_153 : decode cX12_unit 153 = .ok (.if_icmp .ge 49, 3) := by decide +kernel
theorem dX12_unit_156 : decode cX12_unit 156 = .ok (.aload_n 0, 1) := by decide +kernel
theorem dX12_unit_157 : decode cX12_unit 157 = .ok (.invokevirtual 143, 3) := by decide +kernel
theorem dX12_unit_160 : decode cX12_unit 160 = .ok (.i2l, 1) := by decide +kernel
theorem dX12_unit_161 : decode cX12_unit 161 = .ok (.ldc2_w 181, 3) := by decide +kernel
theorem dX12_unit_164 : decode cX12_unit 164 = .ok (.ldc2_w 183, 3) := by decide +kernel
theorem dX12_unit_167 : decode cX12_unit 167 = .ok (.invokestatic 48, 3) := by decide +kernel
theorem dX12_unit_170 : decode cX12_unit 170 = .ok (.ifCond .eq 32, 3) := by decide +kernel
theorem dX12_unit_173 : decode cX12_unit 173 = .ok (.bipush 10, 2) := by decide +kernel
theorem dX12_unit_175 : decode cX12_unit 175 = .ok (.iload_n 3, 1) := by decide +kernel
theorem dX12_unit_176 : decode cX12_unit 176 = .ok (.imul, 1) := by decide +kernel
theorem dX12_unit_177 : decode cX12_unit 177 = .ok (.aload_n 0, 1) := by decide +kernel
theorem dX12_unit_178 : decode cX12_unit 178 = .ok (.invokevirtual 143, 3) := by decide +kernel
theorem dX12_unit_181 : decode cX12_unit 181 = .ok (.iadd, 1) := by decide +kernel
theorem dX12_unit_182 : decode cX12_unit 182 = .ok (.bipush 48, 2) := by decide +kernel
theorem dX12_unit_184 : decode cX12_unit 184 = .ok (.isub, 1) := by decide +kernel
theorem dX12_unit_185 : decode cX12_unit 185 = .ok (.istore_n 3, 1) := by decide +kernel
theorem dX12_unit_186 : decode cX12_unit 186 = .ok (.aload_n 0, 1) := by decide +kernel
theorem dX12_unit_187 : decode cX12_unit 187 = .ok (.dup, 1) := by decide +kernel
theorem dX12_unit_188 : decode cX12_unit 188 = .ok (.getfield 130, 3) := by decide +kernel
theorem dX12_unit_191 : decode cX12_unit 191 = .ok (.iconst 1, 1) := by decide +kernel
theorem dX12_unit_192 : decode cX12_unit 192 = .ok (.iadd, 1) := by decide +kernel
theorem dX12_unit_193 : decode cX12_unit 193 = .ok (.putfield 130, 3) := by decide +kernel
theorem dX12_unit_196 : decode cX12_unit 196 = .ok (.iinc 4 1, 3) := by decide +kernel
theorem dX12_unit_199 : decode cX12_unit 199 = .ok (.goto (-49), 3) := by decide +kernel
theorem dX12_unit_202 : decode cX12_unit 202 = .ok (.iload 4, 2) := by decide +kernel
theorem dX12_unit_204 : decode cX12_unit 204 = .ok (.ifCond .ne 10, 3) := by decide +kernel
theorem dX12_unit_207 : decode cX12_unit 207 = .ok (.aload_n 0, 1) := by decide +kernel
theorem dX12_unit_208 : decode cX12_unit 208 = .ok (.invokevirtual 172, 3) := by decide +kernel
theorem dX12_unit_211 : decode cX12_unit 211 = .ok (.goto 4, 3) := by decide +kernel
theorem dX12_unit_214 : decode cX12_unit 214 = .ok (.iload_n 3, 1) := by decide +kernel
theorem dX12_unit_215 : decode cX12_unit 215 = .ok (.ireturn, 1) := by decide +kernel
theorem dX12_worked_0 : decode cX12_worked 0 = .ok (.aload_n 0, 1) := by decide +kernel
theorem dX12_worked_1 : decode cX12_worked 1 = .ok (.iload_n 1, 1) := by decide +kernel
theorem dX12_worked_2 : decode cX12_worked 2 = .ok (.putfield 140, 3) := by decide +kernel
theorem dX12_worked_5 : decode cX12_worked 5 = .ok (.aload_n 0, 1) := by decide +kernel
theorem dX12_worked_6 : decode cX12_worked 6 = .ok (.iconst 0, 1) := by decide +kernel
theorem dX12_worked_7 : decode cX12_worked 7 = .ok (.putfield 130, 3) := by decide +kernel
theorem dX12_worked_10 : decode cX12_worked 10 = .ok (.aload_n 0, 1) := by decide +kernel
theorem dX12_worked_11 : decode cX12_worked 11 = .ok (.iload_n 2, 1) := by decide +kernel
theorem dX12_worked_12 : decode cX12_worked 12 = .ok (.putfield 134, 3) := by decide +kernel
theorem dX12_worked_15 : decode cX12_worked 15 = .ok (.aload_n 0, 1) := by decide +kernel
theorem dX12_worked_16 : decode cX12_worked 16 = .ok (.iconst (-1), 1) := by decide +kernel
theorem dX12_worked_17 : decode cX12_worked 17 = .ok (.putfield 137, 3) := by decide +kernel
theorem dX12_worked_20 : decode cX12_worked 20 = .ok (.aload_n 0, 1) := by decide +kernel
theorem dX12_worked_21 : decode cX12_worked 21 = .ok (.iconst 0, 1) := by decide +kernel
theorem dX12_worked_22 : decode cX12_worked 22 = .ok (.putfield 169, 3) := by decide +kernel
theorem dX12_worked_25 : decode cX12_worked 25 = .ok (.aload_n 0, 1) := by decide +kernel
theorem dX12_worked_26 : decode cX12_worked 26 = .ok (.iload_n 3, 1) := by decide +kernel
theorem dX12_worked_27 : decode cX12_worked 27 = .ok (.ifCond .ne 7, 3) := by decide +kernel
theorem dX12_worked_30 : decode cX12_worked 30 = .ok (.iconst 1, 1) := by decide +kernel
theorem dX12_worked_31 : decode cX12_worked 31 = .ok (.goto 4, 3) := by decide +kernel
theorem dX12_worked_34 : decode cX12_worked 34 = .ok (.iconst 0, 1) := by decide +kernel
theorem dX12_worked_35 : decode cX12_worked 35 = .ok (.putfield 147, 3) := by decide +kernel
theorem dX12_worked_38 : decode cX12_worked 38 = .ok (.aload_n 0, 1) := by decide +kernel
theorem dX12_worked_39 : decode cX12_worked 39 = .ok (.invokevirtual 175, 3) := by decide +kernel
theorem dX12_worked_42 : decode cX12_worked 42 = .ok (.istore 4, 2) := by decide +kernel
theorem dX12_worked_44 : decode cX12_worked 44 = .ok (.aload_n 0, 1) := by decide +kernel
theorem dX12_worked_45 : decode cX12_worked 45 = .ok (.getfield 137, 3) := by decide +kernel
theorem dX12_worked_48 : decode cX12_worked 48 = .ok (.ifCond .ge 19, 3) := by decide +kernel
theorem dX12_worked_51 : decode cX12_worked 51 = .ok (.aload_n 0, 1) := by decide +kernel
theorem dX12_worked_52 : decode cX12_worked 52 = .ok (.getfield 130, 3) := by decide +kernel
theorem dX12_worked_55 : decode cX12_worked 55 = .ok (.aload_n 0, 1) := by decide +kernel
theorem dX12_worked_56 : decode cX12_worked 56 = .ok (.getfield 134, 3) := by decide +kernel
theorem dX12_worked_59 : decode cX12_worked 59 = .ok (.if_icmp .ge 8, 3) := by decide +kernel
theorem dX12_worked_62 : decode cX12_worked 62 = .ok (.aload_n 0, 1) := by decide +kernel
theorem dX12_worked_63 : decode cX12_worked 63 = .ok (.invokevirtual 172, 3) := by decide +kernel
theorem dX12_worked_66 : decode cX12_worked 66 = .ok (.ireturn, 1) := by decide +kernel
theorem dX12_worked_67 : decode cX12_worked 67 = .ok (.iload 4, 2) := by decide +kernel
theorem dX12_worked_69 : decode cX12_worked 69 = .ok (.ireturn, 1) := by decide +kernel
theorem dX12_feed_0 : decode cX12_feed 0 = .ok (.iload_n 3, 1) := by decide +kernel
theorem dX12_feed_1 : decode cX12_feed 1 = .ok (.i2l, 1) := by decide +kernel
theorem dX12_feed_2 : decode cX12_feed 2 = .ok (.lconst 1, 1) := by decide +kernel
theorem dX12_feed_3 : decode cX12_feed 3 = .ok (.ldc2_w 185, 3) := by decide +kernel
theorem dX12_feed_6 : decode cX12_feed 6 = .ok (.invokestatic 48, 3) := by decide +kernel
theorem dX12_feed_9 : decode cX12_feed 9 = .ok (.ifCond .ne 9, 3) := by decide +kernel
theorem dX12_feed_12 : decode cX12_feed 12 = .ok (.aload_n 0, 1) := by decide +kernel
theorem dX12_feed_13 : decode cX12_feed 13 = .ok (.iconst 1, 1) := by decide +kernel
theorem dX12_feed_14 : decode cX12_feed 14 = .ok (.invokevirtual 65, 3) := by decide +kernel
theorem dX12_feed_17 : decode cX12_feed 17 = .ok (.ireturn, 1) := by decide +kernel
theorem dX12_feed_18 : decode cX12_feed 18 = .ok (.aload_n 0, 1) := by decide +kernel
theorem dX12_feed_19 : decode cX12_feed 19 = .ok (.getfield 7, 3) := by decide +kernel
theorem dX12_feed_22 : decode cX12_feed 22 = .ok (.bipush 7, 2) := by decide +kernel
theorem dX12_feed_24 : decode cX12_feed 24 = .ok (.iaload, 1) := by decide +kernel
theorem dX12_feed_25 : decode cX12_feed 25 = .ok (.iload_n 3, 1) := by decide +kernel
theorem dX12_feed_26 : decode cX12_feed 26 = .ok (.iadd, 1) := by decide +kernel
theorem dX12_feed_27 : decode cX12_feed 27 = .ok (.bipush 50, 2) := by decide +kernel
theorem dX12_feed_29 : decode cX12_feed 29 = .ok (.if_icmp .le 9, 3) := by decide +kernel
theorem dX12_feed_32 : decode cX12_feed 32 = .ok (.aload_n 0, 1) := by decide +kernel
theorem dX12_feed_33 : decode cX12_feed 33 = .ok (.iconst 4, 1) := by decide +kernel
theorem dX12_feed_34 : decode cX12_feed 34 = .ok (.invokevirtual 65, 3) := by decide +kernel
theorem dX12_feed_37 : decode cX12_feed 37 = .ok (.ireturn, 1) := by decide +kernel
theorem dX12_feed_38 : decode cX12_feed 38 = .ok (.iconst 0, 1) := by decide +kernel
theorem dX12_feed_39 : decode cX12_feed 39 = .ok (.istore 4, 2) := by decide +kernel
theorem dX12_feed_41 : decode cX12_feed 41 = .ok (.iload 4, 2) := by decide +kernel
theorem dX12_feed_43 : decode cX12_feed 43 = .ok (.iload_n 3, 1) := by decide +kernel
theorem dX12_feed_44 : decode cX12_feed 44 = .ok (.if_icmp .ge 48, 3) := by decide +kernel
theorem dX12_feed_47 : decode cX12_feed 47 = .ok (.aload_n 0, 1) := by decide +kernel
theorem dX12_feed_48 : decode cX12_feed 48 = .ok (.getfield 7, 3) := by decide +kernel
theorem dX12_feed_51 : decode cX12_feed 51 = .ok (.sipush 250, 3) := by decide +kernel
theorem dX12_feed_54 : decode cX12_feed 54 = .ok (.aload_n 0, 1) := by decide +kernel
theorem dX12_feed_55 : decode cX12_feed 55 = .ok (.getfield 7, 3) := by decide +kernel
theorem dX12_feed_58 : decode cX12_feed 58 = .ok (.bipush 7, 2) := by decide +kernel
theorem dX12_feed_60 : decode cX12_feed 60 = .ok (.iaload, 1) := by decide +kernel
theorem dX12_feed_61 : decode cX12_feed 61 = .ok (.iadd, 1) := by decide +kernel
theorem dX12_feed_62 : decode cX12_feed 62 = .ok (.lload_n 1, 1) := by decide +kernel
theorem dX12_feed_63 : decode cX12_feed 63 = .ok (.bipush 8, 2) := by decide +kernel
theorem dX12_feed_65 : decode cX12_feed 65 = .ok (.iload 4, 2) := by decide +kernel
theorem dX12_feed_67 : decode cX12_feed 67 = .ok (.imul, 1) := by decide +kernel
theorem dX12_feed_68 : decode cX12_feed 68 = .ok (.lshr, 1) := by decide +kernel
theorem dX12_feed_69 : decode cX12_feed 69 = .ok (.ldc2_w 187, 3) := by decide +kernel
theorem dX12_feed_72 : decode cX12_feed 72 = .ok (.land, 1) := by decide +kernel
theorem dX12_feed_73 : decode cX12_feed 73 = .ok (.l2i, 1) := by decide +kernel
theorem dX12_feed_74 : decode cX12_feed 74 = .ok (.iastore, 1) := by decide +kernel
theorem dX12_feed_75 : decode cX12_feed 75 = .ok (.aload_n 0, 1) := by decide +kernel
theorem dX12_feed_76 : decode cX12_feed 76 = .ok (.getfield 7, 3) := by decide +kernel
theorem dX12_feed_79 : decode cX12_feed 79 = .ok (.bipush 7, 2) := by decide +kernel
theorem dX12_feed_81 : decode cX12_feed 81 = .ok (.dup2, 1) := by decide +kernel
theorem dX12_feed_82 : decode cX12_feed 82 = .ok (.iaload, 1) := by decide +kernel
theorem dX12_feed_83 : decode cX12_feed 83 = .ok (.iconst 1, 1) := by decide +kernel
theorem dX12_feed_84 : decode cX12_feed 84 = .ok (.iadd, 1) := by decide +kernel
theorem dX12_feed_85 : decode cX12_feed 85 = .ok (.iastore, 1) := by decide +kernel
theorem dX12_feed_86 : decode cX12_feed 86 = .ok (.iinc 4 1, 3) := by decide +kernel
theorem dX12_feed_89 : decode cX12_feed 89 = .ok (.goto (-48), 3) := by decide +kernel
theorem dX12_feed_92 : decode cX12_feed 92 = .ok (.aload_n 0, 1) := by decide +kernel
theorem dX12_feed_93 : decode cX12_feed 93 = .ok (.getfield 7, 3) := by decide +kernel
theorem dX12_feed_96 : decode cX12_feed 96 = .ok (.bipush 7, 2) := by decide +kernel
theorem dX12_feed_98 : decode cX12_feed 98 = .ok (.iaload, 1) := by decide +kernel
theorem dX12_feed_99 : decode cX12_feed 99 = .ok (.ireturn, 1) := by decide +kernel
theorem dX12_text_0 : decode cX12_text 0 = .ok (.iload_n 1, 1) := by decide +kernel
theorem dX12_text_1 : decode cX12_text 1 = .ok (.i2l, 1) := by decide +kernel
theorem dX12_text_2 : decode cX12_text 2 = .ok (.lconst 0, 1) := by decide +kernel
theorem dX12_text_3 : decode cX12_text 3 = .ok (.lconst 1, 1) := by decide +kernel
theorem dX12_text_4 : decode cX12_text 4 = .ok (.invokestatic 48, 3) := by decide +kernel
theorem dX12_text_7 : decode cX12_text 7 = .ok (.ifCond .ne 9, 3) := by decide +kernel
theorem dX12_text_10 : decode cX12_text 10 = .ok (.aload_n 0, 1) := by decide +kernel
theorem dX12_text_11 : decode cX12_text 11 = .ok (.iconst 1, 1) := by decide +kernel
theorem dX12_text_12 : decode cX12_text 12 = .ok (.invokevirtual 65, 3) := by decide +kernel
theorem dX12_text_15 : decode cX12_text 15 = .ok (.ireturn, 1) := by decide +kernel
theorem dX12_text_16 : decode cX12_text 16 = .ok (.aload_n 0, 1) := by decide +kernel
theorem dX12_text_17 : decode cX12_text 17 = .ok (.getfield 7, 3) := by decide +kernel
theorem dX12_text_20 : decode cX12_text 20 = .ok (.bipush 7, 2) := by decide +kernel
theorem dX12_text_22 : decode cX12_text 22 = .ok (.iaload, 1) := by decide +kernel
theorem dX12_text_23 : decode cX12_text 23 = .ok (.istore_n 2, 1) := by decide +kernel
theorem dX12_text_24 : decode cX12_text 24 = .ok (.aload_n 0, 1) := by decide +kernel
theorem dX12_text_25 : decode cX12_text 25 = .ok (.getfield 7, 3) := by decide +kernel
theorem dX12_text_28 : decode cX12_text 28 = .ok (.bipush 7, 2) := by decide +kernel
theorem dX12_text_30 : decode cX12_text 30 = .ok (.iconst 0, 1) := by decide +kernel
theorem dX12_text_31 : decode cX12_text 31 = .ok (.iastore, 1) := by decide +kernel
theorem dX12_text_32 : decode cX12_text 32 = .ok (.aload_n 0, 1) := by decide +kernel
theorem dX12_text_33 : decode cX12_text 33 = .ok (.sipush 250, 3) := by decide +kernel
theorem dX12_text_36 : decode cX12_text 36 = .ok (.iload_n 2, 1) := by decide +kernel
theorem dX12_text_37 : decode cX12_text 37 = .ok (.iload_n 1, 1) := by decide +kernel
theorem dX12_text_38 : decode cX12_text 38 = .ok (.invokevirtual 189, 3) := by decide +kernel
theorem dX12_text_41 : decode cX12_text 41 = .ok (.istore_n 3, 1) := by decide +kernel
theorem dX12_text_42 : decode cX12_text 42 = .ok (.aload_n 0, 1) := by decide +kernel
theorem dX12_text_43 : decode cX12_text 43 = .ok (.getfield 137, 3) := by decide +kernel
theorem dX12_text_46 : decode cX12_text 46 = .ok (.ifCond .lt 11, 3) := by decide +kernel
theorem dX12_text_49 : decode cX12_text 49 = .ok (.bipush (-10), 2) := by decide +kernel
theorem dX12_text_51 : decode cX12_text 51 = .ok (.aload_n 0, 1) := by decide +kernel
theorem dX12_text_52 : decode cX12_text 52 = .ok (.getfield 137, 3) := by decide +kernel
theorem dX12_text_55 : decode cX12_text 55 = .ok (.isub, 1) := by decide +kernel
theorem dX12_text_56 : decode cX12_text 56 = .ok (.ireturn, 1) := by decide +kernel
theorem dX12_text_57 : decode cX12_text 57 = .ok (.aload_n 0, 1) := by decide +kernel
theorem dX12_text_58 : decode cX12_text 58 = .ok (.getfield 7, 3) := by decide +kernel
theorem dX12_text_61 : decode cX12_text 61 = .ok (.bipush 40, 2) := by decide +kernel
theorem dX12_text_63 : decode cX12_text 63 = .ok (.iload_n 1, 1) := by decide +kernel
theorem dX12_text_64 : decode cX12_text 64 = .ok (.iadd, 1) := by decide +kernel
theorem dX12_text_65 : decode cX12_text 65 = .ok (.iload_n 2, 1) := by decide +kernel
theorem dX12_text_66 : decode cX12_text 66 = .ok (.iastore, 1) := by decide +kernel
theorem dX12_text_67 : decode cX12_text 67 = .ok (.iconst 0, 1) := by decide +kernel
theorem dX12_text_68 : decode cX12_text 68 = .ok (.istore 4, 2) := by decide +kernel
theorem dX12_text_70 : decode cX12_text 70 = .ok (.iload 4, 2) := by decide +kernel
theorem dX12_text_72 : decode cX12_text 72 = .ok (.iload_n 2, 1) := by decide +kernel
theorem dX12_text_73 : decode cX12_text 73 = .ok (.if_icmp .ge 36, 3) := by decide +kernel
theorem dX12_text_76 : decode cX12_text 76 = .ok (.aload_n 0, 1) := by decide +kernel
theorem dX12_text_77 : decode cX12_text 77 = .ok (.getfield 7, 3) := by decide +kernel
theorem dX12_text_80 : decode cX12_text 80 = .ok (.sipush 150, 3) := by decide +kernel
theorem dX12_text_83 : decode cX12_text 83 = .ok (.bipush 50, 2) := by decide +kernel
theorem dX12_text_85 : decode cX12_text 85 = .ok (.iload_n 1, 1) := by decide +kernel
theorem dX12_text_86 : decode cX12_text 86 = .ok (.imul, 1) := by decide +kernel
theorem dX12_text_87 : decode cX12_text 87 = .ok (.iadd, 1) := by decide +kernel
theorem dX12_text_88 : decode cX12_text 88 = .ok (.iload 4, 2) := by decide +kernel
theorem dX12_text_90 : decode cX12_text 90 = .ok (.iadd, 1) := by decide +kernel
theorem dX12_text_91 : decode cX12_text 91 = .ok (.aload_n 0, 1) := by decide +kernel
theorem dX12_text_92 : decode cX12_text 92 = .ok (.getfield 7, 3) := by decide +kernel
theorem dX12_text_95 : decode cX12_text 95 = .ok (.sipush 250, 3) := by decide +kernel
theorem dX12_text_98 : decode cX12_text 98 = .ok (.iload 4, 2) := by decide +kernel
theorem dX12_text_100 : decode cX12_text 100 = .ok (.iadd, 1) := by decide +kernel
theorem dX12_text_101 : decode cX12_text 101 = .ok (.iaload, 1) := by decide +kernel
theorem dX12_text_102 : decode cX12_text 102 = .ok (.iastore, 1) := by decide +kernel
theorem dX12_text_103 : decode cX12_text 103 = .ok (.iinc 4 1, 3) := by decide +kernel
theorem dX12_text_106 : decode cX12_text 106 = .ok (.goto (-36), 3) := by decide +kernel
theorem dX12_text_109 : decode cX12_text 109 = .ok (.iconst 1, 1) := by decide +kernel
theorem dX12_text_110 : decode cX12_text 110 = .ok (.ireturn, 1) := by decide +kernel
theorem dX12_givesOf_0 : decode cX12_givesOf 0 = .ok (.aload_n 0, 1) := by decide +kernel
theorem dX12_givesOf_1 : decode cX12_givesOf 1 = .ok (.getfield 7, 3) := by decide +kernel
theorem dX12_givesOf_4 : decode cX12_givesOf 4 = .ok (.bipush 40, 2) := by decide +kernel
theorem dX12_givesOf_6 : decode cX12_givesOf 6 = .ok (.iload_n 1, 1) := by decide +kernel
theorem dX12_givesOf_7 : decode cX12_givesOf 7 = .ok (.iadd, 1) := by decide +kernel
theorem dX12_givesOf_8 : decode cX12_givesOf 8 = .ok (.iaload, 1) := by decide +kernel
theorem dX12_givesOf_9 : decode cX12_givesOf 9 = .ok (.ifCond .le 56, 3) := by decide +kernel
theorem dX12_givesOf_12 : decode cX12_givesOf 12 = .ok (.aload_n 0, 1) := by decide +kernel
theorem dX12_givesOf_13 : decode cX12_givesOf 13 = .ok (.getfield 28, 3) := by decide +kernel
theorem dX12_givesOf_16 : decode cX12_givesOf 16 = .ok (.iconst 0, 1) := by decide +kernel
theorem dX12_givesOf_17 : decode cX12_givesOf 17 = .ok (.iload_n 2, 1) := by decide +kernel
theorem dX12_givesOf_18 : decode cX12_givesOf 18 = .ok (.iastore, 1) := by decide +kernel
theorem dX12_givesOf_19 : decode cX12_givesOf 19 = .ok (.aload_n 0, 1) := by decide +kernel
theorem dX12_givesOf_20 : decode cX12_givesOf 20 = .ok (.getfield 28, 3) := by decide +kernel
theorem dX12_givesOf_23 : decode cX12_givesOf 23 = .ok (.iconst 1, 1) := by decide +kernel
theorem dX12_givesOf_24 : decode cX12_givesOf 24 = .ok (.iload_n 3, 1) := by decide +kernel
theorem dX12_givesOf_25 : decode cX12_givesOf 25 = .ok (.iastore, 1) := by decide +kernel
theorem dX12_givesOf_26 : decode cX12_givesOf 26 = .ok (.aload_n 0, 1) := by decide +kernel
theorem dX12_givesOf_27 : decode cX12_givesOf 27 = .ok (.getfield 28, 3) := by decide +kernel
theorem dX12_givesOf_30 : decode cX12_givesOf 30 = .ok (.iconst 2, 1) := by decide +kernel
theorem dX12_givesOf_31 : decode cX12_givesOf 31 = .ok (.iload 4, 2) := by decide +kernel
theorem dX12_givesOf_33 : decode cX12_givesOf 33 = .ok (.iastore, 1) := by decide +kernel
theorem dX12_givesOf_34 : decode cX12_givesOf 34 = .ok (.aload_n 0, 1) := by decide +kernel
theorem dX12_givesOf_35 : decode cX12_givesOf 35 = .ok (.sipush 150, 3) := by decide +kernel
theorem dX12_givesOf_38 : decode cX12_givesOf 38 = .ok (.bipush 50, 2) := by decide +kernel
theorem dX12_givesOf_40 : decode cX12_givesOf 40 = .ok (.iload_n 1, 1) := by decide +kernel
theorem dX12_givesOf_41 : decode cX12_givesOf 41 = .ok (.imul, 1) := by decide +kernel
theorem dX12_givesOf_42 : decode cX12_givesOf 42 = .ok (.iadd, 1) := by decide +kernel
theorem dX12_givesOf_43 : decode cX12_givesOf 43 = .ok (.aload_n 0, 1) := by decide +kernel
theorem dX12_givesOf_44 : decode cX12_givesOf 44 = .ok (.getfield 7, 3) := by decide +kernel
theorem dX12_givesOf_47 : decode cX12_givesOf 47 = .ok (.bipush 40, 2) := by decide +kernel
theorem dX12_givesOf_49 : decode cX12_givesOf 49 = .ok (.iload_n 1, 1) := by decide +kernel
theorem dX12_givesOf_50 : decode cX12_givesOf 50 = .ok (.iadd, 1) := by decide +kernel
theorem dX12_givesOf_51 : decode cX12_givesOf 51 = .ok (.iaload, 1) := by decide +kernel
theorem dX12_givesOf_52 : decode cX12_givesOf 52 = .ok (.iload_n 1, 1) := by decide +kernel
theorem dX12_givesOf_53 : decode cX12_givesOf 53 = .ok (.invokevirtual 189, 3) := by decide +kernel
theorem dX12_givesOf_56 : decode cX12_givesOf 56 = .ok (.i2l, 1) := by decide +kernel
theorem dX12_givesOf_57 : decode cX12_givesOf 57 = .ok (.iconst 0, 1) := by decide +kernel
theorem dX12_givesOf_58 : decode cX12_givesOf 58 = .ok (.sipush 999, 3) := by decide +kernel
theorem dX12_givesOf_61 : decode cX12_givesOf 61 = .ok (.invokestatic 193, 3) := by decide +kernel
theorem dX12_givesOf_64 : decode cX12_givesOf 64 = .ok (.ireturn, 1) := by decide +kernel
theorem dX12_givesOf_65 : decode cX12_givesOf 65 = .ok (.iload_n 1, 1) := by decide +kernel
theorem dX12_givesOf_66 : decode cX12_givesOf 66 = .ok (.iconst 1, 1) := by decide +kernel
theorem dX12_givesOf_67 : decode cX12_givesOf 67 = .ok (.if_icmp .ne 21, 3) := by decide +kernel
theorem dX12_givesOf_70 : decode cX12_givesOf 70 = .ok (.iload_n 2, 1) := by decide +kernel
theorem dX12_givesOf_71 : decode cX12_givesOf 71 = .ok (.bipush 50, 2) := by decide +kernel
theorem dX12_givesOf_73 : decode cX12_givesOf 73 = .ok (.idiv, 1) := by decide +kernel
theorem dX12_givesOf_74 : decode cX12_givesOf 74 = .ok (.iload_n 3, 1) := by decide +kernel
theorem dX12_givesOf_75 : decode cX12_givesOf 75 = .ok (.bipush 100, 2) := by decide +kernel
theorem dX12_givesOf_77 : decode cX12_givesOf 77 = .ok (.idiv, 1) := by decide +kernel
theorem dX12_givesOf_78 : decode cX12_givesOf 78 = .ok (.iadd, 1) := by decide +kernel
theorem dX12_givesOf_79 : decode cX12_givesOf 79 = .ok (.i2l, 1) := by decide +kernel
theorem dX12_givesOf_80 : decode cX12_givesOf 80 = .ok (.iconst 0, 1) := by decide +kernel
theorem dX12_givesOf_81 : decode cX12_givesOf 81 = .ok (.sipush 999, 3) := by decide +kernel
theorem dX12_givesOf_84 : decode cX12_givesOf 84 = .ok (.invokestatic 193, 3) := by decide +kernel
theorem dX12_givesOf_87 : decode cX12_givesOf 87 = .ok (.ireturn, 1) := by decide +kernel
theorem dX12_givesOf_88 : decode cX12_givesOf 88 = .ok (.iload_n 2, 1) := by decide +kernel
theorem dX12_givesOf_89 : decode cX12_givesOf 89 = .ok (.iload 4, 2) := by decide +kernel
theorem dX12_givesOf_91 : decode cX12_givesOf 91 = .ok (.iconst 4, 1) := by decide +kernel
theorem dX12_givesOf_92 : decode cX12_givesOf 92 = .ok (.imul, 1) := by decide +kernel
theorem dX12_givesOf_93 : decode cX12_givesOf 93 = .ok (.if_icmp .ge 12, 3) := by decide +kernel
theorem dX12_givesOf_96 : decode cX12_givesOf 96 = .ok (.iload_n 3, 1) := by decide +kernel
theorem dX12_givesOf_97 : decode cX12_givesOf 97 = .ok (.iload_n 2, 1) := by decide +kernel
theorem dX12_givesOf_98 : decode cX12_givesOf 98 = .ok (.imul, 1) := by decide +kernel
theorem dX12_givesOf_99 : decode cX12_givesOf 99 = .ok (.iconst 4, 1) := by decide +kernel
theorem dX12_givesOf_100 : decode cX12_givesOf 100 = .ok (.idiv, 1) := by decide +kernel
theorem dX12_givesOf_101 : decode cX12_givesOf 101 = .ok (.i2l, 1) := by decide +kernel
theorem dX12_givesOf_102 : decode cX12_givesOf 102 = .ok (.goto 8, 3) := by decide +kernel
theorem dX12_givesOf_105 : decode cX12_givesOf 105 = .ok (.iload_n 3, 1) := by decide +kernel
theorem dX12_givesOf_106 : decode cX12_givesOf 106 = .ok (.iload 4, 2) := by decide +kernel
theorem dX12_givesOf_108 : decode cX12_givesOf 108 = .ok (.imul, 1) := by decide +kernel
theorem dX12_givesOf_109 : decode cX12_givesOf 109 = .ok (.i2l, 1) := by decide +kernel
theorem dX12_givesOf_110 : decode cX12_givesOf 110 = .ok (.iconst 0, 1) := by decide +kernel
theorem dX12_givesOf_111 : decode cX12_givesOf 111 = .ok (.sipush 999, 3) := by decide +kernel
theorem dX12_givesOf_114 : decode cX12_givesOf 114 = .ok (.invokestatic 193, 3) := by decide +kernel
theorem dX12_givesOf_117 : decode cX12_givesOf 117 = .ok (.ireturn, 1) := by decide +kernel
theorem dX12_gives_0 : decode cX12_gives 0 = .ok (.iload_n 1, 1) := by decide +kernel
theorem dX12_gives_1 : decode cX12_gives 1 = .ok (.i2l, 1) := by decide +kernel
theorem dX12_gives_2 : decode cX12_gives 2 = .ok (.lconst 0, 1) := by decide +kernel
theorem dX12_gives_3 : decode cX12_gives 3 = .ok (.lconst 1, 1) := by decide +kernel
theorem dX12_gives_4 : decode cX12_gives 4 = .ok (.invokestatic 48, 3) := by decide +kernel
theorem dX12_gives_7 : decode cX12_gives 7 = .ok (.ifCond .eq 15, 3) := by decide +kernel
theorem dX12_gives_10 : decode cX12_gives 10 = .ok (.aload_n 0, 1) := by decide +kernel
theorem dX12_gives_11 : decode cX12_gives 11 = .ok (.iload_n 1, 1) := by decide +kernel
theorem dX12_gives_12 : decode cX12_gives 12 = .ok (.iload_n 2, 1) := by decide +kernel
theorem dX12_gives_13 : decode cX12_gives 13 = .ok (.iload_n 3, 1) := by decide +kernel
theorem dX12_gives_14 : decode cX12_gives 14 = .ok (.iload 4, 2) := by decide +kernel
theorem dX12_gives_16 : decode cX12_gives 16 = .ok (.invokevirtual 197, 3) := by decide +kernel
theorem dX12_gives_19 : decode cX12_gives 19 = .ok (.goto 8, 3) := by decide +kernel
theorem dX12_gives_22 : decode cX12_gives 22 = .ok (.aload_n 0, 1) := by decide +kernel
theorem dX12_gives_23 : decode cX12_gives 23 = .ok (.iconst 1, 1) := by decide +kernel
theorem dX12_gives_24 : decode cX12_gives 24 = .ok (.invokevirtual 65, 3) := by decide +kernel
theorem dX12_gives_27 : decode cX12_gives 27 = .ok (.ireturn, 1) := by decide +kernel
theorem dX12_hole_0 : decode cX12_hole 0 = .ok (.iload_n 1, 1) := by decide +kernel
theorem dX12_hole_1 : decode cX12_hole 1 = .ok (.i2l, 1) := by decide +kernel
theorem dX12_hole_2 : decode cX12_hole 2 = .ok (.lconst 1, 1) := by decide +kernel
theorem dX12_hole_3 : decode cX12_hole 3 = .ok (.ldc2_w 63, 3) := by decide +kernel
theorem dX12_hole_6 : decode cX12_hole 6 = .ok (.invokestatic 48, 3) := by decide +kernel
theorem dX12_hole_9 : decode cX12_hole 9 = .ok (.ifCond .ne 9, 3) := by decide +kernel
theorem dX12_hole_12 : decode cX12_hole 12 = .ok (.aload_n 0, 1) := by decide +kernel
theorem dX12_hole_13 : decode cX12_hole 13 = .ok (.iconst 1, 1) := by decide +kernel
theorem dX12_hole_14 : decode cX12_hole 14 = .ok (.invokevirtual 65, 3) := by decide +kernel
theorem dX12_hole_17 : decode cX12_hole 17 = .ok (.ireturn, 1) := by decide +kernel
theorem dX12_hole_18 : decode cX12_hole 18 = .ok (.aload_n 0, 1) := by decide +kernel
theorem dX12_hole_19 : decode cX12_hole 19 = .ok (.getfield 7, 3) := by decide +kernel
theorem dX12_hole_22 : decode cX12_hole 22 = .ok (.iconst 5, 1) := by decide +kernel
theorem dX12_hole_23 : decode cX12_hole 23 = .ok (.iaload, 1) := by decide +kernel
theorem dX12_hole_24 : decode cX12_hole 24 = .ok (.istore_n 2, 1) := by decide +kernel
theorem dX12_hole_25 : decode cX12_hole 25 = .ok (.aload_n 0, 1) := by decide +kernel
theorem dX12_hole_26 : decode cX12_hole 26 = .ok (.getfield 7, 3) := by decide +kernel
theorem dX12_hole_29 : decode cX12_hole 29 = .ok (.iconst 5, 1) := by decide +kernel
theorem dX12_hole_30 : decode cX12_hole 30 = .ok (.iload_n 1, 1) := by decide +kernel
theorem dX12_hole_31 : decode cX12_hole 31 = .ok (.iastore, 1) := by decide +kernel
theorem dX12_hole_32 : decode cX12_hole 32 = .ok (.iload_n 2, 1) := by decide +kernel
theorem dX12_hole_33 : decode cX12_hole 33 = .ok (.ireturn, 1) := by decide +kernel
theorem dX12_strokes_0 : decode cX12_strokes 0 = .ok (.aload_n 1, 1) := by decide +kernel
theorem dX12_strokes_1 : decode cX12_strokes 1 = .ok (.iconst 0, 1) := by decide +kernel
theorem dX12_strokes_2 : decode cX12_strokes 2 = .ok (.iconst 0, 1) := by decide +kernel
theorem dX12_strokes_3 : decode cX12_strokes 3 = .ok (.iconst 1, 1) := by decide +kernel
theorem dX12_strokes_4 : decode cX12_strokes 4 = .ok (.aload_n 0, 1) := by decide +kernel
theorem dX12_strokes_5 : decode cX12_strokes 5 = .ok (.iconst 0, 1) := by decide +kernel
theorem dX12_strokes_6 : decode cX12_strokes 6 = .ok (.iload_n 2, 1) := by decide +kernel
theorem dX12_strokes_7 : decode cX12_strokes 7 = .ok (.iload_n 3, 1) := by decide +kernel
theorem dX12_strokes_8 : decode cX12_strokes 8 = .ok (.aload_n 1, 1) := by decide +kernel
theorem dX12_strokes_9 : decode cX12_strokes 9 = .ok (.iconst 5, 1) := by decide +kernel
theorem dX12_strokes_10 : decode cX12_strokes 10 = .ok (.iaload, 1) := by decide +kernel
theorem dX12_strokes_11 : decode cX12_strokes 11 = .ok (.invokevirtual 197, 3) := by decide +kernel
theorem dX12_strokes_14 : decode cX12_strokes 14 = .ok (.aload_n 1, 1) := by decide +kernel
theorem dX12_strokes_15 : decode cX12_strokes 15 = .ok (.iconst 5, 1) := by decide +kernel
theorem dX12_strokes_16 : decode cX12_strokes 16 = .ok (.iaload, 1) := by decide +kernel
theorem dX12_strokes_17 : decode cX12_strokes 17 = .ok (.iconst 1, 1) := by decide +kernel
theorem dX12_strokes_18 : decode cX12_strokes 18 = .ok (.aload_n 1, 1) := by decide +kernel
theorem dX12_strokes_19 : decode cX12_strokes 19 = .ok (.iconst 5, 1) := by decide +kernel
theorem dX12_strokes_20 : decode cX12_strokes 20 = .ok (.iaload, 1) := by decide +kernel
theorem dX12_strokes_21 : decode cX12_strokes 21 = .ok (.iconst 5, 1) := by decide +kernel
theorem dX12_strokes_22 : decode cX12_strokes 22 = .ok (.idiv, 1) := by decide +kernel
theorem dX12_strokes_23 : decode cX12_strokes 23 = .ok (.iadd, 1) := by decide +kernel
theorem dX12_strokes_24 : decode cX12_strokes 24 = .ok (.invokestatic 69, 3) := by decide +kernel
theorem dX12_strokes_27 : decode cX12_strokes 27 = .ok (.ireturn, 1) := by decide +kernel
theorem dX12_stroke_0 : decode cX12_stroke 0 = .ok (.iload_n 1, 1) := by decide +kernel
theorem dX12_stroke_1 : decode cX12_stroke 1 = .ok (.i2l, 1) := by decide +kernel
theorem dX12_stroke_2 : decode cX12_stroke 2 = .ok (.lconst 1, 1) := by decide +kernel
theorem dX12_stroke_3 : decode cX12_stroke 3 = .ok (.ldc2_w 201, 3) := by decide +kernel
theorem dX12_stroke_6 : decode cX12_stroke 6 = .ok (.invokestatic 48, 3) := by decide +kernel
theorem dX12_stroke_9 : decode cX12_stroke 9 = .ok (.ifCond .eq 15, 3) := by decide +kernel
theorem dX12_stroke_12 : decode cX12_stroke 12 = .ok (.iload_n 2, 1) := by decide +kernel
theorem dX12_stroke_13 : decode cX12_stroke 13 = .ok (.i2l, 1) := by decide +kernel
theorem dX12_stroke_14 : decode cX12_stroke 14 = .ok (.lconst 1, 1) := by decide +kernel
theorem dX12_stroke_15 : decode cX12_stroke 15 = .ok (.ldc2_w 89, 3) := by decide +kernel
theorem dX12_stroke_18 : decode cX12_stroke 18 = .ok (.invokestatic 48, 3) := by decide +kernel
theorem dX12_stroke_21 : decode cX12_stroke 21 = .ok (.ifCond .ne 9, 3) := by decide +kernel
theorem dX12_stroke_24 : decode cX12_stroke 24 = .ok (.aload_n 0, 1) := by decide +kernel
theorem dX12_stroke_25 : decode cX12_stroke 25 = .ok (.iconst 1, 1) := by decide +kernel
theorem dX12_stroke_26 : decode cX12_stroke 26 = .ok (.invokevirtual 65, 3) := by decide +kernel
theorem dX12_stroke_29 : decode cX12_stroke 29 = .ok (.ireturn, 1) := by decide +kernel
theorem dX12_stroke_30 : decode cX12_stroke 30 = .ok (.aload_n 0, 1) := by decide +kernel
theorem dX12_stroke_31 : decode cX12_stroke 31 = .ok (.getfield 7, 3) := by decide +kernel
theorem dX12_stroke_34 : decode cX12_stroke 34 = .ok (.iconst 1, 1) := by decide +kernel
theorem dX12_stroke_35 : decode cX12_stroke 35 = .ok (.iaload, 1) := by decide +kernel
theorem dX12_stroke_36 : decode cX12_stroke 36 = .ok (.bipush 8, 2) := by decide +kernel
theorem dX12_stroke_38 : decode cX12_stroke 38 = .ok (.if_icmp .ne 11, 3) := by decide +kernel
theorem dX12_stroke_41 : decode cX12_stroke 41 = .ok (.aload_n 0, 1) := by decide +kernel
theorem dX12_stroke_42 : decode cX12_stroke 42 = .ok (.iconst 4, 1) := by decide +kernel
theorem dX12_stroke_43 : decode cX12_stroke 43 = .ok (.invokevirtual 65, 3) := by decide +kernel
theorem dX12_stroke_46 : decode cX12_stroke 46 = .ok (.goto 13, 3) := by decide +kernel
theorem dX12_stroke_49 : decode cX12_stroke 49 = .ok (.aload_n 0, 1) := by decide +kernel
theorem dX12_stroke_50 : decode cX12_stroke 50 = .ok (.aload_n 0, 1) := by decide +kernel
theorem dX12_stroke_51 : decode cX12_stroke 51 = .ok (.getfield 7, 3) := by decide +kernel
theorem dX12_stroke_54 : decode cX12_stroke 54 = .ok (.iload_n 1, 1) := by decide +kernel
theorem dX12_stroke_55 : decode cX12_stroke 55 = .ok (.iload_n 2, 1) := by decide +kernel
theorem dX12_stroke_56 : decode cX12_stroke 56 = .ok (.invokevirtual 203, 3) := by decide +kernel
theorem dX12_stroke_59 : decode cX12_stroke 59 = .ok (.ireturn, 1) := by decide +kernel
theorem dX12_trailsOf_0 : decode cX12_trailsOf 0 = .ok (.iload_n 1, 1) := by decide +kernel
theorem dX12_trailsOf_1 : decode cX12_trailsOf 1 = .ok (.iconst 4, 1) := by decide +kernel
theorem dX12_trailsOf_2 : decode cX12_trailsOf 2 = .ok (.aload_n 0, 1) := by decide +kernel
theorem dX12_trailsOf_3 : decode cX12_trailsOf 3 = .ok (.getfield 7, 3) := by decide +kernel
theorem dX12_trailsOf_6 : decode cX12_trailsOf 6 = .ok (.iconst 5, 1) := by decide +kernel
theorem dX12_trailsOf_7 : decode cX12_trailsOf 7 = .ok (.iaload, 1) := by decide +kernel
theorem dX12_trailsOf_8 : decode cX12_trailsOf 8 = .ok (.imul, 1) := by decide +kernel
theorem dX12_trailsOf_9 : decode cX12_trailsOf 9 = .ok (.if_icmp .le 16, 3) := by decide +kernel
theorem dX12_trailsOf_12 : decode cX12_trailsOf 12 = .ok (.iload_n 1, 1) := by decide +kernel
theorem dX12_trailsOf_13 : decode cX12_trailsOf 13 = .ok (.iconst 4, 1) := by decide +kernel
theorem dX12_trailsOf_14 : decode cX12_trailsOf 14 = .ok (.aload_n 0, 1) := by decide +kernel
theorem dX12_trailsOf_15 : decode cX12_trailsOf 15 = .ok (.getfield 7, 3) := by decide +kernel
theorem dX12_trailsOf_18 : decode cX12_trailsOf 18 = .ok (.iconst 5, 1) := by decide +kernel
theorem dX12_trailsOf_19 : decode cX12_trailsOf 19 = .ok (.iaload, 1) := by decide +kernel
theorem dX12_trailsOf_20 : decode cX12_trailsOf 20 = .ok (.imul, 1) := by decide +kernel
theorem dX12_trailsOf_21 : decode cX12_trailsOf 21 = .ok (.isub, 1) := by decide +kernel
theorem dX12_trailsOf_22 : decode cX12_trailsOf 22 = .ok (.goto 4, 3) := by decide +kernel
theorem dX12_trailsOf_25 : decode cX12_trailsOf 25 = .ok (.iconst 0, 1) := by decide +kernel
theorem dX12_trailsOf_26 : decode cX12_trailsOf 26 = .ok (.ireturn, 1) := by decide +kernel
theorem dX12_trails_0 : decode cX12_trails 0 = .ok (.iload_n 1, 1) := by decide +kernel
theorem dX12_trails_1 : decode cX12_trails 1 = .ok (.i2l, 1) := by decide +kernel
theorem dX12_trails_2 : decode cX12_trails 2 = .ok (.lconst 1, 1) := by decide +kernel
theorem dX12_trails_3 : decode cX12_trails 3 = .ok (.ldc2_w 201, 3) := by decide +kernel
theorem dX12_trails_6 : decode cX12_trails 6 = .ok (.invokestatic 48, 3) := by decide +kernel
theorem dX12_trails_9 : decode cX12_trails 9 = .ok (.ifCond .eq 11, 3) := by decide +kernel
theorem dX12_trails_12 : decode cX12_trails 12 = .ok (.aload_n 0, 1) := by decide +kernel
theorem dX12_trails_13 : decode cX12_trails 13 = .ok (.iload_n 1, 1) := by decide +kernel
theorem dX12_trails_14 : decode cX12_trails 14 = .ok (.invokevirtual 206, 3) := by decide +kernel
theorem dX12_trails_17 : decode cX12_trails 17 = .ok (.goto 8, 3) := by decide +kernel
theorem dX12_trails_20 : decode cX12_trails 20 = .ok (.aload_n 0, 1) := by decide +kernel
theorem dX12_trails_21 : decode cX12_trails 21 = .ok (.iconst 1, 1) := by decide +kernel
theorem dX12_trails_22 : decode cX12_trails 22 = .ok (.invokevirtual 65, 3) := by decide +kernel
theorem dX12_trails_25 : decode cX12_trails 25 = .ok (.ireturn, 1) := by decide +kernel
theorem dX12_goesOn_0 : decode cX12_goesOn 0 = .ok (.bipush 80, 2) := by decide +kernel
theorem dX12_goesOn_2 : decode cX12_goesOn 2 = .ok (.bipush 8, 2) := by decide +kernel
theorem dX12_goesOn_4 : decode cX12_goesOn 4 = .ok (.iload_n 2, 1) := by decide +kernel
theorem dX12_goesOn_5 : decode cX12_goesOn 5 = .ok (.imul, 1) := by decide +kernel
theorem dX12_goesOn_6 : decode cX12_goesOn 6 = .ok (.iadd, 1) := by decide +kernel
theorem dX12_goesOn_7 : decode cX12_goesOn 7 = .ok (.istore_n 3, 1) := by decide +kernel
theorem dX12_goesOn_8 : decode cX12_goesOn 8 = .ok (.aload_n 0, 1) := by decide +kernel
theorem dX12_goesOn_9 : decode cX12_goesOn 9 = .ok (.getfield 19, 3) := by decide +kernel
theorem dX12_goesOn_12 : decode cX12_goesOn 12 = .ok (.iload_n 2, 1) := by decide +kernel
theorem dX12_goesOn_13 : decode cX12_goesOn 13 = .ok (.iconst 4, 1) := by decide +kernel
theorem dX12_goesOn_14 : decode cX12_goesOn 14 = .ok (.invokestatic 73, 3) := by decide +kernel
theorem dX12_goesOn_17 : decode cX12_goesOn 17 = .ok (.istore 4, 2) := by decide +kernel
theorem dX12_goesOn_19 : decode cX12_goesOn 19 = .ok (.aload_n 0, 1) := by decide +kernel
theorem dX12_goesOn_20 : decode cX12_goesOn 20 = .ok (.getfield 19, 3) := by decide +kernel
theorem dX12_goesOn_23 : decode cX12_goesOn 23 = .ok (.iload_n 2, 1) := by decide +kernel
theorem dX12_goesOn_24 : decode cX12_goesOn 24 = .ok (.iconst 1, 1) := by decide +kernel
theorem dX12_goesOn_25 : decode cX12_goesOn 25 = .ok (.invokestatic 73, 3) := by decide +kernel
theorem dX12_goesOn_28 : decode cX12_goesOn 28 = .ok (.istore 5, 2) := by decide +kernel
theorem dX12_goesOn_30 : decode cX12_goesOn 30 = .ok (.iconst 0, 1) := by decide +kernel
theorem dX12_goesOn_31 : decode cX12_goesOn 31 = .ok (.istore 6, 2) := by decide +kernel
theorem dX12_goesOn_33 : decode cX12_goesOn 33 = .ok (.iload 6, 2) := by decide +kernel
theorem dX12_goesOn_35 : decode cX12_goesOn 35 = .ok (.aload_n 1, 1) := by decide +kernel
theorem dX12_goesOn_36 : decode cX12_goesOn 36 = .ok (.iconst 2, 1) := by decide +kernel
theorem dX12_goesOn_37 : decode cX12_goesOn 37 = .ok (.iaload, 1) := by decide +kernel
theorem dX12_goesOn_38 : decode cX12_goesOn 38 = .ok (.if_icmp .ge 107, 3) := by decide +kernel
theorem dX12_goesOn_41 : decode cX12_goesOn 41 = .ok (.aload_n 1, 1) := by decide +kernel
theorem dX12_goesOn_42 : decode cX12_goesOn 42 = .ok (.iconst 3, 1) := by decide +kernel
theorem dX12_goesOn_43 : decode cX12_goesOn 43 = .ok (.iaload, 1) := by decide +kernel
theorem dX12_goesOn_44 : decode cX12_goesOn 44 = .ok (.iload 6, 2) := by decide +kernel
theorem dX12_goesOn_46 : decode cX12_goesOn 46 = .ok (.ishr, 1) := by decide +kernel
theorem dX12_goesOn_47 : decode cX12_goesOn 47 = .ok (.iconst 1, 1) := by decide +kernel
theorem dX12_goesOn_48 : decode cX12_goesOn 48 = .ok (.iand, 1) := by decide +kernel
theorem dX12_goesOn_49 : decode cX12_goesOn 49 = .ok (.iconst 1, 1) := by decide +kernel
theorem dX12_goesOn_50 : decode cX12_goesOn 50 = .ok (.if_icmp .ne 89, 3) := by decide +kernel
theorem dX12_goesOn_53 : decode cX12_goesOn 53 = .ok (.iload 4, 2) := by decide +kernel
theorem dX12_goesOn_55 : decode cX12_goesOn 55 = .ok (.aload_n 0, 1) := by decide +kernel
theorem dX12_goesOn_56 : decode cX12_goesOn 56 = .ok (.getfield 19, 3) := by decide +kernel
theorem dX12_goesOn_59 : decode cX12_goesOn 59 = .ok (.iload 6, 2) := by decide +kernel
theorem dX12_goesOn_61 : decode cX12_goesOn 61 = .ok (.iload_n 2, 1) := by decide +kernel
theorem dX12_goesOn_62 : decode cX12_goesOn 62 = .ok (.invokestatic 114, 3) := by decide +kernel
theorem dX12_goesOn_65 : decode cX12_goesOn 65 = .ok (.iadd, 1) := by decide +kernel
theorem dX12_goesOn_66 : decode cX12_goesOn 66 = .ok (.istore 4, 2) := by decide +kernel
theorem dX12_goesOn_68 : decode cX12_goesOn 68 = .ok (.iload 5, 2) := by decide +kernel
theorem dX12_goesOn_70 : decode cX12_goesOn 70 = .ok (.aload_n 0, 1) := by decide +kernel
theorem dX12_goesOn_71 : decode cX12_goesOn 71 = .ok (.getfield 19, 3) := by decide +kernel
theorem dX12_goesOn_74 : decode cX12_goesOn 74 = .ok (.iload 6, 2) := by decide +kernel
theorem dX12_goesOn_76 : decode cX12_goesOn 76 = .ok (.iload_n 2, 1) := by decide +kernel
theorem dX12_goesOn_77 : decode cX12_goesOn 77 = .ok (.invokestatic 127, 3) := by decide +kernel
theorem dX12_goesOn_80 : decode cX12_goesOn 80 = .ok (.iadd, 1) := by decide +kernel
theorem dX12_goesOn_81 : decode cX12_goesOn 81 = .ok (.istore 5, 2) := by decide +kernel
theorem dX12_goesOn_83 : decode cX12_goesOn 83 = .ok (.iconst 0, 1) := by decide +kernel
theorem dX12_goesOn_84 : decode cX12_goesOn 84 = .ok (.istore 7, 2) := by decide +kernel
theorem dX12_goesOn_86 : decode cX12_goesOn 86 = .ok (.iload 7, 2) := by decide +kernel
theorem dX12_goesOn_88 : decode cX12_goesOn 88 = .ok (.aload_n 1, 1) := by decide +kernel
theorem dX12_goesOn_89 : decode cX12_goesOn 89 = .ok (.iconst 1, 1) := by decide +kernel
theorem dX12_goesOn_90 : decode cX12_goesOn 90 = .ok (.iaload, 1) := by decide +kernel
theorem dX12_goesOn_91 : decode cX12_goesOn 91 = .ok (.if_icmp .ge 48, 3) := by decide +kernel
theorem dX12_goesOn_94 : decode cX12_goesOn 94 = .ok (.iload 4, 2) := by decide +kernel
theorem dX12_goesOn_96 : decode cX12_goesOn 96 = .ok (.iload 7, 2) := by decide +kernel
theorem dX12_goesOn_98 : decode cX12_goesOn 98 = .ok (.iload_n 2, 1) := by decide +kernel
theorem dX12_goesOn_99 : decode cX12_goesOn 99 = .ok (.if_icmp .eq 30, 3) := by decide +kernel
theorem dX12_goesOn_102 : decode cX12_goesOn 102 = .ok (.aload_n 0, 1) := by decide +kernel
theorem dX12_goesOn_103 : decode cX12_goesOn 103 = .ok (.getfield 19, 3) := by decide +kernel
theorem dX12_goesOn_106 : decode cX12_goesOn 106 = .ok (.iload 7, 2) := by decide +kernel
theorem dX12_goesOn_108 : decode cX12_goesOn 108 = .ok (.invokestatic 209, 3) := by decide +kernel
theorem dX12_goesOn_111 : decode cX12_goesOn 111 = .ok (.ifCond .eq 18, 3) := by decide +kernel
theorem dX12_goesOn_114 : decode cX12_goesOn 114 = .ok (.aload_n 0, 1) := by decide +kernel
theorem dX12_goesOn_115 : decode cX12_goesOn 115 = .ok (.getfield 19, 3) := by decide +kernel
theorem dX12_goesOn_118 : decode cX12_goesOn 118 = .ok (.iload 6, 2) := by decide +kernel
theorem dX12_goesOn_120 : decode cX12_goesOn 120 = .ok (.iload_n 2, 1) := by decide +kernel
theorem dX12_goesOn_121 : decode cX12_goesOn 121 = .ok (.iload 7, 2) := by decide +kernel
theorem dX12_goesOn_123 : decode cX12_goesOn 123 = .ok (.invokestatic 119, 3) := by decide +kernel
theorem dX12_goesOn_126 : decode cX12_goesOn 126 = .ok (.goto 4, 3) := by decide +kernel
theorem dX12_goesOn_129 : decode cX12_goesOn 129 = .ok (.iconst 0, 1) := by decide +kernel
theorem dX12_goesOn_130 : decode cX12_goesOn 130 = .ok (.iadd, 1) := by decide +kernel
theorem dX12_goesOn_131 : decode cX12_goesOn 131 = .ok (.istore 4, 2) := by decide +kernel
theorem dX12_goesOn_133 : decode cX12_goesOn 133 = .ok (.iinc 7 1, 3) := by decide +kernel
theorem dX12_goesOn_136 : decode cX12_goesOn 136 = .ok (.goto (-50), 3) := by decide +kernel
theorem dX12_goesOn_139 : decode cX12_goesOn 139 = .ok (.iinc 6 1, 3) := by decide +kernel
theorem dX12_goesOn_142 : decode cX12_goesOn 142 = .ok (.goto (-109), 3) := by decide +kernel
theorem dX12_goesOn_145 : decode cX12_goesOn 145 = .ok (.aload_n 1, 1) := by decide +kernel
theorem dX12_goesOn_146 : decode cX12_goesOn 146 = .ok (.iload_n 3, 1) := by decide +kernel
theorem dX12_goesOn_147 : decode cX12_goesOn 147 = .ok (.iconst 0, 1) := by decide +kernel
theorem dX12_goesOn_148 : decode cX12_goesOn 148 = .ok (.iadd, 1) := by decide +kernel
theorem dX12_goesOn_149 : decode cX12_goesOn 149 = .ok (.aload_n 0, 1) := by decide +kernel
theorem dX12_goesOn_150 : decode cX12_goesOn 150 = .ok (.getfield 19, 3) := by decide +kernel
theorem dX12_goesOn_153 : decode cX12_goesOn 153 = .ok (.iload_n 2, 1) := by decide +kernel
theorem dX12_goesOn_154 : decode cX12_goesOn 154 = .ok (.iconst 0, 1) := by decide +kernel
theorem dX12_goesOn_155 : decode cX12_goesOn 155 = .ok (.invokestatic 73, 3) := by decide +kernel
theorem dX12_goesOn_158 : decode cX12_goesOn 158 = .ok (.aload_n 0, 1) := by decide +kernel
theorem dX12_goesOn_159 : decode cX12_goesOn 159 = .ok (.getfield 19, 3) := by decide +kernel
theorem dX12_goesOn_162 : decode cX12_goesOn 162 = .ok (.iload_n 2, 1) := by decide +kernel
theorem dX12_goesOn_163 : decode cX12_goesOn 163 = .ok (.invokestatic 83, 3) := by decide +kernel
theorem dX12_goesOn_166 : decode cX12_goesOn 166 = .ok (.aload_n 0, 1) := by decide +kernel
theorem dX12_goesOn_167 : decode cX12_goesOn 167 = .ok (.getfield 19, 3) := by decide +kernel
theorem dX12_goesOn_170 : decode cX12_goesOn 170 = .ok (.iload_n 2, 1) := by decide +kernel
theorem dX12_goesOn_171 : decode cX12_goesOn 171 = .ok (.iconst 2, 1) := by decide +kernel
theorem dX12_goesOn_172 : decode cX12_goesOn 172 = .ok (.invokestatic 73, 3) := by decide +kernel
theorem dX12_goesOn_175 : decode cX12_goesOn 175 = .ok (.imul, 1) := by decide +kernel
theorem dX12_goesOn_176 : decode cX12_goesOn 176 = .ok (.iadd, 1) := by decide +kernel
theorem dX12_goesOn_177 : decode cX12_goesOn 177 = .ok (.i2l, 1) := by decide +kernel
theorem dX12_goesOn_178 : decode cX12_goesOn 178 = .ok (.ldc 213, 2) := by decide +kernel
theorem dX12_goesOn_180 : decode cX12_goesOn 180 = .ok (.ldc 46, 2) := by decide +kernel
theorem dX12_goesOn_182 : decode cX12_goesOn 182 = .ok (.invokestatic 193, 3) := by decide +kernel
theorem dX12_goesOn_185 : decode cX12_goesOn 185 = .ok (.iastore, 1) := by decide +kernel
theorem dX12_goesOn_186 : decode cX12_goesOn 186 = .ok (.aload_n 1, 1) := by decide +kernel
theorem dX12_goesOn_187 : decode cX12_goesOn 187 = .ok (.iload_n 3, 1) := by decide +kernel
theorem dX12_goesOn_188 : decode cX12_goesOn 188 = .ok (.iconst 4, 1) := by decide +kernel
theorem dX12_goesOn_189 : decode cX12_goesOn 189 = .ok (.iadd, 1) := by decide +kernel
theorem dX12_goesOn_190 : decode cX12_goesOn 190 = .ok (.iload 4, 2) := by decide +kernel
theorem dX12_goesOn_192 : decode cX12_goesOn 192 = .ok (.i2l, 1) := by decide +kernel
theorem dX12_goesOn_193 : decode cX12_goesOn 193 = .ok (.iconst 1, 1) := by decide +kernel
theorem dX12_goesOn_194 : decode cX12_goesOn 194 = .ok (.sipush 200, 3) := by decide +kernel
theorem dX12_goesOn_197 : decode cX12_goesOn 197 = .ok (.invokestatic 193, 3) := by decide +kernel
theorem dX12_goesOn_200 : decode cX12_goesOn 200 = .ok (.iastore, 1) := by decide +kernel
theorem dX12_goesOn_201 : decode cX12_goesOn 201 = .ok (.aload_n 1, 1) := by decide +kernel
theorem dX12_goesOn_202 : decode cX12_goesOn 202 = .ok (.iload_n 3, 1) := by decide +kernel
theorem dX12_goesOn_203 : decode cX12_goesOn 203 = .ok (.iconst 1, 1) := by decide +kernel
theorem dX12_goesOn_204 : decode cX12_goesOn 204 = .ok (.iadd, 1) := by decide +kernel
theorem dX12_goesOn_205 : decode cX12_goesOn 205 = .ok (.iload 5, 2) := by decide +kernel
theorem dX12_goesOn_207 : decode cX12_goesOn 207 = .ok (.i2l, 1) := by decide +kernel
theorem dX12_goesOn_208 : decode cX12_goesOn 208 = .ok (.sipush (-999), 3) := by decide +kernel
theorem dX12_goesOn_211 : decode cX12_goesOn 211 = .ok (.sipush 999, 3) := by decide +kernel
theorem dX12_goesOn_214 : decode cX12_goesOn 214 = .ok (.invokestatic 193, 3) := by decide +kernel
theorem dX12_goesOn_217 : decode cX12_goesOn 217 = .ok (.iastore, 1) := by decide +kernel
theorem dX12_goesOn_218 : decode cX12_goesOn 218 = .ok (.aload_n 1, 1) := by decide +kernel
theorem dX12_goesOn_219 : decode cX12_goesOn 219 = .ok (.iload_n 3, 1) := by decide +kernel
theorem dX12_goesOn_220 : decode cX12_goesOn 220 = .ok (.iconst 3, 1) := by decide +kernel
theorem dX12_goesOn_221 : decode cX12_goesOn 221 = .ok (.iadd, 1) := by decide +kernel
theorem dX12_goesOn_222 : decode cX12_goesOn 222 = .ok (.aload_n 0, 1) := by decide +kernel
theorem dX12_goesOn_223 : decode cX12_goesOn 223 = .ok (.getfield 19, 3) := by decide +kernel
theorem dX12_goesOn_226 : decode cX12_goesOn 226 = .ok (.iload_n 2, 1) := by decide +kernel
theorem dX12_goesOn_227 : decode cX12_goesOn 227 = .ok (.iconst 3, 1) := by decide +kernel
theorem dX12_goesOn_228 : decode cX12_goesOn 228 = .ok (.invokestatic 73, 3) := by decide +kernel
theorem dX12_goesOn_231 : decode cX12_goesOn 231 = .ok (.aload_n 0, 1) := by decide +kernel
theorem dX12_goesOn_232 : decode cX12_goesOn 232 = .ok (.iconst 1, 1) := by decide +kernel
theorem dX12_goesOn_233 : decode cX12_goesOn 233 = .ok (.aload_n 0, 1) := by decide +kernel
theorem dX12_goesOn_234 : decode cX12_goesOn 234 = .ok (.getfield 19, 3) := by decide +kernel
theorem dX12_goesOn_237 : decode cX12_goesOn 237 = .ok (.iload_n 2, 1) := by decide +kernel
theorem dX12_goesOn_238 : decode cX12_goesOn 238 = .ok (.iconst 3, 1) := by decide +kernel
theorem dX12_goesOn_239 : decode cX12_goesOn 239 = .ok (.invokestatic 73, 3) := by decide +kernel
theorem dX12_goesOn_242 : decode cX12_goesOn 242 = .ok (.aload_n 0, 1) := by decide +kernel
theorem dX12_goesOn_243 : decode cX12_goesOn 243 = .ok (.getfield 19, 3) := by decide +kernel
theorem dX12_goesOn_246 : decode cX12_goesOn 246 = .ok (.iload_n 2, 1) := by decide +kernel
theorem dX12_goesOn_247 : decode cX12_goesOn 247 = .ok (.iconst 4, 1) := by decide +kernel
theorem dX12_goesOn_248 : decode cX12_goesOn 248 = .ok (.invokestatic 73, 3) := by decide +kernel
theorem dX12_goesOn_251 : decode cX12_goesOn 251 = .ok (.aload_n 0, 1) := by decide +kernel
theorem dX12_goesOn_252 : decode cX12_goesOn 252 = .ok (.getfield 19, 3) := by decide +kernel
theorem dX12_goesOn_255 : decode cX12_goesOn 255 = .ok (.iload_n 2, 1) := by decide +kernel
theorem dX12_goesOn_256 : decode cX12_goesOn 256 = .ok (.iconst 5, 1) := by decide +kernel
theorem dX12_goesOn_257 : decode cX12_goesOn 257 = .ok (.invokestatic 73, 3) := by decide +kernel
theorem dX12_goesOn_260 : decode cX12_goesOn 260 = .ok (.invokevirtual 197, 3) := by decide +kernel
theorem dX12_goesOn_263 : decode cX12_goesOn 263 = .ok (.isub, 1) := by decide +kernel
theorem dX12_goesOn_264 : decode cX12_goesOn 264 = .ok (.i2l, 1) := by decide +kernel
theorem dX12_goesOn_265 : decode cX12_goesOn 265 = .ok (.iconst 0, 1) := by decide +kernel
theorem dX12_goesOn_266 : decode cX12_goesOn 266 = .ok (.sipush 999, 3) := by decide +kernel
theorem dX12_goesOn_269 : decode cX12_goesOn 269 = .ok (.invokestatic 193, 3) := by decide +kernel
theorem dX12_goesOn_272 : decode cX12_goesOn 272 = .ok (.iastore, 1) := by decide +kernel
theorem dX12_goesOn_273 : decode cX12_goesOn 273 = .ok (.return_, 1) := by decide +kernel
theorem dX12_lawThatEnds_0 : decode cX12_lawThatEnds 0 = .ok (.iconst 0, 1) := by decide +kernel
theorem dX12_lawThatEnds_1 : decode cX12_lawThatEnds 1 = .ok (.istore 4, 2) := by decide +kernel
theorem dX12_lawThatEnds_3 : decode cX12_lawThatEnds 3 = .ok (.iload 4, 2) := by decide +kernel
theorem dX12_lawThatEnds_5 : decode cX12_lawThatEnds 5 = .ok (.aload_n 1, 1) := by decide +kernel
theorem dX12_lawThatEnds_6 : decode cX12_lawThatEnds 6 = .ok (.iconst 2, 1) := by decide +kernel
theorem dX12_lawThatEnds_7 : decode cX12_lawThatEnds 7 = .ok (.iaload, 1) := by decide +kernel
theorem dX12_lawThatEnds_8 : decode cX12_lawThatEnds 8 = .ok (.if_icmp .ge 38, 3) := by decide +kernel
theorem dX12_lawThatEnds_11 : decode cX12_lawThatEnds 11 = .ok (.aload_n 1, 1) := by decide +kernel
theorem dX12_lawThatEnds_12 : decode cX12_lawThatEnds 12 = .ok (.iconst 3, 1) := by decide +kernel
theorem dX12_lawThatEnds_13 : decode cX12_lawThatEnds 13 = .ok (.iaload, 1) := by decide +kernel
theorem dX12_lawThatEnds_14 : decode cX12_lawThatEnds 14 = .ok (.iload 4, 2) := by decide +kernel
theorem dX12_lawThatEnds_16 : decode cX12_lawThatEnds 16 = .ok (.ishr, 1) := by decide +kernel
theorem dX12_lawThatEnds_17 : decode cX12_lawThatEnds 17 = .ok (.iconst 1, 1) := by decide +kernel
theorem dX12_lawThatEnds_18 : decode cX12_lawThatEnds 18 = .ok (.iand, 1) := by decide +kernel
theorem dX12_lawThatEnds_19 : decode cX12_lawThatEnds 19 = .ok (.iconst 1, 1) := by decide +kernel
theorem dX12_lawThatEnds_20 : decode cX12_lawThatEnds 20 = .ok (.if_icmp .ne 20, 3) := by decide +kernel
theorem dX12_lawThatEnds_23 : decode cX12_lawThatEnds 23 = .ok (.aload_n 0, 1) := by decide +kernel
theorem dX12_lawThatEnds_24 : decode cX12_lawThatEnds 24 = .ok (.getfield 19, 3) := by decide +kernel
theorem dX12_lawThatEnds_27 : decode cX12_lawThatEnds 27 = .ok (.iload 4, 2) := by decide +kernel
theorem dX12_lawThatEnds_29 : decode cX12_lawThatEnds 29 = .ok (.iload_n 2, 1) := by decide +kernel
theorem dX12_lawThatEnds_30 : decode cX12_lawThatEnds 30 = .ok (.iload_n 3, 1) := by decide +kernel
theorem dX12_lawThatEnds_31 : decode cX12_lawThatEnds 31 = .ok (.invokestatic 123, 3) := by decide +kernel
theorem dX12_lawThatEnds_34 : decode cX12_lawThatEnds 34 = .ok (.ifCond .eq 6, 3) := by decide +kernel
theorem dX12_lawThatEnds_37 : decode cX12_lawThatEnds 37 = .ok (.iload 4, 2) := by decide +kernel
theorem dX12_lawThatEnds_39 : decode cX12_lawThatEnds 39 = .ok (.ireturn, 1) := by decide +kernel
theorem dX12_lawThatEnds_40 : decode cX12_lawThatEnds 40 = .ok (.iinc 4 1, 3) := by decide +kernel
theorem dX12_lawThatEnds_43 : decode cX12_lawThatEnds 43 = .ok (.goto (-40), 3) := by decide +kernel
theorem dX12_lawThatEnds_46 : decode cX12_lawThatEnds 46 = .ok (.iconst (-1), 1) := by decide +kernel
theorem dX12_lawThatEnds_47 : decode cX12_lawThatEnds 47 = .ok (.ireturn, 1) := by decide +kernel
theorem dX12_mayEnd_0 : decode cX12_mayEnd 0 = .ok (.iconst 0, 1) := by decide +kernel
theorem dX12_mayEnd_1 : decode cX12_mayEnd 1 = .ok (.istore_n 3, 1) := by decide +kernel
theorem dX12_mayEnd_2 : decode cX12_mayEnd 2 = .ok (.iload_n 3, 1) := by decide +kernel
theorem dX12_mayEnd_3 : decode cX12_mayEnd 3 = .ok (.aload_n 1, 1) := by decide +kernel
theorem dX12_mayEnd_4 : decode cX12_mayEnd 4 = .ok (.iconst 1, 1) := by decide +kernel
theorem dX12_mayEnd_5 : decode cX12_mayEnd 5 = .ok (.iaload, 1) := by decide +kernel
theorem dX12_mayEnd_6 : decode cX12_mayEnd 6 = .ok (.if_icmp .ge 110, 3) := by decide +kernel
theorem dX12_mayEnd_9 : decode cX12_mayEnd 9 = .ok (.iload_n 3, 1) := by decide +kernel
theorem dX12_mayEnd_10 : decode cX12_mayEnd 10 = .ok (.iload_n 2, 1) := by decide +kernel
theorem dX12_mayEnd_11 : decode cX12_mayEnd 11 = .ok (.if_icmp .eq 24, 3) := by decide +kernel
theorem dX12_mayEnd_14 : decode cX12_mayEnd 14 = .ok (.aload_n 0, 1) := by decide +kernel
theorem dX12_mayEnd_15 : decode cX12_mayEnd 15 = .ok (.getfield 19, 3) := by decide +kernel
theorem dX12_mayEnd_18 : decode cX12_mayEnd 18 = .ok (.iload_n 3, 1) := by decide +kernel
theorem dX12_mayEnd_19 : decode cX12_mayEnd 19 = .ok (.invokestatic 209, 3) := by decide +kernel
theorem dX12_mayEnd_22 : decode cX12_mayEnd 22 = .ok (.ifCond .eq 13, 3) := by decide +kernel
theorem dX12_mayEnd_25 : decode cX12_mayEnd 25 = .ok (.aload_n 0, 1) := by decide +kernel
theorem dX12_mayEnd_26 : decode cX12_mayEnd 26 = .ok (.aload_n 1, 1) := by decide +kernel
theorem dX12_mayEnd_27 : decode cX12_mayEnd 27 = .ok (.iload_n 2, 1) := by decide +kernel
theorem dX12_mayEnd_28 : decode cX12_mayEnd 28 = .ok (.iload_n 3, 1) := by decide +kernel
theorem dX12_mayEnd_29 : decode cX12_mayEnd 29 = .ok (.invokevirtual 214, 3) := by decide +kernel
theorem dX12_mayEnd_32 : decode cX12_mayEnd 32 = .ok (.goto 4, 3) := by decide +kernel
theorem dX12_mayEnd_35 : decode cX12_mayEnd 35 = .ok (.iconst (-1), 1) := by decide +kernel
theorem dX12_mayEnd_36 : decode cX12_mayEnd 36 = .ok (.istore 4, 2) := by decide +kernel
theorem dX12_mayEnd_38 : decode cX12_mayEnd 38 = .ok (.iload 4, 2) := by decide +kernel
theorem dX12_mayEnd_40 : decode cX12_mayEnd 40 = .ok (.ifCond .lt 70, 3) := by decide +kernel
theorem dX12_mayEnd_43 : decode cX12_mayEnd 43 = .ok (.aload_n 1, 1) := by decide +kernel
theorem dX12_mayEnd_44 : decode cX12_mayEnd 44 = .ok (.bipush 80, 2) := by decide +kernel
theorem dX12_mayEnd_46 : decode cX12_mayEnd 46 = .ok (.bipush 8, 2) := by decide +kernel
theorem dX12_mayEnd_48 : decode cX12_mayEnd 48 = .ok (.iload_n 2, 1) := by decide +kernel
theorem dX12_mayEnd_49 : decode cX12_mayEnd 49 = .ok (.imul, 1) := by decide +kernel
theorem dX12_mayEnd_50 : decode cX12_mayEnd 50 = .ok (.iadd, 1) := by decide +kernel
theorem dX12_mayEnd_51 : decode cX12_mayEnd 51 = .ok (.bipush 6, 2) := by decide +kernel
theorem dX12_mayEnd_53 : decode cX12_mayEnd 53 = .ok (.iadd, 1) := by decide +kernel
theorem dX12_mayEnd_54 : decode cX12_mayEnd 54 = .ok (.iconst 0, 1) := by decide +kernel
theorem dX12_mayEnd_55 : decode cX12_mayEnd 55 = .ok (.iastore, 1) := by decide +kernel
theorem dX12_mayEnd_56 : decode cX12_mayEnd 56 = .ok (.aload_n 1, 1) := by decide +kernel
theorem dX12_mayEnd_57 : decode cX12_mayEnd 57 = .ok (.bipush 20, 2) := by decide +kernel
theorem dX12_mayEnd_59 : decode cX12_mayEnd 59 = .ok (.iconst 2, 1) := by decide +kernel
theorem dX12_mayEnd_60 : decode cX12_mayEnd 60 = .ok (.iload 4, 2) := by decide +kernel
theorem dX12_mayEnd_62 : decode cX12_mayEnd 62 = .ok (.imul, 1) := by decide +kernel
theorem dX12_mayEnd_63 : decode cX12_mayEnd 63 = .ok (.iadd, 1) := by decide +kernel
theorem dX12_mayEnd_64 : decode cX12_mayEnd 64 = .ok (.iaload, 1) := by decide +kernel
theorem dX12_mayEnd_65 : decode cX12_mayEnd 65 = .ok (.iconst 2, 1) := by decide +kernel
theorem dX12_mayEnd_66 : decode cX12_mayEnd 66 = .ok (.if_icmp .ne 43, 3) := by decide +kernel
theorem dX12_mayEnd_69 : decode cX12_mayEnd 69 = .ok (.aload_n 1, 1) := by decide +kernel
theorem dX12_mayEnd_70 : decode cX12_mayEnd 70 = .ok (.iload_n 3, 1) := by decide +kernel
theorem dX12_mayEnd_71 : decode cX12_mayEnd 71 = .ok (.invokestatic 209, 3) := by decide +kernel
theorem dX12_mayEnd_74 : decode cX12_mayEnd 74 = .ok (.ifCond .eq 35, 3) := by decide +kernel
theorem dX12_mayEnd_77 : decode cX12_mayEnd 77 = .ok (.aload_n 1, 1) := by decide +kernel
theorem dX12_mayEnd_78 : decode cX12_mayEnd 78 = .ok (.bipush 80, 2) := by decide +kernel
theorem dX12_mayEnd_80 : decode cX12_mayEnd 80 = .ok (.bipush 8, 2) := by decide +kernel
theorem dX12_mayEnd_82 : decode cX12_mayEnd 82 = .ok (.iload_n 3, 1) := by decide +kernel
theorem dX12_mayEnd_83 : decode cX12_mayEnd 83 = .ok (.imul, 1) := by decide +kernel
theorem dX12_mayEnd_84 : decode cX12_mayEnd 84 = .ok (.iadd, 1) := by decide +kernel
theorem dX12_mayEnd_85 : decode cX12_mayEnd 85 = .ok (.iconst 3, 1) := by decide +kernel
theorem dX12_mayEnd_86 : decode cX12_mayEnd 86 = .ok (.iadd, 1) := by decide +kernel
theorem dX12_mayEnd_87 : decode cX12_mayEnd 87 = .ok (.aload_n 1, 1) := by decide +kernel
theorem dX12_mayEnd_88 : decode cX12_mayEnd 88 = .ok (.iload_n 3, 1) := by decide +kernel
theorem dX12_mayEnd_89 : decode cX12_mayEnd 89 = .ok (.iconst 3, 1) := by decide +kernel
theorem dX12_mayEnd_90 : decode cX12_mayEnd 90 = .ok (.invokestatic 73, 3) := by decide +kernel
theorem dX12_mayEnd_93 : decode cX12_mayEnd 93 = .ok (.aload_n 1, 1) := by decide +kernel
theorem dX12_mayEnd_94 : decode cX12_mayEnd 94 = .ok (.iload_n 2, 1) := by decide +kernel
theorem dX12_mayEnd_95 : decode cX12_mayEnd 95 = .ok (.iconst 3, 1) := by decide +kernel
theorem dX12_mayEnd_96 : decode cX12_mayEnd 96 = .ok (.invokestatic 73, 3) := by decide +kernel
theorem dX12_mayEnd_99 : decode cX12_mayEnd 99 = .ok (.iadd, 1) := by decide +kernel
theorem dX12_mayEnd_100 : decode cX12_mayEnd 100 = .ok (.i2l, 1) := by decide +kernel
theorem dX12_mayEnd_101 : decode cX12_mayEnd 101 = .ok (.iconst 0, 1) := by decide +kernel
theorem dX12_mayEnd_102 : decode cX12_mayEnd 102 = .ok (.sipush 999, 3) := by decide +kernel
theorem dX12_mayEnd_105 : decode cX12_mayEnd 105 = .ok (.invokestatic 193, 3) := by decide +kernel
theorem dX12_mayEnd_108 : decode cX12_mayEnd 108 = .ok (.iastore, 1) := by decide +kernel
theorem dX12_mayEnd_109 : decode cX12_mayEnd 109 = .ok (.return_, 1) := by decide +kernel
theorem dX12_mayEnd_110 : decode cX12_mayEnd 110 = .ok (.iinc 3 1, 3) := by decide +kernel
theorem dX12_mayEnd_113 : decode cX12_mayEnd 113 = .ok (.goto (-111), 3) := by decide +kernel
theorem dX12_mayEnd_116 : decode cX12_mayEnd 116 = .ok (.return_, 1) := by decide +kernel
theorem dX12_goesBy_0 : decode cX12_goesBy 0 = .ok (.iconst 0, 1) := by decide +kernel
theorem dX12_goesBy_1 : decode cX12_goesBy 1 = .ok (.istore_n 2, 1) := by decide +kernel
theorem dX12_goesBy_2 : decode cX12_goesBy 2 = .ok (.iload_n 2, 1) := by decide +kernel
theorem dX12_goesBy_3 : decode cX12_goesBy 3 = .ok (.bipush 80, 2) := by decide +kernel
theorem dX12_goesBy_5 : decode cX12_goesBy 5 = .ok (.bipush 8, 2) := by decide +kernel
theorem dX12_goesBy_7 : decode cX12_goesBy 7 = .ok (.aload_n 1, 1) := by decide +kernel
theorem dX12_goesBy_8 : decode cX12_goesBy 8 = .ok (.iconst 1, 1) := by decide +kernel
theorem dX12_goesBy_9 : decode cX12_goesBy 9 = .ok (.iaload, 1) := by decide +kernel
theorem dX12_goesBy_10 : decode cX12_goesBy 10 = .ok (.imul, 1) := by decide +kernel
theorem dX12_goesBy_11 : decode cX12_goesBy 11 = .ok (.iadd, 1) := by decide +kernel
theorem dX12_goesBy_12 : decode cX12_goesBy 12 = .ok (.if_icmp .ge 18, 3) := by decide +kernel
theorem dX12_goesBy_15 : decode cX12_goesBy 15 = .ok (.aload_n 0, 1) := by decide +kernel
theorem dX12_goesBy_16 : decode cX12_goesBy 16 = .ok (.getfield 19, 3) := by decide +kernel
theorem dX12_goesBy_19 : decode cX12_goesBy 19 = .ok (.iload_n 2, 1) := by decide +kernel
theorem dX12_goesBy_20 : decode cX12_goesBy 20 = .ok (.aload_n 1, 1) := by decide +kernel
theorem dX12_goesBy_21 : decode cX12_goesBy 21 = .ok (.iload_n 2, 1) := by decide +kernel
theorem dX12_goesBy_22 : decode cX12_goesBy 22 = .ok (.iaload, 1) := by decide +kernel
theorem dX12_goesBy_23 : decode cX12_goesBy 23 = .ok (.iastore, 1) := by decide +kernel
theorem dX12_goesBy_24 : decode cX12_goesBy 24 = .ok (.iinc 2 1, 3) := by decide +kernel
theorem dX12_goesBy_27 : decode cX12_goesBy 27 = .ok (.goto (-25), 3) := by decide +kernel
theorem dX12_goesBy_30 : decode cX12_goesBy 30 = .ok (.iconst 0, 1) := by decide +kernel
theorem dX12_goesBy_31 : decode cX12_goesBy 31 = .ok (.istore_n 2, 1) := by decide +kernel
theorem dX12_goesBy_32 : decode cX12_goesBy 32 = .ok (.iload_n 2, 1) := by decide +kernel
theorem dX12_goesBy_33 : decode cX12_goesBy 33 = .ok (.aload_n 1, 1) := by decide +kernel
theorem dX12_goesBy_34 : decode cX12_goesBy 34 = .ok (.iconst 1, 1) := by decide +kernel
theorem dX12_goesBy_35 : decode cX12_goesBy 35 = .ok (.iaload, 1) := by decide +kernel
theorem dX12_goesBy_36 : decode cX12_goesBy 36 = .ok (.if_icmp .ge 26, 3) := by decide +kernel
theorem dX12_goesBy_39 : decode cX12_goesBy 39 = .ok (.aload_n 0, 1) := by decide +kernel
theorem dX12_goesBy_40 : decode cX12_goesBy 40 = .ok (.getfield 19, 3) := by decide +kernel
theorem dX12_goesBy_43 : decode cX12_goesBy 43 = .ok (.iload_n 2, 1) := by decide +kernel
theorem dX12_goesBy_44 : decode cX12_goesBy 44 = .ok (.invokestatic 209, 3) := by decide +kernel
theorem dX12_goesBy_47 : decode cX12_goesBy 47 = .ok (.ifCond .eq 9, 3) := by decide +kernel
theorem dX12_goesBy_50 : decode cX12_goesBy 50 = .ok (.aload_n 0, 1) := by decide +kernel
theorem dX12_goesBy_51 : decode cX12_goesBy 51 = .ok (.aload_n 1, 1) := by decide +kernel
theorem dX12_goesBy_52 : decode cX12_goesBy 52 = .ok (.iload_n 2, 1) := by decide +kernel
theorem dX12_goesBy_53 : decode cX12_goesBy 53 = .ok (.invokevirtual 217, 3) := by decide +kernel
theorem dX12_goesBy_56 : decode cX12_goesBy 56 = .ok (.iinc 2 1, 3) := by decide +kernel
theorem dX12_goesBy_59 : decode cX12_goesBy 59 = .ok (.goto (-27), 3) := by decide +kernel
theorem dX12_goesBy_62 : decode cX12_goesBy 62 = .ok (.iconst 0, 1) := by decide +kernel
theorem dX12_goesBy_63 : decode cX12_goesBy 63 = .ok (.istore_n 2, 1) := by decide +kernel
theorem dX12_goesBy_64 : decode cX12_goesBy 64 = .ok (.iload_n 2, 1) := by decide +kernel
theorem dX12_goesBy_65 : decode cX12_goesBy 65 = .ok (.aload_n 1, 1) := by decide +kernel
theorem dX12_goesBy_66 : decode cX12_goesBy 66 = .ok (.iconst 1, 1) := by decide +kernel
theorem dX12_goesBy_67 : decode cX12_goesBy 67 = .ok (.iaload, 1) := by decide +kernel
theorem dX12_goesBy_68 : decode cX12_goesBy 68 = .ok (.if_icmp .ge 26, 3) := by decide +kernel
theorem dX12_goesBy_71 : decode cX12_goesBy 71 = .ok (.aload_n 0, 1) := by decide +kernel
theorem dX12_goesBy_72 : decode cX12_goesBy 72 = .ok (.getfield 19, 3) := by decide +kernel
theorem dX12_goesBy_75 : decode cX12_goesBy 75 = .ok (.iload_n 2, 1) := by decide +kernel
theorem dX12_goesBy_76 : decode cX12_goesBy 76 = .ok (.invokestatic 209, 3) := by decide +kernel
theorem dX12_goesBy_79 : decode cX12_goesBy 79 = .ok (.ifCond .eq 9, 3) := by decide +kernel
theorem dX12_goesBy_82 : decode cX12_goesBy 82 = .ok (.aload_n 0, 1) := by decide +kernel
theorem dX12_goesBy_83 : decode cX12_goesBy 83 = .ok (.aload_n 1, 1) := by decide +kernel
theorem dX12_goesBy_84 : decode cX12_goesBy 84 = .ok (.iload_n 2, 1) := by decide +kernel
theorem dX12_goesBy_85 : decode cX12_goesBy 85 = .ok (.invokevirtual 221, 3) := by decide +kernel
theorem dX12_goesBy_88 : decode cX12_goesBy 88 = .ok (.iinc 2 1, 3) := by decide +kernel
theorem dX12_goesBy_91 : decode cX12_goesBy 91 = .ok (.goto (-27), 3) := by decide +kernel
theorem dX12_goesBy_94 : decode cX12_goesBy 94 = .ok (.iconst 0, 1) := by decide +kernel
theorem dX12_goesBy_95 : decode cX12_goesBy 95 = .ok (.istore_n 2, 1) := by decide +kernel
theorem dX12_goesBy_96 : decode cX12_goesBy 96 = .ok (.iload_n 2, 1) := by decide +kernel
theorem dX12_goesBy_97 : decode cX12_goesBy 97 = .ok (.aload_n 1, 1) := by decide +kernel
theorem dX12_goesBy_98 : decode cX12_goesBy 98 = .ok (.iconst 1, 1) := by decide +kernel
theorem dX12_goesBy_99 : decode cX12_goesBy 99 = .ok (.iaload, 1) := by decide +kernel
theorem dX12_goesBy_100 : decode cX12_goesBy 100 = .ok (.if_icmp .ge 80, 3) := by decide +kernel
theorem dX12_goesBy_103 : decode cX12_goesBy 103 = .ok (.bipush 80, 2) := by decide +kernel
theorem dX12_goesBy_105 : decode cX12_goesBy 105 = .ok (.bipush 8, 2) := by decide +kernel
theorem dX12_goesBy_107 : decode cX12_goesBy 107 = .ok (.iload_n 2, 1) := by decide +kernel
theorem dX12_goesBy_108 : decode cX12_goesBy 108 = .ok (.imul, 1) := by decide +kernel
theorem dX12_goesBy_109 : decode cX12_goesBy 109 = .ok (.iadd, 1) := by decide +kernel
theorem dX12_goesBy_110 : decode cX12_goesBy 110 = .ok (.istore_n 3, 1) := by decide +kernel
theorem dX12_goesBy_111 : decode cX12_goesBy 111 = .ok (.aload_n 1, 1) := by decide +kernel
theorem dX12_goesBy_112 : decode cX12_goesBy 112 = .ok (.iload_n 3, 1) := by decide +kernel
theorem dX12_goesBy_113 : decode cX12_goesBy 113 = .ok (.bipush 6, 2) := by decide +kernel
theorem dX12_goesBy_115 : decode cX12_goesBy 115 = .ok (.iadd, 1) := by decide +kernel
theorem dX12_goesBy_116 : decode cX12_goesBy 116 = .ok (.iaload, 1) := by decide +kernel
theorem dX12_goesBy_117 : decode cX12_goesBy 117 = .ok (.iconst 1, 1) := by decide +kernel
theorem dX12_goesBy_118 : decode cX12_goesBy 118 = .ok (.if_icmp .ne 18, 3) := by decide +kernel
theorem dX12_goesBy_121 : decode cX12_goesBy 121 = .ok (.aload_n 1, 1) := by decide +kernel
theorem dX12_goesBy_122 : decode cX12_goesBy 122 = .ok (.iload_n 3, 1) := by decide +kernel
theorem dX12_goesBy_123 : decode cX12_goesBy 123 = .ok (.iconst 3, 1) := by decide +kernel
theorem dX12_goesBy_124 : decode cX12_goesBy 124 = .ok (.iadd, 1) := by decide +kernel
theorem dX12_goesBy_125 : decode cX12_goesBy 125 = .ok (.iaload, 1) := by decide +kernel
theorem dX12_goesBy_126 : decode cX12_goesBy 126 = .ok (.ifCond .ne 10, 3) := by decide +kernel
theorem dX12_goesBy_129 : decode cX12_goesBy 129 = .ok (.aload_n 1, 1) := by decide +kernel
theorem dX12_goesBy_130 : decode cX12_goesBy 130 = .ok (.iload_n 3, 1) := by decide +kernel
theorem dX12_goesBy_131 : decode cX12_goesBy 131 = .ok (.bipush 6, 2) := by decide +kernel
theorem dX12_goesBy_133 : decode cX12_goesBy 133 = .ok (.iadd, 1) := by decide +kernel
theorem dX12_goesBy_134 : decode cX12_goesBy 134 = .ok (.iconst 0, 1) := by decide +kernel
theorem dX12_goesBy_135 : decode cX12_goesBy 135 = .ok (.iastore, 1) := by decide +kernel
theorem dX12_goesBy_136 : decode cX12_goesBy 136 = .ok (.aload_n 1, 1) := by decide +kernel
theorem dX12_goesBy_137 : decode cX12_goesBy 137 = .ok (.iload_n 3, 1) := by decide +kernel
theorem dX12_goesBy_138 : decode cX12_goesBy 138 = .ok (.bipush 6, 2) := by decide +kernel
theorem dX12_goesBy_140 : decode cX12_goesBy 140 = .ok (.iadd, 1) := by decide +kernel
theorem dX12_goesBy_141 : decode cX12_goesBy 141 = .ok (.iaload, 1) := by decide +kernel
theorem dX12_goesBy_142 : decode cX12_goesBy 142 = .ok (.iconst 1, 1) := by decide +kernel
theorem dX12_goesBy_143 : decode cX12_goesBy 143 = .ok (.if_icmp .ne 31, 3) := by decide +kernel
theorem dX12_goesBy_146 : decode cX12_goesBy 146 = .ok (.aload_n 1, 1) := by decide +kernel
theorem dX12_goesBy_147 : decode cX12_goesBy 147 = .ok (.iload_n 3, 1) := by decide +kernel
theorem dX12_goesBy_148 : decode cX12_goesBy 148 = .ok (.iconst 2, 1) := by decide +kernel
theorem dX12_goesBy_149 : decode cX12_goesBy 149 = .ok (.iadd, 1) := by decide +kernel
theorem dX12_goesBy_150 : decode cX12_goesBy 150 = .ok (.iaload, 1) := by decide +kernel
theorem dX12_goesBy_151 : decode cX12_goesBy 151 = .ok (.iconst 1, 1) := by decide +kernel
theorem dX12_goesBy_152 : decode cX12_goesBy 152 = .ok (.if_icmp .ne 22, 3) := by decide +kernel
theorem dX12_goesBy_155 : decode cX12_goesBy 155 = .ok (.aload_n 1, 1) := by decide +kernel
theorem dX12_goesBy_156 : decode cX12_goesBy 156 = .ok (.iload_n 3, 1) := by decide +kernel
theorem dX12_goesBy_157 : decode cX12_goesBy 157 = .ok (.iconst 0, 1) := by decide +kernel
theorem dX12_goesBy_158 : decode cX12_goesBy 158 = .ok (.iadd, 1) := by decide +kernel
theorem dX12_goesBy_159 : decode cX12_goesBy 159 = .ok (.iaload, 1) := by decide +kernel
theorem dX12_goesBy_160 : decode cX12_goesBy 160 = .ok (.aload_n 1, 1) := by decide +kernel
theorem dX12_goesBy_161 : decode cX12_goesBy 161 = .ok (.iconst 4, 1) := by decide +kernel
theorem dX12_goesBy_162 : decode cX12_goesBy 162 = .ok (.iaload, 1) := by decide +kernel
theorem dX12_goesBy_163 : decode cX12_goesBy 163 = .ok (.if_icmp .le 11, 3) := by decide +kernel
theorem dX12_goesBy_166 : decode cX12_goesBy 166 = .ok (.aload_n 1, 1) := by decide +kernel
theorem dX12_goesBy_167 : decode cX12_goesBy 167 = .ok (.iload_n 3, 1) := by decide +kernel
theorem dX12_goesBy_168 : decode cX12_goesBy 168 = .ok (.iconst 0, 1) := by decide +kernel
theorem dX12_goesBy_169 : decode cX12_goesBy 169 = .ok (.iadd, 1) := by decide +kernel
theorem dX12_goesBy_170 : decode cX12_goesBy 170 = .ok (.aload_n 1, 1) := by decide +kernel
theorem dX12_goesBy_171 : decode cX12_goesBy 171 = .ok (.iconst 4, 1) := by decide +kernel
theorem dX12_goesBy_172 : decode cX12_goesBy 172 = .ok (.iaload, 1) := by decide +kernel
theorem dX12_goesBy_173 : decode cX12_goesBy 173 = .ok (.iastore, 1) := by decide +kernel
theorem dX12_goesBy_174 : decode cX12_goesBy 174 = .ok (.iinc 2 1, 3) := by decide +kernel
theorem dX12_goesBy_177 : decode cX12_goesBy 177 = .ok (.goto (-81), 3) := by decide +kernel
theorem dX12_goesBy_180 : decode cX12_goesBy 180 = .ok (.aload_n 1, 1) := by decide +kernel
theorem dX12_goesBy_181 : decode cX12_goesBy 181 = .ok (.iconst 0, 1) := by decide +kernel
theorem dX12_goesBy_182 : decode cX12_goesBy 182 = .ok (.dup2, 1) := by decide +kernel
theorem dX12_goesBy_183 : decode cX12_goesBy 183 = .ok (.iaload, 1) := by decide +kernel
theorem dX12_goesBy_184 : decode cX12_goesBy 184 = .ok (.iconst 1, 1) := by decide +kernel
theorem dX12_goesBy_185 : decode cX12_goesBy 185 = .ok (.iadd, 1) := by decide +kernel
theorem dX12_goesBy_186 : decode cX12_goesBy 186 = .ok (.iastore, 1) := by decide +kernel
theorem dX12_goesBy_187 : decode cX12_goesBy 187 = .ok (.return_, 1) := by decide +kernel
theorem dX12_goesAhead_0 : decode cX12_goesAhead 0 = .ok (.iconst 0, 1) := by decide +kernel
theorem dX12_goesAhead_1 : decode cX12_goesAhead 1 = .ok (.istore_n 3, 1) := by decide +kernel
theorem dX12_goesAhead_2 : decode cX12_goesAhead 2 = .ok (.iload_n 3, 1) := by decide +kernel
theorem dX12_goesAhead_3 : decode cX12_goesAhead 3 = .ok (.iload_n 2, 1) := by decide +kernel
theorem dX12_goesAhead_4 : decode cX12_goesAhead 4 = .ok (.if_icmp .ge 14, 3) := by decide +kernel
theorem dX12_goesAhead_7 : decode cX12_goesAhead 7 = .ok (.aload_n 0, 1) := by decide +kernel
theorem dX12_goesAhead_8 : decode cX12_goesAhead 8 = .ok (.aload_n 1, 1) := by decide +kernel
theorem dX12_goesAhead_9 : decode cX12_goesAhead 9 = .ok (.invokevirtual 224, 3) := by decide +kernel
theorem dX12_goesAhead_12 : decode cX12_goesAhead 12 = .ok (.iinc 3 1, 3) := by decide +kernel
theorem dX12_goesAhead_15 : decode cX12_goesAhead 15 = .ok (.goto (-13), 3) := by decide +kernel
theorem dX12_goesAhead_18 : decode cX12_goesAhead 18 = .ok (.return_, 1) := by decide +kernel
theorem dX12_ticks_0 : decode cX12_ticks 0 = .ok (.iload_n 1, 1) := by decide +kernel
theorem dX12_ticks_1 : decode cX12_ticks 1 = .ok (.i2l, 1) := by decide +kernel
theorem dX12_ticks_2 : decode cX12_ticks 2 = .ok (.lconst 1, 1) := by decide +kernel
theorem dX12_ticks_3 : decode cX12_ticks 3 = .ok (.ldc2_w 228, 3) := by decide +kernel
theorem dX12_ticks_6 : decode cX12_ticks 6 = .ok (.invokestatic 48, 3) := by decide +kernel
theorem dX12_ticks_9 : decode cX12_ticks 9 = .ok (.ifCond .ne 9, 3) := by decide +kernel
theorem dX12_ticks_12 : decode cX12_ticks 12 = .ok (.aload_n 0, 1) := by decide +kernel
theorem dX12_ticks_13 : decode cX12_ticks 13 = .ok (.iconst 1, 1) := by decide +kernel
theorem dX12_ticks_14 : decode cX12_ticks 14 = .ok (.invokevirtual 65, 3) := by decide +kernel
theorem dX12_ticks_17 : decode cX12_ticks 17 = .ok (.ireturn, 1) := by decide +kernel
theorem dX12_ticks_18 : decode cX12_ticks 18 = .ok (.aload_n 0, 1) := by decide +kernel
theorem dX12_ticks_19 : decode cX12_ticks 19 = .ok (.getfield 7, 3) := by decide +kernel
theorem dX12_ticks_22 : decode cX12_ticks 22 = .ok (.iconst 0, 1) := by decide +kernel
theorem dX12_ticks_23 : decode cX12_ticks 23 = .ok (.iaload, 1) := by decide +kernel
theorem dX12_ticks_24 : decode cX12_ticks 24 = .ok (.iload_n 1, 1) := by decide +kernel
theorem dX12_ticks_25 : decode cX12_ticks 25 = .ok (.iadd, 1) := by decide +kernel
theorem dX12_ticks_26 : decode cX12_ticks 26 = .ok (.sipush 9999, 3) := by decide +kernel
theorem dX12_ticks_29 : decode cX12_ticks 29 = .ok (.if_icmp .le 9, 3) := by decide +kernel
theorem dX12_ticks_32 : decode cX12_ticks 32 = .ok (.aload_n 0, 1) := by decide +kernel
theorem dX12_ticks_33 : decode cX12_ticks 33 = .ok (.iconst 3, 1) := by decide +kernel
theorem dX12_ticks_34 : decode cX12_ticks 34 = .ok (.invokevirtual 65, 3) := by decide +kernel
theorem dX12_ticks_37 : decode cX12_ticks 37 = .ok (.ireturn, 1) := by decide +kernel
theorem dX12_ticks_38 : decode cX12_ticks 38 = .ok (.aload_n 0, 1) := by decide +kernel
theorem dX12_ticks_39 : decode cX12_ticks 39 = .ok (.aload_n 0, 1) := by decide +kernel
theorem dX12_ticks_40 : decode cX12_ticks 40 = .ok (.getfield 7, 3) := by decide +kernel
theorem dX12_ticks_43 : decode cX12_ticks 43 = .ok (.iload_n 1, 1) := by decide +kernel
theorem dX12_ticks_44 : decode cX12_ticks 44 = .ok (.invokevirtual 230, 3) := by decide +kernel
theorem dX12_ticks_47 : decode cX12_ticks 47 = .ok (.aload_n 0, 1) := by decide +kernel
theorem dX12_ticks_48 : decode cX12_ticks 48 = .ok (.getfield 7, 3) := by decide +kernel
theorem dX12_ticks_51 : decode cX12_ticks 51 = .ok (.iconst 0, 1) := by decide +kernel
theorem dX12_ticks_52 : decode cX12_ticks 52 = .ok (.iaload, 1) := by decide +kernel
theorem dX12_ticks_53 : decode cX12_ticks 53 = .ok (.ireturn, 1) := by decide +kernel
theorem dX12_breeze_0 : decode cX12_breeze 0 = .ok (.iload_n 1, 1) := by decide +kernel
theorem dX12_breeze_1 : decode cX12_breeze 1 = .ok (.i2l, 1) := by decide +kernel
theorem dX12_breeze_2 : decode cX12_breeze 2 = .ok (.lconst 1, 1) := by decide +kernel
theorem dX12_breeze_3 : decode cX12_breeze 3 = .ok (.ldc2_w 228, 3) := by decide +kernel
theorem dX12_breeze_6 : decode cX12_breeze 6 = .ok (.invokestatic 48, 3) := by decide +kernel
theorem dX12_breeze_9 : decode cX12_breeze 9 = .ok (.ifCond .ne 9, 3) := by decide +kernel
theorem dX12_breeze_12 : decode cX12_breeze 12 = .ok (.aload_n 0, 1) := by decide +kernel
theorem dX12_breeze_13 : decode cX12_breeze 13 = .ok (.iconst 1, 1) := by decide +kernel
theorem dX12_breeze_14 : decode cX12_breeze 14 = .ok (.invokevirtual 65, 3) := by decide +kernel
theorem dX12_breeze_17 : decode cX12_breeze 17 = .ok (.ireturn, 1) := by decide +kernel
theorem dX12_breeze_18 : decode cX12_breeze 18 = .ok (.aload_n 0, 1) := by decide +kernel
theorem dX12_breeze_19 : decode cX12_breeze 19 = .ok (.getfield 7, 3) := by decide +kernel
theorem dX12_breeze_22 : decode cX12_breeze 22 = .ok (.iconst 0, 1) := by decide +kernel
theorem dX12_breeze_23 : decode cX12_breeze 23 = .ok (.iaload, 1) := by decide +kernel
theorem dX12_breeze_24 : decode cX12_breeze 24 = .ok (.iload_n 1, 1) := by decide +kernel
theorem dX12_breeze_25 : decode cX12_breeze 25 = .ok (.iadd, 1) := by decide +kernel
theorem dX12_breeze_26 : decode cX12_breeze 26 = .ok (.sipush 9999, 3) := by decide +kernel
theorem dX12_breeze_29 : decode cX12_breeze 29 = .ok (.if_icmp .le 9, 3) := by decide +kernel
theorem dX12_breeze_32 : decode cX12_breeze 32 = .ok (.aload_n 0, 1) := by decide +kernel
theorem dX12_breeze_33 : decode cX12_breeze 33 = .ok (.iconst 3, 1) := by decide +kernel
theorem dX12_breeze_34 : decode cX12_breeze 34 = .ok (.invokevirtual 65, 3) := by decide +kernel
theorem dX12_breeze_37 : decode cX12_breeze 37 = .ok (.ireturn, 1) := by decide +kernel
theorem dX12_breeze_38 : decode cX12_breeze 38 = .ok (.iconst 0, 1) := by decide +kernel
theorem dX12_breeze_39 : decode cX12_breeze 39 = .ok (.istore_n 2, 1) := by decide +kernel
theorem dX12_breeze_40 : decode cX12_breeze 40 = .ok (.iload_n 2, 1) := by decide +kernel
theorem dX12_breeze_41 : decode cX12_breeze 41 = .ok (.iload_n 1, 1) := by decide +kernel
theorem dX12_breeze_42 : decode cX12_breeze 42 = .ok (.if_icmp .ge 116, 3) := by decide +kernel
theorem dX12_breeze_45 : decode cX12_breeze 45 = .ok (.aload_n 0, 1) := by decide +kernel
theorem dX12_breeze_46 : decode cX12_breeze 46 = .ok (.aload_n 0, 1) := by decide +kernel
theorem dX12_breeze_47 : decode cX12_breeze 47 = .ok (.getfield 7, 3) := by decide +kernel
theorem dX12_breeze_50 : decode cX12_breeze 50 = .ok (.invokevirtual 224, 3) := by decide +kernel
theorem dX12_breeze_53 : decode cX12_breeze 53 = .ok (.iconst 0, 1) := by decide +kernel
theorem dX12_breeze_54 : decode cX12_breeze 54 = .ok (.istore_n 3, 1) := by decide +kernel
theorem dX12_breeze_55 : decode cX12_breeze 55 = .ok (.iload_n 3, 1) := by decide +kernel
theorem dX12_breeze_56 : decode cX12_breeze 56 = .ok (.aload_n 0, 1) := by decide +kernel
theorem dX12_breeze_57 : decode cX12_breeze 57 = .ok (.getfield 7, 3) := by decide +kernel
theorem dX12_breeze_60 : decode cX12_breeze 60 = .ok (.iconst 1, 1) := by decide +kernel
theorem dX12_breeze_61 : decode cX12_breeze 61 = .ok (.iaload, 1) := by decide +kernel
theorem dX12_breeze_62 : decode cX12_breeze 62 = .ok (.if_icmp .ge 90, 3) := by decide +kernel
theorem dX12_breeze_65 : decode cX12_breeze 65 = .ok (.aload_n 0, 1) := by decide +kernel
theorem dX12_breeze_66 : decode cX12_breeze 66 = .ok (.getfield 7, 3) := by decide +kernel
theorem dX12_breeze_69 : decode cX12_breeze 69 = .ok (.iload_n 3, 1) := by decide +kernel
theorem dX12_breeze_70 : decode cX12_breeze 70 = .ok (.invokestatic 209, 3) := by decide +kernel
theorem dX12_breeze_73 : decode cX12_breeze 73 = .ok (.ifCond .eq 73, 3) := by decide +kernel
theorem dX12_breeze_76 : decode cX12_breeze 76 = .ok (.aload_n 0, 1) := by decide +kernel
theorem dX12_breeze_77 : decode cX12_breeze 77 = .ok (.getfield 7, 3) := by decide +kernel
theorem dX12_breeze_80 : decode cX12_breeze 80 = .ok (.bipush 6, 2) := by decide +kernel
theorem dX12_breeze_82 : decode cX12_breeze 82 = .ok (.aload_n 0, 1) := by decide +kernel
theorem dX12_breeze_83 : decode cX12_breeze 83 = .ok (.getfield 7, 3) := by decide +kernel
theorem dX12_breeze_86 : decode cX12_breeze 86 = .ok (.bipush 6, 2) := by decide +kernel
theorem dX12_breeze_88 : decode cX12_breeze 88 = .ok (.iaload, 1) := by decide +kernel
theorem dX12_breeze_89 : decode cX12_breeze 89 = .ok (.ldc 233, 2) := by decide +kernel
theorem dX12_breeze_91 : decode cX12_breeze 91 = .ok (.imul, 1) := by decide +kernel
theorem dX12_breeze_92 : decode cX12_breeze 92 = .ok (.sipush 12345, 3) := by decide +kernel
theorem dX12_breeze_95 : decode cX12_breeze 95 = .ok (.iadd, 1) := by decide +kernel
theorem dX12_breeze_96 : decode cX12_breeze 96 = .ok (.iastore, 1) := by decide +kernel
theorem dX12_breeze_97 : decode cX12_breeze 97 = .ok (.aload_n 0, 1) := by decide +kernel
theorem dX12_breeze_98 : decode cX12_breeze 98 = .ok (.getfield 7, 3) := by decide +kernel
theorem dX12_breeze_101 : decode cX12_breeze 101 = .ok (.bipush 80, 2) := by decide +kernel
theorem dX12_breeze_103 : decode cX12_breeze 103 = .ok (.bipush 8, 2) := by decide +kernel
theorem dX12_breeze_105 : decode cX12_breeze 105 = .ok (.iload_n 3, 1) := by decide +kernel
theorem dX12_breeze_106 : decode cX12_breeze 106 = .ok (.imul, 1) := by decide +kernel
theorem dX12_breeze_107 : decode cX12_breeze 107 = .ok (.iadd, 1) := by decide +kernel
theorem dX12_breeze_108 : decode cX12_breeze 108 = .ok (.iconst 1, 1) := by decide +kernel
theorem dX12_breeze_109 : decode cX12_breeze 109 = .ok (.iadd, 1) := by decide +kernel
theorem dX12_breeze_110 : decode cX12_breeze 110 = .ok (.aload_n 0, 1) := by decide +kernel
theorem dX12_breeze_111 : decode cX12_breeze 111 = .ok (.getfield 7, 3) := by decide +kernel
theorem dX12_breeze_114 : decode cX12_breeze 114 = .ok (.iload_n 3, 1) := by decide +kernel
theorem dX12_breeze_115 : decode cX12_breeze 115 = .ok (.iconst 1, 1) := by decide +kernel
theorem dX12_breeze_116 : decode cX12_breeze 116 = .ok (.invokestatic 73, 3) := by decide +kernel
theorem dX12_breeze_119 : decode cX12_breeze 119 = .ok (.aload_n 0, 1) := by decide +kernel
theorem dX12_breeze_120 : decode cX12_breeze 120 = .ok (.getfield 7, 3) := by decide +kernel
theorem dX12_breeze_123 : decode cX12_breeze 123 = .ok (.bipush 6, 2) := by decide +kernel
theorem dX12_breeze_125 : decode cX12_breeze 125 = .ok (.iaload, 1) := by decide +kernel
theorem dX12_breeze_126 : decode cX12_breeze 126 = .ok (.bipush 8, 2) := by decide +kernel
theorem dX12_breeze_128 : decode cX12_breeze 128 = .ok (.iushr, 1) := by decide +kernel
theorem dX12_breeze_129 : decode cX12_breeze 129 = .ok (.bipush 7, 2) := by decide +kernel
theorem dX12_breeze_131 : decode cX12_breeze 131 = .ok (.irem, 1) := by decide +kernel
theorem dX12_breeze_132 : decode cX12_breeze 132 = .ok (.iadd, 1) := by decide +kernel
theorem dX12_breeze_133 : decode cX12_breeze 133 = .ok (.iconst 3, 1) := by decide +kernel
theorem dX12_breeze_134 : decode cX12_breeze 134 = .ok (.isub, 1) := by decide +kernel
theorem dX12_breeze_135 : decode cX12_breeze 135 = .ok (.i2l, 1) := by decide +kernel
theorem dX12_breeze_136 : decode cX12_breeze 136 = .ok (.sipush (-999), 3) := by decide +kernel
theorem dX12_breeze_139 : decode cX12_breeze 139 = .ok (.sipush 999, 3) := by decide +kernel
theorem dX12_breeze_142 : decode cX12_breeze 142 = .ok (.invokestatic 193, 3) := by decide +kernel
theorem dX12_breeze_145 : decode cX12_breeze 145 = .ok (.iastore, 1) := by decide +kernel
theorem dX12_breeze_146 : decode cX12_breeze 146 = .ok (.iinc 3 1, 3) := by decide +kernel
theorem dX12_breeze_149 : decode cX12_breeze 149 = .ok (.goto (-94), 3) := by decide +kernel
theorem dX12_breeze_152 : decode cX12_breeze 152 = .ok (.iinc 2 1, 3) := by decide +kernel
theorem dX12_breeze_155 : decode cX12_breeze 155 = .ok (.goto (-115), 3) := by decide +kernel
theorem dX12_breeze_158 : decode cX12_breeze 158 = .ok (.aload_n 0, 1) := by decide +kernel
theorem dX12_breeze_159 : decode cX12_breeze 159 = .ok (.getfield 7, 3) := by decide +kernel
theorem dX12_breeze_162 : decode cX12_breeze 162 = .ok (.iconst 0, 1) := by decide +kernel
theorem dX12_breeze_163 : decode cX12_breeze 163 = .ok (.iaload, 1) := by decide +kernel
theorem dX12_breeze_164 : decode cX12_breeze 164 = .ok (.ireturn, 1) := by decide +kernel
theorem dX12_frontOf_0 : decode cX12_frontOf 0 = .ok (.iconst (-1), 1) := by decide +kernel
theorem dX12_frontOf_1 : decode cX12_frontOf 1 = .ok (.istore_n 1, 1) := by decide +kernel
theorem dX12_frontOf_2 : decode cX12_frontOf 2 = .ok (.iconst 0, 1) := by decide +kernel
theorem dX12_frontOf_3 : decode cX12_frontOf 3 = .ok (.istore_n 2, 1) := by decide +kernel
theorem dX12_frontOf_4 : decode cX12_frontOf 4 = .ok (.iload_n 2, 1) := by decide +kernel
theorem dX12_frontOf_5 : decode cX12_frontOf 5 = .ok (.aload_n 0, 1) := by decide +kernel
theorem dX12_frontOf_6 : decode cX12_frontOf 6 = .ok (.iconst 1, 1) := by decide +kernel
theorem dX12_frontOf_7 : decode cX12_frontOf 7 = .ok (.iaload, 1) := by decide +kernel
theorem dX12_frontOf_8 : decode cX12_frontOf 8 = .ok (.if_icmp .ge 42, 3) := by decide +kernel
theorem dX12_frontOf_11 : decode cX12_frontOf 11 = .ok (.aload_n 0, 1) := by decide +kernel
theorem dX12_frontOf_12 : decode cX12_frontOf 12 = .ok (.iload_n 2, 1) := by decide +kernel
theorem dX12_frontOf_13 : decode cX12_frontOf 13 = .ok (.invokestatic 209, 3) := by decide +kernel
theorem dX12_frontOf_16 : decode cX12_frontOf 16 = .ok (.ifCond .eq 26, 3) := by decide +kernel
theorem dX12_frontOf_19 : decode cX12_frontOf 19 = .ok (.iload_n 1, 1) := by decide +kernel
theorem dX12_frontOf_20 : decode cX12_frontOf 20 = .ok (.ifCond .lt 18, 3) := by decide +kernel
theorem dX12_frontOf_23 : decode cX12_frontOf 23 = .ok (.aload_n 0, 1) := by decide +kernel
theorem dX12_frontOf_24 : decode cX12_frontOf 24 = .ok (.iload_n 2, 1) := by decide +kernel
theorem dX12_frontOf_25 : decode cX12_frontOf 25 = .ok (.iconst 0, 1) := by decide +kernel
theorem dX12_frontOf_26 : decode cX12_frontOf 26 = .ok (.invokestatic 73, 3) := by decide +kernel
theorem dX12_frontOf_29 : decode cX12_frontOf 29 = .ok (.aload_n 0, 1) := by decide +kernel
theorem dX12_frontOf_30 : decode cX12_frontOf 30 = .ok (.iload_n 1, 1) := by decide +kernel
theorem dX12_frontOf_31 : decode cX12_frontOf 31 = .ok (.iconst 0, 1) := by decide +kernel
theorem dX12_frontOf_32 : decode cX12_frontOf 32 = .ok (.invokestatic 73, 3) := by decide +kernel
theorem dX12_frontOf_35 : decode cX12_frontOf 35 = .ok (.if_icmp .le 7, 3) := by decide +kernel
theorem dX12_frontOf_38 : decode cX12_frontOf 38 = .ok (.iload_n 2, 1) := by decide +kernel
theorem dX12_frontOf_39 : decode cX12_frontOf 39 = .ok (.goto 4, 3) := by decide +kernel
theorem dX12_frontOf_42 : decode cX12_frontOf 42 = .ok (.iload_n 1, 1) := by decide +kernel
theorem dX12_frontOf_43 : decode cX12_frontOf 43 = .ok (.istore_n 1, 1) := by decide +kernel
theorem dX12_frontOf_44 : decode cX12_frontOf 44 = .ok (.iinc 2 1, 3) := by decide +kernel
theorem dX12_frontOf_47 : decode cX12_frontOf 47 = .ok (.goto (-43), 3) := by decide +kernel
theorem dX12_frontOf_50 : decode cX12_frontOf 50 = .ok (.iload_n 1, 1) := by decide +kernel
theorem dX12_frontOf_51 : decode cX12_frontOf 51 = .ok (.ireturn, 1) := by decide +kernel
theorem dX12_front_0 : decode cX12_front 0 = .ok (.aload_n 0, 1) := by decide +kernel
theorem dX12_front_1 : decode cX12_front 1 = .ok (.getfield 7, 3) := by decide +kernel
theorem dX12_front_4 : decode cX12_front 4 = .ok (.invokestatic 234, 3) := by decide +kernel
theorem dX12_front_7 : decode cX12_front 7 = .ok (.istore_n 1, 1) := by decide +kernel
theorem dX12_front_8 : decode cX12_front 8 = .ok (.iload_n 1, 1) := by decide +kernel
theorem dX12_front_9 : decode cX12_front 9 = .ok (.ifCond .ge 11, 3) := by decide +kernel
theorem dX12_front_12 : decode cX12_front 12 = .ok (.aload_n 0, 1) := by decide +kernel
theorem dX12_front_13 : decode cX12_front 13 = .ok (.iconst 2, 1) := by decide +kernel
theorem dX12_front_14 : decode cX12_front 14 = .ok (.invokevirtual 65, 3) := by decide +kernel
theorem dX12_front_17 : decode cX12_front 17 = .ok (.goto 4, 3) := by decide +kernel
theorem dX12_front_20 : decode cX12_front 20 = .ok (.iload_n 1, 1) := by decide +kernel
theorem dX12_front_21 : decode cX12_front 21 = .ok (.ireturn, 1) := by decide +kernel
theorem dX12_isAhead_0 : decode cX12_isAhead 0 = .ok (.iload_n 0, 1) := by decide +kernel
theorem dX12_isAhead_1 : decode cX12_isAhead 1 = .ok (.i2l, 1) := by decide +kernel
theorem dX12_isAhead_2 : decode cX12_isAhead 2 = .ok (.lconst 0, 1) := by decide +kernel
theorem dX12_isAhead_3 : decode cX12_isAhead 3 = .ok (.ldc2_w 238, 3) := by decide +kernel
theorem dX12_isAhead_6 : decode cX12_isAhead 6 = .ok (.invokestatic 48, 3) := by decide +kernel
theorem dX12_isAhead_9 : decode cX12_isAhead 9 = .ok (.ireturn, 1) := by decide +kernel
theorem dX12_ahead_0 : decode cX12_ahead 0 = .ok (.aload_n 0, 1) := by decide +kernel
theorem dX12_ahead_1 : decode cX12_ahead 1 = .ok (.getfield 7, 3) := by decide +kernel
theorem dX12_ahead_4 : decode cX12_ahead 4 = .ok (.aload_n 0, 1) := by decide +kernel
theorem dX12_ahead_5 : decode cX12_ahead 5 = .ok (.getfield 13, 3) := by decide +kernel
theorem dX12_ahead_8 : decode cX12_ahead 8 = .ok (.invokestatic 240, 3) := by decide +kernel
theorem dX12_ahead_11 : decode cX12_ahead 11 = .ok (.aload_n 0, 1) := by decide +kernel
theorem dX12_ahead_12 : decode cX12_ahead 12 = .ok (.aload_n 0, 1) := by decide +kernel
theorem dX12_ahead_13 : decode cX12_ahead 13 = .ok (.getfield 13, 3) := by decide +kernel
theorem dX12_ahead_16 : decode cX12_ahead 16 = .ok (.iload_n 1, 1) := by decide +kernel
theorem dX12_ahead_17 : decode cX12_ahead 17 = .ok (.invokevirtual 230, 3) := by decide +kernel
theorem dX12_ahead_20 : decode cX12_ahead 20 = .ok (.return_, 1) := by decide +kernel
theorem dX12_then_0 : decode cX12_then 0 = .ok (.iload_n 1, 1) := by decide +kernel
theorem dX12_then_1 : decode cX12_then 1 = .ok (.invokestatic 244, 3) := by decide +kernel
theorem dX12_then_4 : decode cX12_then 4 = .ok (.ifCond .eq 23, 3) := by decide +kernel
theorem dX12_then_7 : decode cX12_then 7 = .ok (.aload_n 0, 1) := by decide +kernel
theorem dX12_then_8 : decode cX12_then 8 = .ok (.iload_n 2, 1) := by decide +kernel
theorem dX12_then_9 : decode cX12_then 9 = .ok (.invokevirtual 77, 3) := by decide +kernel
theorem dX12_then_12 : decode cX12_then 12 = .ok (.ifCond .eq 15, 3) := by decide +kernel
theorem dX12_then_15 : decode cX12_then 15 = .ok (.iload_n 3, 1) := by decide +kernel
theorem dX12_then_16 : decode cX12_then 16 = .ok (.i2l, 1) := by decide +kernel
theorem dX12_then_17 : decode cX12_then 17 = .ok (.lconst 0, 1) := by decide +kernel
theorem dX12_then_18 : decode cX12_then 18 = .ok (.ldc2_w 81, 3) := by decide +kernel
theorem dX12_then_21 : decode cX12_then 21 = .ok (.invokestatic 48, 3) := by decide +kernel
theorem dX12_then_24 : decode cX12_then 24 = .ok (.ifCond .ne 9, 3) := by decide +kernel
theorem dX12_then_27 : decode cX12_then 27 = .ok (.aload_n 0, 1) := by decide +kernel
theorem dX12_then_28 : decode cX12_then 28 = .ok (.iconst 1, 1) := by decide +kernel
theorem dX12_then_29 : decode cX12_then 29 = .ok (.invokevirtual 65, 3) := by decide +kernel
theorem dX12_then_32 : decode cX12_then 32 = .ok (.ireturn, 1) := by decide +kernel
theorem dX12_then_33 : decode cX12_then 33 = .ok (.aload_n 0, 1) := by decide +kernel
theorem dX12_then_34 : decode cX12_then 34 = .ok (.iload_n 1, 1) := by decide +kernel
theorem dX12_then_35 : decode cX12_then 35 = .ok (.invokevirtual 247, 3) := by decide +kernel
theorem dX12_then_38 : decode cX12_then 38 = .ok (.iload_n 3, 1) := by decide +kernel
theorem dX12_then_39 : decode cX12_then 39 = .ok (.bipush 7, 2) := by decide +kernel
theorem dX12_then_41 : decode cX12_then 41 = .ok (.if_icmp .ne 14, 3) := by decide +kernel
theorem dX12_then_44 : decode cX12_then 44 = .ok (.aload_n 0, 1) := by decide +kernel
theorem dX12_then_45 : decode cX12_then 45 = .ok (.getfield 13, 3) := by decide +kernel
theorem dX12_then_48 : decode cX12_then 48 = .ok (.iload_n 2, 1) := by decide +kernel
theorem dX12_then_49 : decode cX12_then 49 = .ok (.invokestatic 83, 3) := by decide +kernel
theorem dX12_then_52 : decode cX12_then 52 = .ok (.goto 12, 3) := by decide +kernel
theorem dX12_then_55 : decode cX12_then 55 = .ok (.aload_n 0, 1) := by decide +kernel
theorem dX12_then_56 : decode cX12_then 56 = .ok (.getfield 13, 3) := by decide +kernel
theorem dX12_then_59 : decode cX12_then 59 = .ok (.iload_n 2, 1) := by decide +kernel
theorem dX12_then_60 : decode cX12_then 60 = .ok (.iload_n 3, 1) := by decide +kernel
theorem dX12_then_61 : decode cX12_then 61 = .ok (.invokestatic 73, 3) := by decide +kernel
theorem dX12_then_64 : decode cX12_then 64 = .ok (.ireturn, 1) := by decide +kernel
theorem dX12_wholeIn_0 : decode cX12_wholeIn 0 = .ok (.iconst 0, 1) := by decide +kernel
theorem dX12_wholeIn_1 : decode cX12_wholeIn 1 = .ok (.istore_n 1, 1) := by decide +kernel
theorem dX12_wholeIn_2 : decode cX12_wholeIn 2 = .ok (.iconst 0, 1) := by decide +kernel
theorem dX12_wholeIn_3 : decode cX12_wholeIn 3 = .ok (.istore_n 2, 1) := by decide +kernel
theorem dX12_wholeIn_4 : decode cX12_wholeIn 4 = .ok (.iload_n 2, 1) := by decide +kernel
theorem dX12_wholeIn_5 : decode cX12_wholeIn 5 = .ok (.aload_n 0, 1) := by decide +kernel
theorem dX12_wholeIn_6 : decode cX12_wholeIn 6 = .ok (.iconst 1, 1) := by decide +kernel
theorem dX12_wholeIn_7 : decode cX12_wholeIn 7 = .ok (.iaload, 1) := by decide +kernel
theorem dX12_wholeIn_8 : decode cX12_wholeIn 8 = .ok (.if_icmp .ge 25, 3) := by decide +kernel
theorem dX12_wholeIn_11 : decode cX12_wholeIn 11 = .ok (.iload_n 1, 1) := by decide +kernel
theorem dX12_wholeIn_12 : decode cX12_wholeIn 12 = .ok (.aload_n 0, 1) := by decide +kernel
theorem dX12_wholeIn_13 : decode cX12_wholeIn 13 = .ok (.iload_n 2, 1) := by decide +kernel
theorem dX12_wholeIn_14 : decode cX12_wholeIn 14 = .ok (.invokestatic 209, 3) := by decide +kernel
theorem dX12_wholeIn_17 : decode cX12_wholeIn 17 = .ok (.ifCond .eq 7, 3) := by decide +kernel
theorem dX12_wholeIn_20 : decode cX12_wholeIn 20 = .ok (.iconst 1, 1) := by decide +kernel
theorem dX12_wholeIn_21 : decode cX12_wholeIn 21 = .ok (.goto 4, 3) := by decide +kernel
theorem dX12_wholeIn_24 : decode cX12_wholeIn 24 = .ok (.iconst 0, 1) := by decide +kernel
theorem dX12_wholeIn_25 : decode cX12_wholeIn 25 = .ok (.iadd, 1) := by decide +kernel
theorem dX12_wholeIn_26 : decode cX12_wholeIn 26 = .ok (.istore_n 1, 1) := by decide +kernel
theorem dX12_wholeIn_27 : decode cX12_wholeIn 27 = .ok (.iinc 2 1, 3) := by decide +kernel
theorem dX12_wholeIn_30 : decode cX12_wholeIn 30 = .ok (.goto (-26), 3) := by decide +kernel
theorem dX12_wholeIn_33 : decode cX12_wholeIn 33 = .ok (.iload_n 1, 1) := by decide +kernel
theorem dX12_wholeIn_34 : decode cX12_wholeIn 34 = .ok (.ireturn, 1) := by decide +kernel
theorem dX12_whole_0 : decode cX12_whole 0 = .ok (.iload_n 1, 1) := by decide +kernel
theorem dX12_whole_1 : decode cX12_whole 1 = .ok (.invokestatic 244, 3) := by decide +kernel
theorem dX12_whole_4 : decode cX12_whole 4 = .ok (.ifCond .ne 9, 3) := by decide +kernel
theorem dX12_whole_7 : decode cX12_whole 7 = .ok (.aload_n 0, 1) := by decide +kernel
theorem dX12_whole_8 : decode cX12_whole 8 = .ok (.iconst 1, 1) := by decide +kernel
theorem dX12_whole_9 : decode cX12_whole 9 = .ok (.invokevirtual 65, 3) := by decide +kernel
theorem dX12_whole_12 : decode cX12_whole 12 = .ok (.ireturn, 1) := by decide +kernel
theorem dX12_whole_13 : decode cX12_whole 13 = .ok (.aload_n 0, 1) := by decide +kernel
theorem dX12_whole_14 : decode cX12_whole 14 = .ok (.iload_n 1, 1) := by decide +kernel
theorem dX12_whole_15 : decode cX12_whole 15 = .ok (.invokevirtual 247, 3) := by decide +kernel
theorem dX12_whole_18 : decode cX12_whole 18 = .ok (.aload_n 0, 1) := by decide +kernel
theorem dX12_whole_19 : decode cX12_whole 19 = .ok (.getfield 13, 3) := by decide +kernel
theorem dX12_whole_22 : decode cX12_whole 22 = .ok (.invokestatic 251, 3) := by decide +kernel
theorem dX12_whole_25 : decode cX12_whole 25 = .ok (.ireturn, 1) := by decide +kernel
theorem dX12_turnsIn_0 : decode cX12_turnsIn 0 = .ok (.iconst 0, 1) := by decide +kernel
theorem dX12_turnsIn_1 : decode cX12_turnsIn 1 = .ok (.istore_n 3, 1) := by decide +kernel
theorem dX12_turnsIn_2 : decode cX12_turnsIn 2 = .ok (.aload_n 1, 1) := by decide +kernel
theorem dX12_turnsIn_3 : decode cX12_turnsIn 3 = .ok (.invokestatic 234, 3) := by decide +kernel
theorem dX12_turnsIn_6 : decode cX12_turnsIn 6 = .ok (.istore 4, 2) := by decide +kernel
theorem dX12_turnsIn_8 : decode cX12_turnsIn 8 = .ok (.iconst 0, 1) := by decide +kernel
theorem dX12_turnsIn_9 : decode cX12_turnsIn 9 = .ok (.istore 5, 2) := by decide +kernel
theorem dX12_turnsIn_11 : decode cX12_turnsIn 11 = .ok (.iload 5, 2) := by decide +kernel
theorem dX12_turnsIn_13 : decode cX12_turnsIn 13 = .ok (.iload_n 2, 1) := by decide +kernel
theorem dX12_turnsIn_14 : decode cX12_turnsIn 14 = .ok (.if_icmp .ge 54, 3) := by decide +kernel
theorem dX12_turnsIn_17 : decode cX12_turnsIn 17 = .ok (.iload 4, 2) := by decide +kernel
theorem dX12_turnsIn_19 : decode cX12_turnsIn 19 = .ok (.ifCond .lt 49, 3) := by decide +kernel
theorem dX12_turnsIn_22 : decode cX12_turnsIn 22 = .ok (.aload_n 0, 1) := by decide +kernel
theorem dX12_turnsIn_23 : decode cX12_turnsIn 23 = .ok (.aload_n 1, 1) := by decide +kernel
theorem dX12_turnsIn_24 : decode cX12_turnsIn 24 = .ok (.invokevirtual 224, 3) := by decide +kernel
theorem dX12_turnsIn_27 : decode cX12_turnsIn 27 = .ok (.aload_n 1, 1) := by decide +kernel
theorem dX12_turnsIn_28 : decode cX12_turnsIn 28 = .ok (.invokestatic 234, 3) := by decide +kernel
theorem dX12_turnsIn_31 : decode cX12_turnsIn 31 = .ok (.istore 6, 2) := by decide +kernel
theorem dX12_turnsIn_33 : decode cX12_turnsIn 33 = .ok (.iload_n 3, 1) := by decide +kernel
theorem dX12_turnsIn_34 : decode cX12_turnsIn 34 = .ok (.iload 4, 2) := by decide +kernel
theorem dX12_turnsIn_36 : decode cX12_turnsIn 36 = .ok (.ifCond .lt 19, 3) := by decide +kernel
theorem dX12_turnsIn_39 : decode cX12_turnsIn 39 = .ok (.iload 6, 2) := by decide +kernel
theorem dX12_turnsIn_41 : decode cX12_turnsIn 41 = .ok (.ifCond .lt 14, 3) := by decide +kernel
theorem dX12_turnsIn_44 : decode cX12_turnsIn 44 = .ok (.iload 6, 2) := by decide +kernel
theorem dX12_turnsIn_46 : decode cX12_turnsIn 46 = .ok (.iload 4, 2) := by decide +kernel
theorem dX12_turnsIn_48 : decode cX12_turnsIn 48 = .ok (.if_icmp .eq 7, 3) := by decide +kernel
theorem dX12_turnsIn_51 : decode cX12_turnsIn 51 = .ok (.iconst 1, 1) := by decide +kernel
theorem dX12_turnsIn_52 : decode cX12_turnsIn 52 = .ok (.goto 4, 3) := by decide +kernel
theorem dX12_turnsIn_55 : decode cX12_turnsIn 55 = .ok (.iconst 0, 1) := by decide +kernel
theorem dX12_turnsIn_56 : decode cX12_turnsIn 56 = .ok (.iadd, 1) := by decide +kernel
theorem dX12_turnsIn_57 : decode cX12_turnsIn 57 = .ok (.istore_n 3, 1) := by decide +kernel
theorem dX12_turnsIn_58 : decode cX12_turnsIn 58 = .ok (.iload 6, 2) := by decide +kernel
theorem dX12_turnsIn_60 : decode cX12_turnsIn 60 = .ok (.istore 4, 2) := by decide +kernel
theorem dX12_turnsIn_62 : decode cX12_turnsIn 62 = .ok (.iinc 5 1, 3) := by decide +kernel
theorem dX12_turnsIn_65 : decode cX12_turnsIn 65 = .ok (.goto (-54), 3) := by decide +kernel
theorem dX12_turnsIn_68 : decode cX12_turnsIn 68 = .ok (.iload_n 3, 1) := by decide +kernel
theorem dX12_turnsIn_69 : decode cX12_turnsIn 69 = .ok (.ireturn, 1) := by decide +kernel
theorem dX12_turns_0 : decode cX12_turns 0 = .ok (.iload_n 1, 1) := by decide +kernel
theorem dX12_turns_1 : decode cX12_turns 1 = .ok (.invokestatic 244, 3) := by decide +kernel
theorem dX12_turns_4 : decode cX12_turns 4 = .ok (.ifCond .ne 9, 3) := by decide +kernel
theorem dX12_turns_7 : decode cX12_turns 7 = .ok (.aload_n 0, 1) := by decide +kernel
theorem dX12_turns_8 : decode cX12_turns 8 = .ok (.iconst 1, 1) := by decide +kernel
theorem dX12_turns_9 : decode cX12_turns 9 = .ok (.invokevirtual 65, 3) := by decide +kernel
theorem dX12_turns_12 : decode cX12_turns 12 = .ok (.ireturn, 1) := by decide +kernel
theorem dX12_turns_13 : decode cX12_turns 13 = .ok (.aload_n 0, 1) := by decide +kernel
theorem dX12_turns_14 : decode cX12_turns 14 = .ok (.getfield 7, 3) := by decide +kernel
theorem dX12_turns_17 : decode cX12_turns 17 = .ok (.aload_n 0, 1) := by decide +kernel
theorem dX12_turns_18 : decode cX12_turns 18 = .ok (.getfield 13, 3) := by decide +kernel
theorem dX12_turns_21 : decode cX12_turns 21 = .ok (.invokestatic 240, 3) := by decide +kernel
theorem dX12_turns_24 : decode cX12_turns 24 = .ok (.aload_n 0, 1) := by decide +kernel
theorem dX12_turns_25 : decode cX12_turns 25 = .ok (.aload_n 0, 1) := by decide +kernel
theorem dX12_turns_26 : decode cX12_turns 26 = .ok (.getfield 13, 3) := by decide +kernel
theorem dX12_turns_29 : decode cX12_turns 29 = .ok (.iload_n 1, 1) := by decide +kernel
theorem dX12_turns_30 : decode cX12_turns 30 = .ok (.invokevirtual 254, 3) := by decide +kernel
theorem dX12_turns_33 : decode cX12_turns 33 = .ok (.ireturn, 1) := by decide +kernel
theorem dX12_farIn_0 : decode cX12_farIn 0 = .ok (.ldc 213, 2) := by decide +kernel
theorem dX12_farIn_2 : decode cX12_farIn 2 = .ok (.istore 4, 2) := by decide +kernel
theorem dX12_farIn_4 : decode cX12_farIn 4 = .ok (.iconst 0, 1) := by decide +kernel
theorem dX12_farIn_5 : decode cX12_farIn 5 = .ok (.istore 5, 2) := by decide +kernel
theorem dX12_farIn_7 : decode cX12_farIn 7 = .ok (.iload 5, 2) := by decide +kernel
theorem dX12_farIn_9 : decode cX12_farIn 9 = .ok (.iload_n 2, 1) := by decide +kernel
theorem dX12_farIn_10 : decode cX12_farIn 10 = .ok (.if_icmp .gt 52, 3) := by decide +kernel
theorem dX12_farIn_13 : decode cX12_farIn 13 = .ok (.aload_n 1, 1) := by decide +kernel
theorem dX12_farIn_14 : decode cX12_farIn 14 = .ok (.iload_n 3, 1) := by decide +kernel
theorem dX12_farIn_15 : decode cX12_farIn 15 = .ok (.invokestatic 209, 3) := by decide +kernel
theorem dX12_farIn_18 : decode cX12_farIn 18 = .ok (.ifCond .eq 44, 3) := by decide +kernel
theorem dX12_farIn_21 : decode cX12_farIn 21 = .ok (.aload_n 1, 1) := by decide +kernel
theorem dX12_farIn_22 : decode cX12_farIn 22 = .ok (.iload_n 3, 1) := by decide +kernel
theorem dX12_farIn_23 : decode cX12_farIn 23 = .ok (.iconst 0, 1) := by decide +kernel
theorem dX12_farIn_24 : decode cX12_farIn 24 = .ok (.invokestatic 73, 3) := by decide +kernel
theorem dX12_farIn_27 : decode cX12_farIn 27 = .ok (.iload 4, 2) := by decide +kernel
theorem dX12_farIn_29 : decode cX12_farIn 29 = .ok (.if_icmp .le 12, 3) := by decide +kernel
theorem dX12_farIn_32 : decode cX12_farIn 32 = .ok (.aload_n 1, 1) := by decide +kernel
theorem dX12_farIn_33 : decode cX12_farIn 33 = .ok (.iload_n 3, 1) := by decide +kernel
theorem dX12_farIn_34 : decode cX12_farIn 34 = .ok (.iconst 0, 1) := by decide +kernel
theorem dX12_farIn_35 : decode cX12_farIn 35 = .ok (.invokestatic 73, 3) := by decide +kernel
theorem dX12_farIn_38 : decode cX12_farIn 38 = .ok (.goto 5, 3) := by decide +kernel
theorem dX12_farIn_41 : decode cX12_farIn 41 = .ok (.iload 4, 2) := by decide +kernel
theorem dX12_farIn_43 : decode cX12_farIn 43 = .ok (.istore 4, 2) := by decide +kernel
theorem dX12_farIn_45 : decode cX12_farIn 45 = .ok (.iload 5, 2) := by decide +kernel
theorem dX12_farIn_47 : decode cX12_farIn 47 = .ok (.iload_n 2, 1) := by decide +kernel
theorem dX12_farIn_48 : decode cX12_farIn 48 = .ok (.if_icmp .ge 8, 3) := by decide +kernel
theorem dX12_farIn_51 : decode cX12_farIn 51 = .ok (.aload_n 0, 1) := by decide +kernel
theorem dX12_farIn_52 : decode cX12_farIn 52 = .ok (.aload_n 1, 1) := by decide +kernel
theorem dX12_farIn_53 : decode cX12_farIn 53 = .ok (.invokevirtual 224, 3) := by decide +kernel
theorem dX12_farIn_56 : decode cX12_farIn 56 = .ok (.iinc 5 1, 3) := by decide +kernel
theorem dX12_farIn_59 : decode cX12_farIn 59 = .ok (.goto (-52), 3) := by decide +kernel
theorem dX12_farIn_62 : decode cX12_farIn 62 = .ok (.iload 4, 2) := by decide +kernel
theorem dX12_farIn_64 : decode cX12_farIn 64 = .ok (.ireturn, 1) := by decide +kernel
theorem dX12_far_0 : decode cX12_far 0 = .ok (.iload_n 1, 1) := by decide +kernel
theorem dX12_far_1 : decode cX12_far 1 = .ok (.invokestatic 244, 3) := by decide +kernel
theorem dX12_far_4 : decode cX12_far 4 = .ok (.ifCond .eq 11, 3) := by decide +kernel
theorem dX12_far_7 : decode cX12_far 7 = .ok (.aload_n 0, 1) := by decide +kernel
theorem dX12_far_8 : decode cX12_far 8 = .ok (.iload_n 2, 1) := by decide +kernel
theorem dX12_far_9 : decode cX12_far 9 = .ok (.invokevirtual 77, 3) := by decide +kernel
theorem dX12_far_12 : decode cX12_far 12 = .ok (.ifCond .ne 9, 3) := by decide +kernel
theorem dX12_far_15 : decode cX12_far 15 = .ok (.aload_n 0, 1) := by decide +kernel
theorem dX12_far_16 : decode cX12_far 16 = .ok (.iconst 1, 1) := by decide +kernel
theorem dX12_far_17 : decode cX12_far 17 = .ok (.invokevirtual 65, 3) := by decide +kernel
theorem dX12_far_20 : decode cX12_far 20 = .ok (.ireturn, 1) := by decide +kernel
theorem dX12_far_21 : decode cX12_far 21 = .ok (.aload_n 0, 1) := by decide +kernel
theorem dX12_far_22 : decode cX12_far 22 = .ok (.getfield 7, 3) := by decide +kernel
theorem dX12_far_25 : decode cX12_far 25 = .ok (.iload_n 2, 1) := by decide +kernel
theorem dX12_far_26 : decode cX12_far 26 = .ok (.invokestatic 209, 3) := by decide +kernel
theorem dX12_far_29 : decode cX12_far 29 = .ok (.ifCond .ne 9, 3) := by decide +kernel
theorem dX12_far_32 : decode cX12_far 32 = .ok (.aload_n 0, 1) := by decide +kernel
theorem dX12_far_33 : decode cX12_far 33 = .ok (.iconst 2, 1) := by decide +kernel
theorem dX12_far_34 : decode cX12_far 34 = .ok (.invokevirtual 65, 3) := by decide +kernel
theorem dX12_far_37 : decode cX12_far 37 = .ok (.ireturn, 1) := by decide +kernel
theorem dX12_far_38 : decode cX12_far 38 = .ok (.aload_n 0, 1) := by decide +kernel
theorem dX12_far_39 : decode cX12_far 39 = .ok (.getfield 7, 3) := by decide +kernel
theorem dX12_far_42 : decode cX12_far 42 = .ok (.aload_n 0, 1) := by decide +kernel
theorem dX12_far_43 : decode cX12_far 43 = .ok (.getfield 13, 3) := by decide +kernel
theorem dX12_far_46 : decode cX12_far 46 = .ok (.invokestatic 240, 3) := by decide +kernel
theorem dX12_far_49 : decode cX12_far 49 = .ok (.aload_n 0, 1) := by decide +kernel
theorem dX12_far_50 : decode cX12_far 50 = .ok (.aload_n 0, 1) := by decide +kernel
theorem dX12_far_51 : decode cX12_far 51 = .ok (.getfield 13, 3) := by decide +kernel
theorem dX12_far_54 : decode cX12_far 54 = .ok (.iload_n 1, 1) := by decide +kernel
theorem dX12_far_55 : decode cX12_far 55 = .ok (.iload_n 2, 1) := by decide +kernel
theorem dX12_far_56 : decode cX12_far 56 = .ok (.invokevirtual 257, 3) := by decide +kernel
theorem dX12_far_59 : decode cX12_far 59 = .ok (.ireturn, 1) := by decide +kernel
theorem dX12_knock_0 : decode cX12_knock 0 = .ok (.iload_n 1, 1) := by decide +kernel
theorem dX12_knock_1 : decode cX12_knock 1 = .ok (.invokestatic 244, 3) := by decide +kernel
theorem dX12_knock_4 : decode cX12_knock 4 = .ok (.ifCond .eq 25, 3) := by decide +kernel
theorem dX12_knock_7 : decode cX12_knock 7 = .ok (.aload_n 0, 1) := by decide +kernel
theorem dX12_knock_8 : decode cX12_knock 8 = .ok (.iload_n 2, 1) := by decide +kernel
theorem dX12_knock_9 : decode cX12_knock 9 = .ok (.invokevirtual 77, 3) := by decide +kernel
theorem dX12_knock_12 : decode cX12_knock 12 = .ok (.ifCond .eq 17, 3) := by decide +kernel
theorem dX12_knock_15 : decode cX12_knock 15 = .ok (.iload_n 3, 1) := by decide +kernel
theorem dX12_knock_16 : decode cX12_knock 16 = .ok (.i2l, 1) := by decide +kernel
theorem dX12_knock_17 : decode cX12_knock 17 = .ok (.ldc2_w 53, 3) := by decide +kernel
theorem dX12_knock_20 : decode cX12_knock 20 = .ok (.ldc2_w 55, 3) := by decide +kernel
theorem dX12_knock_23 : decode cX12_knock 23 = .ok (.invokestatic 48, 3) := by decide +kernel
theorem dX12_knock_26 : decode cX12_knock 26 = .ok (.ifCond .ne 9, 3) := by decide +kernel
theorem dX12_knock_29 : decode cX12_knock 29 = .ok (.aload_n 0, 1) := by decide +kernel
theorem dX12_knock_30 : decode cX12_knock 30 = .ok (.iconst 1, 1) := by decide +kernel
theorem dX12_knock_31 : decode cX12_knock 31 = .ok (.invokevirtual 65, 3) := by decide +kernel
theorem dX12_knock_34 : decode cX12_knock 34 = .ok (.ireturn, 1) := by decide +kernel
theorem dX12_knock_35 : decode cX12_knock 35 = .ok (.aload_n 0, 1) := by decide +kernel
theorem dX12_knock_36 : decode cX12_knock 36 = .ok (.getfield 7, 3) := by decide +kernel
theorem dX12_knock_39 : decode cX12_knock 39 = .ok (.aload_n 0, 1) := by decide +kernel
theorem dX12_knock_40 : decode cX12_knock 40 = .ok (.getfield 13, 3) := by decide +kernel
theorem dX12_knock_43 : decode cX12_knock 43 = .ok (.invokestatic 240, 3) := by decide +kernel
theorem dX12_knock_46 : decode cX12_knock 46 = .ok (.iconst 0, 1) := by decide +kernel
theorem dX12_knock_47 : decode cX12_knock 47 = .ok (.istore 4, 2) := by decide +kernel
theorem dX12_knock_49 : decode cX12_knock 49 = .ok (.iload 4, 2) := by decide +kernel
theorem dX12_knock_51 : decode cX12_knock 51 = .ok (.iload_n 1, 1) := by decide +kernel
theorem dX12_knock_52 : decode cX12_knock 52 = .ok (.if_icmp .gt 64, 3) := by decide +kernel
theorem dX12_knock_55 : decode cX12_knock 55 = .ok (.aload_n 0, 1) := by decide +kernel
theorem dX12_knock_56 : decode cX12_knock 56 = .ok (.getfield 13, 3) := by decide +kernel
theorem dX12_knock_59 : decode cX12_knock 59 = .ok (.iload_n 2, 1) := by decide +kernel
theorem dX12_knock_60 : decode cX12_knock 60 = .ok (.invokestatic 209, 3) := by decide +kernel
theorem dX12_knock_63 : decode cX12_knock 63 = .ok (.ifCond .eq 39, 3) := by decide +kernel
theorem dX12_knock_66 : decode cX12_knock 66 = .ok (.aload_n 0, 1) := by decide +kernel
theorem dX12_knock_67 : decode cX12_knock 67 = .ok (.getfield 13, 3) := by decide +kernel
theorem dX12_knock_70 : decode cX12_knock 70 = .ok (.iload_n 2, 1) := by decide +kernel
theorem dX12_knock_71 : decode cX12_knock 71 = .ok (.iconst 0, 1) := by decide +kernel
theorem dX12_knock_72 : decode cX12_knock 72 = .ok (.invokestatic 73, 3) := by decide +kernel
theorem dX12_knock_75 : decode cX12_knock 75 = .ok (.iload_n 3, 1) := by decide +kernel
theorem dX12_knock_76 : decode cX12_knock 76 = .ok (.if_icmp .lt 26, 3) := by decide +kernel
theorem dX12_knock_79 : decode cX12_knock 79 = .ok (.aload_n 0, 1) := by decide +kernel
theorem dX12_knock_80 : decode cX12_knock 80 = .ok (.getfield 13, 3) := by decide +kernel
theorem dX12_knock_83 : decode cX12_knock 83 = .ok (.iload_n 2, 1) := by decide +kernel
theorem dX12_knock_84 : decode cX12_knock 84 = .ok (.iconst 3, 1) := by decide +kernel
theorem dX12_knock_85 : decode cX12_knock 85 = .ok (.invokestatic 73, 3) := by decide +kernel
theorem dX12_knock_88 : decode cX12_knock 88 = .ok (.bipush 100, 2) := by decide +kernel
theorem dX12_knock_90 : decode cX12_knock 90 = .ok (.imul, 1) := by decide +kernel
theorem dX12_knock_91 : decode cX12_knock 91 = .ok (.aload_n 0, 1) := by decide +kernel
theorem dX12_knock_92 : decode cX12_knock 92 = .ok (.getfield 13, 3) := by decide +kernel
theorem dX12_knock_95 : decode cX12_knock 95 = .ok (.iload_n 2, 1) := by decide +kernel
theorem dX12_knock_96 : decode cX12_knock 96 = .ok (.iconst 4, 1) := by decide +kernel
theorem dX12_knock_97 : decode cX12_knock 97 = .ok (.invokestatic 73, 3) := by decide +kernel
theorem dX12_knock_100 : decode cX12_knock 100 = .ok (.idiv, 1) := by decide +kernel
theorem dX12_knock_101 : decode cX12_knock 101 = .ok (.ireturn, 1) := by decide +kernel
theorem dX12_knock_102 : decode cX12_knock 102 = .ok (.aload_n 0, 1) := by decide +kernel
theorem dX12_knock_103 : decode cX12_knock 103 = .ok (.aload_n 0, 1) := by decide +kernel
theorem dX12_knock_104 : decode cX12_knock 104 = .ok (.getfield 13, 3) := by decide +kernel
theorem dX12_knock_107 : decode cX12_knock 107 = .ok (.invokevirtual 224, 3) := by decide +kernel
theorem dX12_knock_110 : decode cX12_knock 110 = .ok (.iinc 4 1, 3) := by decide +kernel
theorem dX12_knock_113 : decode cX12_knock 113 = .ok (.goto (-64), 3) := by decide +kernel
theorem dX12_knock_116 : decode cX12_knock 116 = .ok (.aload_n 0, 1) := by decide +kernel
theorem dX12_knock_117 : decode cX12_knock 117 = .ok (.iconst 2, 1) := by decide +kernel
theorem dX12_knock_118 : decode cX12_knock 118 = .ok (.invokevirtual 65, 3) := by decide +kernel
theorem dX12_knock_121 : decode cX12_knock 121 = .ok (.ireturn, 1) := by decide +kernel
theorem dX12_farthest_0 : decode cX12_farthest 0 = .ok (.iload_n 1, 1) := by decide +kernel
theorem dX12_farthest_1 : decode cX12_farthest 1 = .ok (.invokestatic 244, 3) := by decide +kernel
theorem dX12_farthest_4 : decode cX12_farthest 4 = .ok (.ifCond .eq 27, 3) := by decide +kernel
theorem dX12_farthest_7 : decode cX12_farthest 7 = .ok (.iload_n 2, 1) := by decide +kernel
theorem dX12_farthest_8 : decode cX12_farthest 8 = .ok (.i2l, 1) := by decide +kernel
theorem dX12_farthest_9 : decode cX12_farthest 9 = .ok (.lconst 1, 1) := by decide +kernel
theorem dX12_farthest_10 : decode cX12_farthest 10 = .ok (.ldc2_w 260, 3) := by decide +kernel
theorem dX12_farthest_13 : decode cX12_farthest 13 = .ok (.invokestatic 48, 3) := by decide +kernel
theorem dX12_farthest_16 : decode cX12_farthest 16 = .ok (.ifCond .eq 15, 3) := by decide +kernel
theorem dX12_farthest_19 : decode cX12_farthest 19 = .ok (.iload_n 3, 1) := by decide +kernel
theorem dX12_farthest_20 : decode cX12_farthest 20 = .ok (.i2l, 1) := by decide +kernel
theorem dX12_farthest_21 : decode cX12_farthest 21 = .ok (.lconst 1, 1) := by decide +kernel
theorem dX12_farthest_22 : decode cX12_farthest 22 = .ok (.ldc2_w 262, 3) := by decide +kernel
theorem dX12_farthest_25 : decode cX12_farthest 25 = .ok (.invokestatic 48, 3) := by decide +kernel
theorem dX12_farthest_28 : decode cX12_farthest 28 = .ok (.ifCond .ne 9, 3) := by decide +kernel
theorem dX12_farthest_31 : decode cX12_farthest 31 = .ok (.aload_n 0, 1) := by decide +kernel
theorem dX12_farthest_32 : decode cX12_farthest 32 = .ok (.iconst 1, 1) := by decide +kernel
theorem dX12_farthest_33 : decode cX12_farthest 33 = .ok (.invokevirtual 65, 3) := by decide +kernel
theorem dX12_farthest_36 : decode cX12_farthest 36 = .ok (.ireturn, 1) := by decide +kernel
theorem dX12_farthest_37 : decode cX12_farthest 37 = .ok (.iconst 0, 1) := by decide +kernel
theorem dX12_farthest_38 : decode cX12_farthest 38 = .ok (.istore 4, 2) := by decide +kernel
theorem dX12_farthest_40 : decode cX12_farthest 40 = .ok (.iconst (-1), 1) := by decide +kernel
theorem dX12_farthest_41 : decode cX12_farthest 41 = .ok (.istore 5, 2) := by decide +kernel
theorem dX12_farthest_43 : decode cX12_farthest 43 = .ok (.iconst 1, 1) := by decide +kernel
theorem dX12_farthest_44 : decode cX12_farthest 44 = .ok (.istore 6, 2) := by decide +kernel
theorem dX12_farthest_46 : decode cX12_farthest 46 = .ok (.iload 6, 2) := by decide +kernel
theorem dX12_farthest_48 : decode cX12_farthest 48 = .ok (.iload_n 2, 1) := by decide +kernel
theorem dX12_farthest_49 : decode cX12_farthest 49 = .ok (.if_icmp .gt 107, 3) := by decide +kernel
theorem dX12_farthest_52 : decode cX12_farthest 52 = .ok (.iconst 1, 1) := by decide +kernel
theorem dX12_farthest_53 : decode cX12_farthest 53 = .ok (.istore 7, 2) := by decide +kernel
theorem dX12_farthest_55 : decode cX12_farthest 55 = .ok (.iload 7, 2) := by decide +kernel
theorem dX12_farthest_57 : decode cX12_farthest 57 = .ok (.iload_n 3, 1) := by decide +kernel
theorem dX12_farthest_58 : decode cX12_farthest 58 = .ok (.if_icmp .gt 92, 3) := by decide +kernel
theorem dX12_farthest_61 : decode cX12_farthest 61 = .ok (.aload_n 0, 1) := by decide +kernel
theorem dX12_farthest_62 : decode cX12_farthest 62 = .ok (.getfield 7, 3) := by decide +kernel
theorem dX12_farthest_65 : decode cX12_farthest 65 = .ok (.aload_n 0, 1) := by decide +kernel
theorem dX12_farthest_66 : decode cX12_farthest 66 = .ok (.getfield 13, 3) := by decide +kernel
theorem dX12_farthest_69 : decode cX12_farthest 69 = .ok (.invokestatic 240, 3) := by decide +kernel
theorem dX12_farthest_72 : decode cX12_farthest 72 = .ok (.aload_n 0, 1) := by decide +kernel
theorem dX12_farthest_73 : decode cX12_farthest 73 = .ok (.getfield 13, 3) := by decide +kernel
theorem dX12_farthest_76 : decode cX12_farthest 76 = .ok (.iconst 1, 1) := by decide +kernel
theorem dX12_farthest_77 : decode cX12_farthest 77 = .ok (.iconst 0, 1) := by decide +kernel
theorem dX12_farthest_78 : decode cX12_farthest 78 = .ok (.iastore, 1) := by decide +kernel
theorem dX12_farthest_79 : decode cX12_farthest 79 = .ok (.aload_n 0, 1) := by decide +kernel
theorem dX12_farthest_80 : decode cX12_farthest 80 = .ok (.aload_n 0, 1) := by decide +kernel
theorem dX12_farthest_81 : decode cX12_farthest 81 = .ok (.getfield 13, 3) := by decide +kernel
theorem dX12_farthest_84 : decode cX12_farthest 84 = .ok (.iload 6, 2) := by decide +kernel
theorem dX12_farthest_86 : decode cX12_farthest 86 = .ok (.iload 7, 2) := by decide +kernel
theorem dX12_farthest_88 : decode cX12_farthest 88 = .ok (.invokevirtual 203, 3) := by decide +kernel
theorem dX12_farthest_91 : decode cX12_farthest 91 = .ok (.istore 8, 2) := by decide +kernel
theorem dX12_farthest_93 : decode cX12_farthest 93 = .ok (.aload_n 0, 1) := by decide +kernel
theorem dX12_farthest_94 : decode cX12_farthest 94 = .ok (.aload_n 0, 1) := by decide +kernel
theorem dX12_farthest_95 : decode cX12_farthest 95 = .ok (.getfield 13, 3) := by decide +kernel
theorem dX12_farthest_98 : decode cX12_farthest 98 = .ok (.iload_n 1, 1) := by decide +kernel
theorem dX12_farthest_99 : decode cX12_farthest 99 = .ok (.iload 8, 2) := by decide +kernel
theorem dX12_farthest_101 : decode cX12_farthest 101 = .ok (.invokevirtual 257, 3) := by decide +kernel
theorem dX12_farthest_104 : decode cX12_farthest 104 = .ok (.istore 9, 2) := by decide +kernel
theorem dX12_farthest_106 : decode cX12_farthest 106 = .ok (.iload 9, 2) := by decide +kernel
theorem dX12_farthest_108 : decode cX12_farthest 108 = .ok (.iload 5, 2) := by decide +kernel
theorem dX12_farthest_110 : decode cX12_farthest 110 = .ok (.if_icmp .le 14, 3) := by decide +kernel
theorem dX12_farthest_113 : decode cX12_farthest 113 = .ok (.bipush 100, 2) := by decide +kernel
theorem dX12_farthest_115 : decode cX12_farthest 115 = .ok (.iload 6, 2) := by decide +kernel
theorem dX12_farthest_117 : decode cX12_farthest 117 = .ok (.imul, 1) := by decide +kernel
theorem dX12_farthest_118 : decode cX12_farthest 118 = .ok (.iload 7, 2) := by decide +kernel
theorem dX12_farthest_120 : decode cX12_farthest 120 = .ok (.iadd, 1) := by decide +kernel
theorem dX12_farthest_121 : decode cX12_farthest 121 = .ok (.goto 5, 3) := by decide +kernel
theorem dX12_farthest_124 : decode cX12_farthest 124 = .ok (.iload 4, 2) := by decide +kernel
theorem dX12_farthest_126 : decode cX12_farthest 126 = .ok (.istore 4, 2) := by decide +kernel
theorem dX12_farthest_128 : decode cX12_farthest 128 = .ok (.iload 9, 2) := by decide +kernel
theorem dX12_farthest_130 : decode cX12_farthest 130 = .ok (.iload 5, 2) := by decide +kernel
theorem dX12_farthest_132 : decode cX12_farthest 132 = .ok (.if_icmp .le 8, 3) := by decide +kernel
theorem dX12_farthest_135 : decode cX12_farthest 135 = .ok (.iload 9, 2) := by decide +kernel
theorem dX12_farthest_137 : decode cX12_farthest 137 = .ok (.goto 5, 3) := by decide +kernel
theorem dX12_farthest_140 : decode cX12_farthest 140 = .ok (.iload 5, 2) := by decide +kernel
theorem dX12_farthest_142 : decode cX12_farthest 142 = .ok (.istore 5, 2) := by decide +kernel
theorem dX12_farthest_144 : decode cX12_farthest 144 = .ok (.iinc 7 1, 3) := by decide +kernel
theorem dX12_farthest_147 : decode cX12_farthest 147 = .ok (.goto (-92), 3) := by decide +kernel
theorem dX12_farthest_150 : decode cX12_farthest 150 = .ok (.iinc 6 1, 3) := by decide +kernel
theorem dX12_farthest_153 : decode cX12_farthest 153 = .ok (.goto (-107), 3) := by decide +kernel
theorem dX12_farthest_156 : decode cX12_farthest 156 = .ok (.iload 4, 2) := by decide +kernel
theorem dX12_farthest_158 : decode cX12_farthest 158 = .ok (.ireturn, 1) := by decide +kernel
theorem dX12_second_0 : decode cX12_second 0 = .ok (.iload_n 1, 1) := by decide +kernel
theorem dX12_second_1 : decode cX12_second 1 = .ok (.invokestatic 244, 3) := by decide +kernel
theorem dX12_second_4 : decode cX12_second 4 = .ok (.ifCond .eq 27, 3) := by decide +kernel
theorem dX12_second_7 : decode cX12_second 7 = .ok (.iload_n 2, 1) := by decide +kernel
theorem dX12_second_8 : decode cX12_second 8 = .ok (.i2l, 1) := by decide +kernel
theorem dX12_second_9 : decode cX12_second 9 = .ok (.lconst 0, 1) := by decide +kernel
theorem dX12_second_10 : decode cX12_second 10 = .ok (.ldc2_w 262, 3) := by decide +kernel
theorem dX12_second_13 : decode cX12_second 13 = .ok (.invokestatic 48, 3) := by decide +kernel
theorem dX12_second_16 : decode cX12_second 16 = .ok (.ifCond .eq 15, 3) := by decide +kernel
theorem dX12_second_19 : decode cX12_second 19 = .ok (.iload_n 3, 1) := by decide +kernel
theorem dX12_second_20 : decode cX12_second 20 = .ok (.i2l, 1) := by decide +kernel
theorem dX12_second_21 : decode cX12_second 21 = .ok (.lconst 1, 1) := by decide +kernel
theorem dX12_second_22 : decode cX12_second 22 = .ok (.ldc2_w 201, 3) := by decide +kernel
theorem dX12_second_25 : decode cX12_second 25 = .ok (.invokestatic 48, 3) := by decide +kernel
theorem dX12_second_28 : decode cX12_second 28 = .ok (.ifCond .ne 9, 3) := by decide +kernel
theorem dX12_second_31 : decode cX12_second 31 = .ok (.aload_n 0, 1) := by decide +kernel
theorem dX12_second_32 : decode cX12_second 32 = .ok (.iconst 1, 1) := by decide +kernel
theorem dX12_second_33 : decode cX12_second 33 = .ok (.invokevirtual 65, 3) := by decide +kernel
theorem dX12_second_36 : decode cX12_second 36 = .ok (.ireturn, 1) := by decide +kernel
theorem dX12_second_37 : decode cX12_second 37 = .ok (.aload_n 0, 1) := by decide +kernel
theorem dX12_second_38 : decode cX12_second 38 = .ok (.getfield 7, 3) := by decide +kernel
theorem dX12_second_41 : decode cX12_second 41 = .ok (.iconst 1, 1) := by decide +kernel
theorem dX12_second_42 : decode cX12_second 42 = .ok (.iaload, 1) := by decide +kernel
theorem dX12_second_43 : decode cX12_second 43 = .ok (.bipush 8, 2) := by decide +kernel
theorem dX12_second_45 : decode cX12_second 45 = .ok (.if_icmp .ne 9, 3) := by decide +kernel
theorem dX12_second_48 : decode cX12_second 48 = .ok (.aload_n 0, 1) := by decide +kernel
theorem dX12_second_49 : decode cX12_second 49 = .ok (.iconst 4, 1) := by decide +kernel
theorem dX12_second_50 : decode cX12_second 50 = .ok (.invokevirtual 65, 3) := by decide +kernel
theorem dX12_second_53 : decode cX12_second 53 = .ok (.ireturn, 1) := by decide +kernel
theorem dX12_second_54 : decode cX12_second 54 = .ok (.aload_n 0, 1) := by decide +kernel
theorem dX12_second_55 : decode cX12_second 55 = .ok (.getfield 7, 3) := by decide +kernel
theorem dX12_second_58 : decode cX12_second 58 = .ok (.aload_n 0, 1) := by decide +kernel
theorem dX12_second_59 : decode cX12_second 59 = .ok (.getfield 16, 3) := by decide +kernel
theorem dX12_second_62 : decode cX12_second 62 = .ok (.invokestatic 240, 3) := by decide +kernel
theorem dX12_second_65 : decode cX12_second 65 = .ok (.aload_n 0, 1) := by decide +kernel
theorem dX12_second_66 : decode cX12_second 66 = .ok (.aload_n 0, 1) := by decide +kernel
theorem dX12_second_67 : decode cX12_second 67 = .ok (.getfield 16, 3) := by decide +kernel
theorem dX12_second_70 : decode cX12_second 70 = .ok (.iload_n 2, 1) := by decide +kernel
theorem dX12_second_71 : decode cX12_second 71 = .ok (.invokevirtual 230, 3) := by decide +kernel
theorem dX12_second_74 : decode cX12_second 74 = .ok (.iconst 1, 1) := by decide +kernel
theorem dX12_second_75 : decode cX12_second 75 = .ok (.istore 4, 2) := by decide +kernel
theorem dX12_second_77 : decode cX12_second 77 = .ok (.iload 4, 2) := by decide +kernel
theorem dX12_second_79 : decode cX12_second 79 = .ok (.bipush 99, 2) := by decide +kernel
theorem dX12_second_81 : decode cX12_second 81 = .ok (.if_icmp .gt 49, 3) := by decide +kernel
theorem dX12_second_84 : decode cX12_second 84 = .ok (.aload_n 0, 1) := by decide +kernel
theorem dX12_second_85 : decode cX12_second 85 = .ok (.getfield 16, 3) := by decide +kernel
theorem dX12_second_88 : decode cX12_second 88 = .ok (.aload_n 0, 1) := by decide +kernel
theorem dX12_second_89 : decode cX12_second 89 = .ok (.getfield 13, 3) := by decide +kernel
theorem dX12_second_92 : decode cX12_second 92 = .ok (.invokestatic 240, 3) := by decide +kernel
theorem dX12_second_95 : decode cX12_second 95 = .ok (.aload_n 0, 1) := by decide +kernel
theorem dX12_second_96 : decode cX12_second 96 = .ok (.aload_n 0, 1) := by decide +kernel
theorem dX12_second_97 : decode cX12_second 97 = .ok (.getfield 13, 3) := by decide +kernel
theorem dX12_second_100 : decode cX12_second 100 = .ok (.iload_n 3, 1) := by decide +kernel
theorem dX12_second_101 : decode cX12_second 101 = .ok (.iload 4, 2) := by decide +kernel
theorem dX12_second_103 : decode cX12_second 103 = .ok (.invokevirtual 203, 3) := by decide +kernel
theorem dX12_second_106 : decode cX12_second 106 = .ok (.istore 5, 2) := by decide +kernel
theorem dX12_second_108 : decode cX12_second 108 = .ok (.aload_n 0, 1) := by decide +kernel
theorem dX12_second_109 : decode cX12_second 109 = .ok (.aload_n 0, 1) := by decide +kernel
theorem dX12_second_110 : decode cX12_second 110 = .ok (.getfield 13, 3) := by decide +kernel
theorem dX12_second_113 : decode cX12_second 113 = .ok (.iload_n 1, 1) := by decide +kernel
theorem dX12_second_114 : decode cX12_second 114 = .ok (.invokevirtual 254, 3) := by decide +kernel
theorem dX12_second_117 : decode cX12_second 117 = .ok (.iconst 2, 1) := by decide +kernel
theorem dX12_second_118 : decode cX12_second 118 = .ok (.if_icmp .lt 6, 3) := by decide +kernel
theorem dX12_second_121 : decode cX12_second 121 = .ok (.iload 4, 2) := by decide +kernel
theorem dX12_second_123 : decode cX12_second 123 = .ok (.ireturn, 1) := by decide +kernel
theorem dX12_second_124 : decode cX12_second 124 = .ok (.iinc 4 1, 3) := by decide +kernel
theorem dX12_second_127 : decode cX12_second 127 = .ok (.goto (-50), 3) := by decide +kernel
theorem dX12_second_130 : decode cX12_second 130 = .ok (.aload_n 0, 1) := by decide +kernel
theorem dX12_second_131 : decode cX12_second 131 = .ok (.iconst 2, 1) := by decide +kernel
theorem dX12_second_132 : decode cX12_second 132 = .ok (.invokevirtual 65, 3) := by decide +kernel
theorem dX12_second_135 : decode cX12_second 135 = .ok (.ireturn, 1) := by decide +kernel
theorem dX12_alike_0 : decode cX12_alike 0 = .ok (.iload_n 1, 1) := by decide +kernel
theorem dX12_alike_1 : decode cX12_alike 1 = .ok (.invokestatic 244, 3) := by decide +kernel
theorem dX12_alike_4 : decode cX12_alike 4 = .ok (.ifCond .eq 15, 3) := by decide +kernel
theorem dX12_alike_7 : decode cX12_alike 7 = .ok (.iload_n 2, 1) := by decide +kernel
theorem dX12_alike_8 : decode cX12_alike 8 = .ok (.i2l, 1) := by decide +kernel
theorem dX12_alike_9 : decode cX12_alike 9 = .ok (.lconst 0, 1) := by decide +kernel
theorem dX12_alike_10 : decode cX12_alike 10 = .ok (.ldc2_w 59, 3) := by decide +kernel
theorem dX12_alike_13 : decode cX12_alike 13 = .ok (.invokestatic 48, 3) := by decide +kernel
theorem dX12_alike_16 : decode cX12_alike 16 = .ok (.ifCond .ne 9, 3) := by decide +kernel
theorem dX12_alike_19 : decode cX12_alike 19 = .ok (.aload_n 0, 1) := by decide +kernel
theorem dX12_alike_20 : decode cX12_alike 20 = .ok (.iconst 1, 1) := by decide +kernel
theorem dX12_alike_21 : decode cX12_alike 21 = .ok (.invokevirtual 65, 3) := by decide +kernel
theorem dX12_alike_24 : decode cX12_alike 24 = .ok (.ireturn, 1) := by decide +kernel
theorem dX12_alike_25 : decode cX12_alike 25 = .ok (.iconst 0, 1) := by decide +kernel
theorem dX12_alike_26 : decode cX12_alike 26 = .ok (.istore_n 3, 1) := by decide +kernel
theorem dX12_alike_27 : decode cX12_alike 27 = .ok (.iload_n 3, 1) := by decide +kernel
theorem dX12_alike_28 : decode cX12_alike 28 = .ok (.bipush 99, 2) := by decide +kernel
theorem dX12_alike_30 : decode cX12_alike 30 = .ok (.if_icmp .gt 96, 3) := by decide +kernel
theorem dX12_alike_33 : decode cX12_alike 33 = .ok (.iload_n 3, 1) := by decide +kernel
theorem dX12_alike_34 : decode cX12_alike 34 = .ok (.iload_n 2, 1) := by decide +kernel
theorem dX12_alike_35 : decode cX12_alike 35 = .ok (.if_icmp .gt 91, 3) := by decide +kernel
theorem dX12_alike_38 : decode cX12_alike 38 = .ok (.aload_n 0, 1) := by decide +kernel
theorem dX12_alike_39 : decode cX12_alike 39 = .ok (.getfield 7, 3) := by decide +kernel
theorem dX12_alike_42 : decode cX12_alike 42 = .ok (.aload_n 0, 1) := by decide +kernel
theorem dX12_alike_43 : decode cX12_alike 43 = .ok (.getfield 13, 3) := by decide +kernel
theorem dX12_alike_46 : decode cX12_alike 46 = .ok (.invokestatic 240, 3) := by decide +kernel
theorem dX12_alike_49 : decode cX12_alike 49 = .ok (.aload_n 0, 1) := by decide +kernel
theorem dX12_alike_50 : decode cX12_alike 50 = .ok (.getfield 13, 3) := by decide +kernel
theorem dX12_alike_53 : decode cX12_alike 53 = .ok (.iconst 1, 1) := by decide +kernel
theorem dX12_alike_54 : decode cX12_alike 54 = .ok (.iconst 0, 1) := by decide +kernel
theorem dX12_alike_55 : decode cX12_alike 55 = .ok (.iastore, 1) := by decide +kernel
theorem dX12_alike_56 : decode cX12_alike 56 = .ok (.aload_n 0, 1) := by decide +kernel
theorem dX12_alike_57 : decode cX12_alike 57 = .ok (.getfield 13, 3) := by decide +kernel
theorem dX12_alike_60 : decode cX12_alike 60 = .ok (.iconst 0, 1) := by decide +kernel
theorem dX12_alike_61 : decode cX12_alike 61 = .ok (.iconst 0, 1) := by decide +kernel
theorem dX12_alike_62 : decode cX12_alike 62 = .ok (.iconst 1, 1) := by decide +kernel
theorem dX12_alike_63 : decode cX12_alike 63 = .ok (.iload_n 2, 1) := by decide +kernel
theorem dX12_alike_64 : decode cX12_alike 64 = .ok (.bipush 20, 2) := by decide +kernel
theorem dX12_alike_66 : decode cX12_alike 66 = .ok (.iconst 4, 1) := by decide +kernel
theorem dX12_alike_67 : decode cX12_alike 67 = .ok (.invokestatic 69, 3) := by decide +kernel
theorem dX12_alike_70 : decode cX12_alike 70 = .ok (.istore 4, 2) := by decide +kernel
theorem dX12_alike_72 : decode cX12_alike 72 = .ok (.aload_n 0, 1) := by decide +kernel
theorem dX12_alike_73 : decode cX12_alike 73 = .ok (.getfield 13, 3) := by decide +kernel
theorem dX12_alike_76 : decode cX12_alike 76 = .ok (.bipush (-20), 2) := by decide +kernel
theorem dX12_alike_78 : decode cX12_alike 78 = .ok (.iconst 0, 1) := by decide +kernel
theorem dX12_alike_79 : decode cX12_alike 79 = .ok (.iconst 1, 1) := by decide +kernel
theorem dX12_alike_80 : decode cX12_alike 80 = .ok (.iload_n 2, 1) := by decide +kernel
theorem dX12_alike_81 : decode cX12_alike 81 = .ok (.iload_n 3, 1) := by decide +kernel
theorem dX12_alike_82 : decode cX12_alike 82 = .ok (.isub, 1) := by decide +kernel
theorem dX12_alike_83 : decode cX12_alike 83 = .ok (.bipush 20, 2) := by decide +kernel
theorem dX12_alike_85 : decode cX12_alike 85 = .ok (.iconst 4, 1) := by decide +kernel
theorem dX12_alike_86 : decode cX12_alike 86 = .ok (.invokestatic 69, 3) := by decide +kernel
theorem dX12_alike_89 : decode cX12_alike 89 = .ok (.istore 5, 2) := by decide +kernel
theorem dX12_alike_91 : decode cX12_alike 91 = .ok (.aload_n 0, 1) := by decide +kernel
theorem dX12_alike_92 : decode cX12_alike 92 = .ok (.aload_n 0, 1) := by decide +kernel
theorem dX12_alike_93 : decode cX12_alike 93 = .ok (.getfield 13, 3) := by decide +kernel
theorem dX12_alike_96 : decode cX12_alike 96 = .ok (.iload_n 1, 1) := by decide +kernel
theorem dX12_alike_97 : decode cX12_alike 97 = .ok (.invokevirtual 254, 3) := by decide +kernel
theorem dX12_alike_100 : decode cX12_alike 100 = .ok (.iconst 1, 1) := by decide +kernel
theorem dX12_alike_101 : decode cX12_alike 101 = .ok (.if_icmp .ge 19, 3) := by decide +kernel
theorem dX12_alike_104 : decode cX12_alike 104 = .ok (.iload_n 3, 1) := by decide +kernel
theorem dX12_alike_105 : decode cX12_alike 105 = .ok (.ifCond .ne 11, 3) := by decide +kernel
theorem dX12_alike_108 : decode cX12_alike 108 = .ok (.aload_n 0, 1) := by decide +kernel
theorem dX12_alike_109 : decode cX12_alike 109 = .ok (.iconst 2, 1) := by decide +kernel
theorem dX12_alike_110 : decode cX12_alike 110 = .ok (.invokevirtual 65, 3) := by decide +kernel
theorem dX12_alike_113 : decode cX12_alike 113 = .ok (.goto 6, 3) := by decide +kernel
theorem dX12_alike_116 : decode cX12_alike 116 = .ok (.iload_n 3, 1) := by decide +kernel
theorem dX12_alike_117 : decode cX12_alike 117 = .ok (.iconst 1, 1) := by decide +kernel
theorem dX12_alike_118 : decode cX12_alike 118 = .ok (.isub, 1) := by decide +kernel
theorem dX12_alike_119 : decode cX12_alike 119 = .ok (.ireturn, 1) := by decide +kernel
theorem dX12_alike_120 : decode cX12_alike 120 = .ok (.iinc 3 1, 3) := by decide +kernel
theorem dX12_alike_123 : decode cX12_alike 123 = .ok (.goto (-96), 3) := by decide +kernel
theorem dX12_alike_126 : decode cX12_alike 126 = .ok (.iload_n 2, 1) := by decide +kernel
theorem dX12_alike_127 : decode cX12_alike 127 = .ok (.bipush 99, 2) := by decide +kernel
theorem dX12_alike_129 : decode cX12_alike 129 = .ok (.if_icmp .ge 7, 3) := by decide +kernel
theorem dX12_alike_132 : decode cX12_alike 132 = .ok (.iload_n 2, 1) := by decide +kernel
theorem dX12_alike_133 : decode cX12_alike 133 = .ok (.goto 5, 3) := by decide +kernel
theorem dX12_alike_136 : decode cX12_alike 136 = .ok (.bipush 99, 2) := by decide +kernel
theorem dX12_alike_138 : decode cX12_alike 138 = .ok (.ireturn, 1) := by decide +kernel
theorem dX12_offIn_0 : decode cX12_offIn 0 = .ok (.iconst 0, 1) := by decide +kernel
theorem dX12_offIn_1 : decode cX12_offIn 1 = .ok (.istore_n 3, 1) := by decide +kernel
theorem dX12_offIn_2 : decode cX12_offIn 2 = .ok (.iconst 0, 1) := by decide +kernel
theorem dX12_offIn_3 : decode cX12_offIn 3 = .ok (.istore 4, 2) := by decide +kernel
theorem dX12_offIn_5 : decode cX12_offIn 5 = .ok (.iload 4, 2) := by decide +kernel
theorem dX12_offIn_7 : decode cX12_offIn 7 = .ok (.aload_n 0, 1) := by decide +kernel
theorem dX12_offIn_8 : decode cX12_offIn 8 = .ok (.getfield 37, 3) := by decide +kernel
theorem dX12_offIn_11 : decode cX12_offIn 11 = .ok (.iload_n 2, 1) := by decide +kernel
theorem dX12_offIn_12 : decode cX12_offIn 12 = .ok (.iaload, 1) := by decide +kernel
theorem dX12_offIn_13 : decode cX12_offIn 13 = .ok (.if_icmp .ge 91, 3) := by decide +kernel
theorem dX12_offIn_16 : decode cX12_offIn 16 = .ok (.aload_n 0, 1) := by decide +kernel
theorem dX12_offIn_17 : decode cX12_offIn 17 = .ok (.aload_n 1, 1) := by decide +kernel
theorem dX12_offIn_18 : decode cX12_offIn 18 = .ok (.invokevirtual 224, 3) := by decide +kernel
theorem dX12_offIn_21 : decode cX12_offIn 21 = .ok (.aload_n 0, 1) := by decide +kernel
theorem dX12_offIn_22 : decode cX12_offIn 22 = .ok (.getfield 40, 3) := by decide +kernel
theorem dX12_offIn_25 : decode cX12_offIn 25 = .ok (.bipush 40, 2) := by decide +kernel
theorem dX12_offIn_27 : decode cX12_offIn 27 = .ok (.iload_n 2, 1) := by decide +kernel
theorem dX12_offIn_28 : decode cX12_offIn 28 = .ok (.imul, 1) := by decide +kernel
theorem dX12_offIn_29 : decode cX12_offIn 29 = .ok (.iload 4, 2) := by decide +kernel
theorem dX12_offIn_31 : decode cX12_offIn 31 = .ok (.iadd, 1) := by decide +kernel
theorem dX12_offIn_32 : decode cX12_offIn 32 = .ok (.iaload, 1) := by decide +kernel
theorem dX12_offIn_33 : decode cX12_offIn 33 = .ok (.i2l, 1) := by decide +kernel
theorem dX12_offIn_34 : decode cX12_offIn 34 = .ok (.lstore 5, 2) := by decide +kernel
theorem dX12_offIn_36 : decode cX12_offIn 36 = .ok (.aload_n 1, 1) := by decide +kernel
theorem dX12_offIn_37 : decode cX12_offIn 37 = .ok (.iconst 0, 1) := by decide +kernel
theorem dX12_offIn_38 : decode cX12_offIn 38 = .ok (.invokestatic 209, 3) := by decide +kernel
theorem dX12_offIn_41 : decode cX12_offIn 41 = .ok (.ifCond .eq 16, 3) := by decide +kernel
theorem dX12_offIn_44 : decode cX12_offIn 44 = .ok (.aload_n 1, 1) := by decide +kernel
theorem dX12_offIn_45 : decode cX12_offIn 45 = .ok (.iconst 0, 1) := by decide +kernel
theorem dX12_offIn_46 : decode cX12_offIn 46 = .ok (.iconst 0, 1) := by decide +kernel
theorem dX12_offIn_47 : decode cX12_offIn 47 = .ok (.invokestatic 73, 3) := by decide +kernel
theorem dX12_offIn_50 : decode cX12_offIn 50 = .ok (.i2l, 1) := by decide +kernel
theorem dX12_offIn_51 : decode cX12_offIn 51 = .ok (.lload 5, 2) := by decide +kernel
theorem dX12_offIn_53 : decode cX12_offIn 53 = .ok (.lsub, 1) := by decide +kernel
theorem dX12_offIn_54 : decode cX12_offIn 54 = .ok (.goto 4, 3) := by decide +kernel
theorem dX12_offIn_57 : decode cX12_offIn 57 = .ok (.lconst 0, 1) := by decide +kernel
theorem dX12_offIn_58 : decode cX12_offIn 58 = .ok (.lstore 7, 2) := by decide +kernel
theorem dX12_offIn_60 : decode cX12_offIn 60 = .ok (.lload 7, 2) := by decide +kernel
theorem dX12_offIn_62 : decode cX12_offIn 62 = .ok (.lconst 0, 1) := by decide +kernel
theorem dX12_offIn_63 : decode cX12_offIn 63 = .ok (.lcmp, 1) := by decide +kernel
theorem dX12_offIn_64 : decode cX12_offIn 64 = .ok (.ifCond .ge 9, 3) := by decide +kernel
theorem dX12_offIn_67 : decode cX12_offIn 67 = .ok (.lload 7, 2) := by decide +kernel
theorem dX12_offIn_69 : decode cX12_offIn 69 = .ok (.lneg, 1) := by decide +kernel
theorem dX12_offIn_70 : decode cX12_offIn 70 = .ok (.goto 5, 3) := by decide +kernel
theorem dX12_offIn_73 : decode cX12_offIn 73 = .ok (.lload 7, 2) := by decide +kernel
theorem dX12_offIn_75 : decode cX12_offIn 75 = .ok (.lstore 7, 2) := by decide +kernel
theorem dX12_offIn_77 : decode cX12_offIn 77 = .ok (.iload_n 3, 1) := by decide +kernel
theorem dX12_offIn_78 : decode cX12_offIn 78 = .ok (.lload 7, 2) := by decide +kernel
theorem dX12_offIn_80 : decode cX12_offIn 80 = .ok (.ldc2_w 264, 3) := by decide +kernel
theorem dX12_offIn_83 : decode cX12_offIn 83 = .ok (.lcmp, 1) := by decide +kernel
theorem dX12_offIn_84 : decode cX12_offIn 84 = .ok (.ifCond .le 9, 3) := by decide +kernel
theorem dX12_offIn_87 : decode cX12_offIn 87 = .ok (.ldc_w 266, 3) := by decide +kernel
theorem dX12_offIn_90 : decode cX12_offIn 90 = .ok (.goto 6, 3) := by decide +kernel
theorem dX12_offIn_93 : decode cX12_offIn 93 = .ok (.lload 7, 2) := by decide +kernel
theorem dX12_offIn_95 : decode cX12_offIn 95 = .ok (.l2i, 1) := by decide +kernel
theorem dX12_offIn_96 : decode cX12_offIn 96 = .ok (.iadd, 1) := by decide +kernel
theorem dX12_offIn_97 : decode cX12_offIn 97 = .ok (.istore_n 3, 1) := by decide +kernel
theorem dX12_offIn_98 : decode cX12_offIn 98 = .ok (.iinc 4 1, 3) := by decide +kernel
theorem dX12_offIn_101 : decode cX12_offIn 101 = .ok (.goto (-96), 3) := by decide +kernel
theorem dX12_offIn_104 : decode cX12_offIn 104 = .ok (.iload_n 3, 1) := by decide +kernel
theorem dX12_offIn_105 : decode cX12_offIn 105 = .ok (.ireturn, 1) := by decide +kernel
theorem dX12_whyNoFilm_0 : decode cX12_whyNoFilm 0 = .ok (.iload_n 1, 1) := by decide +kernel
theorem dX12_whyNoFilm_1 : decode cX12_whyNoFilm 1 = .ok (.invokestatic 267, 3) := by decide +kernel
theorem dX12_whyNoFilm_4 : decode cX12_whyNoFilm 4 = .ok (.ifCond .ne 7, 3) := by decide +kernel
theorem dX12_whyNoFilm_7 : decode cX12_whyNoFilm 7 = .ok (.iconst 1, 1) := by decide +kernel
theorem dX12_whyNoFilm_8 : decode cX12_whyNoFilm 8 = .ok (.goto 26, 3) := by decide +kernel
theorem dX12_whyNoFilm_11 : decode cX12_whyNoFilm 11 = .ok (.aload_n 0, 1) := by decide +kernel
theorem dX12_whyNoFilm_12 : decode cX12_whyNoFilm 12 = .ok (.getfield 34, 3) := by decide +kernel
theorem dX12_whyNoFilm_15 : decode cX12_whyNoFilm 15 = .ok (.iload_n 1, 1) := by decide +kernel
theorem dX12_whyNoFilm_16 : decode cX12_whyNoFilm 16 = .ok (.iaload, 1) := by decide +kernel
theorem dX12_whyNoFilm_17 : decode cX12_whyNoFilm 17 = .ok (.ifCond .eq 12, 3) := by decide +kernel
theorem dX12_whyNoFilm_20 : decode cX12_whyNoFilm 20 = .ok (.aload_n 0, 1) := by decide +kernel
theorem dX12_whyNoFilm_21 : decode cX12_whyNoFilm 21 = .ok (.getfield 7, 3) := by decide +kernel
theorem dX12_whyNoFilm_24 : decode cX12_whyNoFilm 24 = .ok (.iconst 1, 1) := by decide +kernel
theorem dX12_whyNoFilm_25 : decode cX12_whyNoFilm 25 = .ok (.iaload, 1) := by decide +kernel
theorem dX12_whyNoFilm_26 : decode cX12_whyNoFilm 26 = .ok (.ifCond .ne 7, 3) := by decide +kernel
theorem dX12_whyNoFilm_29 : decode cX12_whyNoFilm 29 = .ok (.iconst 2, 1) := by decide +kernel
theorem dX12_whyNoFilm_30 : decode cX12_whyNoFilm 30 = .ok (.goto 4, 3) := by decide +kernel
theorem dX12_whyNoFilm_33 : decode cX12_whyNoFilm 33 = .ok (.iconst 0, 1) := by decide +kernel
theorem dX12_whyNoFilm_34 : decode cX12_whyNoFilm 34 = .ok (.ireturn, 1) := by decide +kernel
theorem dX12_off_0 : decode cX12_off 0 = .ok (.aload_n 0, 1) := by decide +kernel
theorem dX12_off_1 : decode cX12_off 1 = .ok (.iload_n 1, 1) := by decide +kernel
theorem dX12_off_2 : decode cX12_off 2 = .ok (.invokevirtual 270, 3) := by decide +kernel
theorem dX12_off_5 : decode cX12_off 5 = .ok (.istore_n 2, 1) := by decide +kernel
theorem dX12_off_6 : decode cX12_off 6 = .ok (.iload_n 2, 1) := by decide +kernel
theorem dX12_off_7 : decode cX12_off 7 = .ok (.ifCond .eq 9, 3) := by decide +kernel
theorem dX12_off_10 : decode cX12_off 10 = .ok (.aload_n 0, 1) := by decide +kernel
theorem dX12_off_11 : decode cX12_off 11 = .ok (.iload_n 2, 1) := by decide +kernel
theorem dX12_off_12 : decode cX12_off 12 = .ok (.invokevirtual 65, 3) := by decide +kernel
theorem dX12_off_15 : decode cX12_off 15 = .ok (.ireturn, 1) := by decide +kernel
theorem dX12_off_16 : decode cX12_off 16 = .ok (.aload_n 0, 1) := by decide +kernel
theorem dX12_off_17 : decode cX12_off 17 = .ok (.getfield 7, 3) := by decide +kernel
theorem dX12_off_20 : decode cX12_off 20 = .ok (.aload_n 0, 1) := by decide +kernel
theorem dX12_off_21 : decode cX12_off 21 = .ok (.getfield 13, 3) := by decide +kernel
theorem dX12_off_24 : decode cX12_off 24 = .ok (.invokestatic 240, 3) := by decide +kernel
theorem dX12_off_27 : decode cX12_off 27 = .ok (.aload_n 0, 1) := by decide +kernel
theorem dX12_off_28 : decode cX12_off 28 = .ok (.aload_n 0, 1) := by decide +kernel
theorem dX12_off_29 : decode cX12_off 29 = .ok (.getfield 13, 3) := by decide +kernel
theorem dX12_off_32 : decode cX12_off 32 = .ok (.iload_n 1, 1) := by decide +kernel
theorem dX12_off_33 : decode cX12_off 33 = .ok (.invokevirtual 273, 3) := by decide +kernel
theorem dX12_off_36 : decode cX12_off 36 = .ok (.ireturn, 1) := by decide +kernel
theorem dX12_spun_0 : decode cX12_spun 0 = .ok (.aload_n 0, 1) := by decide +kernel
theorem dX12_spun_1 : decode cX12_spun 1 = .ok (.iload_n 1, 1) := by decide +kernel
theorem dX12_spun_2 : decode cX12_spun 2 = .ok (.invokevirtual 270, 3) := by decide +kernel
theorem dX12_spun_5 : decode cX12_spun 5 = .ok (.istore_n 2, 1) := by decide +kernel
theorem dX12_spun_6 : decode cX12_spun 6 = .ok (.iload_n 2, 1) := by decide +kernel
theorem dX12_spun_7 : decode cX12_spun 7 = .ok (.ifCond .eq 9, 3) := by decide +kernel
theorem dX12_spun_10 : decode cX12_spun 10 = .ok (.aload_n 0, 1) := by decide +kernel
theorem dX12_spun_11 : decode cX12_spun 11 = .ok (.iload_n 2, 1) := by decide +kernel
theorem dX12_spun_12 : decode cX12_spun 12 = .ok (.invokevirtual 65, 3) := by decide +kernel
theorem dX12_spun_15 : decode cX12_spun 15 = .ok (.ireturn, 1) := by decide +kernel
theorem dX12_spun_16 : decode cX12_spun 16 = .ok (.iconst (-1), 1) := by decide +kernel
theorem dX12_spun_17 : decode cX12_spun 17 = .ok (.istore_n 3, 1) := by decide +kernel
theorem dX12_spun_18 : decode cX12_spun 18 = .ok (.iconst 0, 1) := by decide +kernel
theorem dX12_spun_19 : decode cX12_spun 19 = .ok (.istore 4, 2) := by decide +kernel
theorem dX12_spun_21 : decode cX12_spun 21 = .ok (.iconst 0, 1) := by decide +kernel
theorem dX12_spun_22 : decode cX12_spun 22 = .ok (.istore 5, 2) := by decide +kernel
theorem dX12_spun_24 : decode cX12_spun 24 = .ok (.iload 5, 2) := by decide +kernel
theorem dX12_spun_26 : decode cX12_spun 26 = .ok (.sipush 999, 3) := by decide +kernel
theorem dX12_spun_29 : decode cX12_spun 29 = .ok (.if_icmp .gt 58, 3) := by decide +kernel
theorem dX12_spun_32 : decode cX12_spun 32 = .ok (.aload_n 0, 1) := by decide +kernel
theorem dX12_spun_33 : decode cX12_spun 33 = .ok (.getfield 7, 3) := by decide +kernel
theorem dX12_spun_36 : decode cX12_spun 36 = .ok (.aload_n 0, 1) := by decide +kernel
theorem dX12_spun_37 : decode cX12_spun 37 = .ok (.getfield 13, 3) := by decide +kernel
theorem dX12_spun_40 : decode cX12_spun 40 = .ok (.invokestatic 240, 3) := by decide +kernel
theorem dX12_spun_43 : decode cX12_spun 43 = .ok (.aload_n 0, 1) := by decide +kernel
theorem dX12_spun_44 : decode cX12_spun 44 = .ok (.getfield 13, 3) := by decide +kernel
theorem dX12_spun_47 : decode cX12_spun 47 = .ok (.bipush 83, 2) := by decide +kernel
theorem dX12_spun_49 : decode cX12_spun 49 = .ok (.iload 5, 2) := by decide +kernel
theorem dX12_spun_51 : decode cX12_spun 51 = .ok (.iastore, 1) := by decide +kernel
theorem dX12_spun_52 : decode cX12_spun 52 = .ok (.aload_n 0, 1) := by decide +kernel
theorem dX12_spun_53 : decode cX12_spun 53 = .ok (.aload_n 0, 1) := by decide +kernel
theorem dX12_spun_54 : decode cX12_spun 54 = .ok (.getfield 13, 3) := by decide +kernel
theorem dX12_spun_57 : decode cX12_spun 57 = .ok (.iload_n 1, 1) := by decide +kernel
theorem dX12_spun_58 : decode cX12_spun 58 = .ok (.invokevirtual 273, 3) := by decide +kernel
theorem dX12_spun_61 : decode cX12_spun 61 = .ok (.istore 6, 2) := by decide +kernel
theorem dX12_spun_63 : decode cX12_spun 63 = .ok (.iload_n 3, 1) := by decide +kernel
theorem dX12_spun_64 : decode cX12_spun 64 = .ok (.ifCond .lt 10, 3) := by decide +kernel
theorem dX12_spun_67 : decode cX12_spun 67 = .ok (.iload 6, 2) := by decide +kernel
theorem dX12_spun_69 : decode cX12_spun 69 = .ok (.iload 4, 2) := by decide +kernel
theorem dX12_spun_71 : decode cX12_spun 71 = .ok (.if_icmp .ge 10, 3) := by decide +kernel
theorem dX12_spun_74 : decode cX12_spun 74 = .ok (.iload 5, 2) := by decide +kernel
theorem dX12_spun_76 : decode cX12_spun 76 = .ok (.istore_n 3, 1) := by decide +kernel
theorem dX12_spun_77 : decode cX12_spun 77 = .ok (.iload 6, 2) := by decide +kernel
theorem dX12_spun_79 : decode cX12_spun 79 = .ok (.istore 4, 2) := by decide +kernel
theorem dX12_spun_81 : decode cX12_spun 81 = .ok (.iinc 5 9, 3) := by decide +kernel
theorem dX12_spun_84 : decode cX12_spun 84 = .ok (.goto (-60), 3) := by decide +kernel
theorem dX12_spun_87 : decode cX12_spun 87 = .ok (.iload_n 3, 1) := by decide +kernel
theorem dX12_spun_88 : decode cX12_spun 88 = .ok (.ireturn, 1) := by decide +kernel
theorem dX12_made_0 : decode cX12_made 0 = .ok (.aload_n 0, 1) := by decide +kernel
theorem dX12_made_1 : decode cX12_made 1 = .ok (.iload_n 1, 1) := by decide +kernel
theorem dX12_made_2 : decode cX12_made 2 = .ok (.invokevirtual 270, 3) := by decide +kernel
theorem dX12_made_5 : decode cX12_made 5 = .ok (.istore_n 2, 1) := by decide +kernel
theorem dX12_made_6 : decode cX12_made 6 = .ok (.iload_n 2, 1) := by decide +kernel
theorem dX12_made_7 : decode cX12_made 7 = .ok (.ifCond .eq 9, 3) := by decide +kernel
theorem dX12_made_10 : decode cX12_made 10 = .ok (.aload_n 0, 1) := by decide +kernel
theorem dX12_made_11 : decode cX12_made 11 = .ok (.iload_n 2, 1) := by decide +kernel
theorem dX12_made_12 : decode cX12_made 12 = .ok (.invokevirtual 65, 3) := by decide +kernel
theorem dX12_made_15 : decode cX12_made 15 = .ok (.ireturn, 1) := by decide +kernel
theorem dX12_made_16 : decode cX12_made 16 = .ok (.iconst (-1), 1) := by decide +kernel
theorem dX12_made_17 : decode cX12_made 17 = .ok (.istore_n 3, 1) := by decide +kernel
theorem dX12_made_18 : decode cX12_made 18 = .ok (.iconst 0, 1) := by decide +kernel
theorem dX12_made_19 : decode cX12_made 19 = .ok (.istore 4, 2) := by decide +kernel
theorem dX12_made_21 : decode cX12_made 21 = .ok (.iconst 0, 1) := by decide +kernel
theorem dX12_made_22 : decode cX12_made 22 = .ok (.istore 5, 2) := by decide +kernel
theorem dX12_made_24 : decode cX12_made 24 = .ok (.iload 5, 2) := by decide +kernel
theorem dX12_made_26 : decode cX12_made 26 = .ok (.iconst 1, 1) := by decide +kernel
theorem dX12_made_27 : decode cX12_made 27 = .ok (.aload_n 0, 1) := by decide +kernel
theorem dX12_made_28 : decode cX12_made 28 = .ok (.getfield 7, 3) := by decide +kernel
theorem dX12_made_31 : decode cX12_made 31 = .ok (.iconst 2, 1) := by decide +kernel
theorem dX12_made_32 : decode cX12_made 32 = .ok (.iaload, 1) := by decide +kernel
theorem dX12_made_33 : decode cX12_made 33 = .ok (.ishl, 1) := by decide +kernel
theorem dX12_made_34 : decode cX12_made 34 = .ok (.if_icmp .ge 57, 3) := by decide +kernel
theorem dX12_made_37 : decode cX12_made 37 = .ok (.aload_n 0, 1) := by decide +kernel
theorem dX12_made_38 : decode cX12_made 38 = .ok (.getfield 7, 3) := by decide +kernel
theorem dX12_made_41 : decode cX12_made 41 = .ok (.aload_n 0, 1) := by decide +kernel
theorem dX12_made_42 : decode cX12_made 42 = .ok (.getfield 13, 3) := by decide +kernel
theorem dX12_made_45 : decode cX12_made 45 = .ok (.invokestatic 240, 3) := by decide +kernel
theorem dX12_made_48 : decode cX12_made 48 = .ok (.aload_n 0, 1) := by decide +kernel
theorem dX12_made_49 : decode cX12_made 49 = .ok (.getfield 13, 3) := by decide +kernel
theorem dX12_made_52 : decode cX12_made 52 = .ok (.iconst 3, 1) := by decide +kernel
theorem dX12_made_53 : decode cX12_made 53 = .ok (.iload 5, 2) := by decide +kernel
theorem dX12_made_55 : decode cX12_made 55 = .ok (.iastore, 1) := by decide +kernel
theorem dX12_made_56 : decode cX12_made 56 = .ok (.aload_n 0, 1) := by decide +kernel
theorem dX12_made_57 : decode cX12_made 57 = .ok (.aload_n 0, 1) := by decide +kernel
theorem dX12_made_58 : decode cX12_made 58 = .ok (.getfield 13, 3) := by decide +kernel
theorem dX12_made_61 : decode cX12_made 61 = .ok (.iload_n 1, 1) := by decide +kernel
theorem dX12_made_62 : decode cX12_made 62 = .ok (.invokevirtual 273, 3) := by decide +kernel
theorem dX12_made_65 : decode cX12_made 65 = .ok (.istore 6, 2) := by decide +kernel
theorem dX12_made_67 : decode cX12_made 67 = .ok (.iload_n 3, 1) := by decide +kernel
theorem dX12_made_68 : decode cX12_made 68 = .ok (.ifCond .lt 10, 3) := by decide +kernel
theorem dX12_made_71 : decode cX12_made 71 = .ok (.iload 6, 2) := by decide +kernel
theorem dX12_made_73 : decode cX12_made 73 = .ok (.iload 4, 2) := by decide +kernel
theorem dX12_made_75 : decode cX12_made 75 = .ok (.if_icmp .ge 10, 3) := by decide +kernel
theorem dX12_made_78 : decode cX12_made 78 = .ok (.iload 5, 2) := by decide +kernel
theorem dX12_made_80 : decode cX12_made 80 = .ok (.istore_n 3, 1) := by decide +kernel
theorem dX12_made_81 : decode cX12_made 81 = .ok (.iload 6, 2) := by decide +kernel
theorem dX12_made_83 : decode cX12_made 83 = .ok (.istore 4, 2) := by decide +kernel
theorem dX12_made_85 : decode cX12_made 85 = .ok (.iinc 5 1, 3) := by decide +kernel
theorem dX12_made_88 : decode cX12_made 88 = .ok (.goto (-64), 3) := by decide +kernel
theorem dX12_made_91 : decode cX12_made 91 = .ok (.iload_n 3, 1) := by decide +kernel
theorem dX12_made_92 : decode cX12_made 92 = .ok (.ireturn, 1) := by decide +kernel
theorem dX12_heart_0 : decode cX12_heart 0 = .ok (.iload_n 1, 1) := by decide +kernel
theorem dX12_heart_1 : decode cX12_heart 1 = .ok (.i2l, 1) := by decide +kernel
theorem dX12_heart_2 : decode cX12_heart 2 = .ok (.lconst 1, 1) := by decide +kernel
theorem dX12_heart_3 : decode cX12_heart 3 = .ok (.ldc2_w 276, 3) := by decide +kernel
theorem dX12_heart_6 : decode cX12_heart 6 = .ok (.invokestatic 48, 3) := by decide +kernel
theorem dX12_heart_9 : decode cX12_heart 9 = .ok (.ifCond .ne 9, 3) := by decide +kernel
theorem dX12_heart_12 : decode cX12_heart 12 = .ok (.aload_n 0, 1) := by decide +kernel
theorem dX12_heart_13 : decode cX12_heart 13 = .ok (.iconst 1, 1) := by decide +kernel
theorem dX12_heart_14 : decode cX12_heart 14 = .ok (.invokevirtual 65, 3) := by decide +kernel
theorem dX12_heart_17 : decode cX12_heart 17 = .ok (.ireturn, 1) := by decide +kernel
theorem dX12_heart_18 : decode cX12_heart 18 = .ok (.iconst (-1), 1) := by decide +kernel
theorem dX12_heart_19 : decode cX12_heart 19 = .ok (.istore_n 2, 1) := by decide +kernel
theorem dX12_heart_20 : decode cX12_heart 20 = .ok (.iconst 0, 1) := by decide +kernel
theorem dX12_heart_21 : decode cX12_heart 21 = .ok (.istore_n 3, 1) := by decide +kernel
theorem dX12_heart_22 : decode cX12_heart 22 = .ok (.iconst 1, 1) := by decide +kernel
theorem dX12_heart_23 : decode cX12_heart 23 = .ok (.istore 4, 2) := by decide +kernel
theorem dX12_heart_25 : decode cX12_heart 25 = .ok (.iload 4, 2) := by decide +kernel
theorem dX12_heart_27 : decode cX12_heart 27 = .ok (.sipush 400, 3) := by decide +kernel
theorem dX12_heart_30 : decode cX12_heart 30 = .ok (.if_icmp .gt 80, 3) := by decide +kernel
theorem dX12_heart_33 : decode cX12_heart 33 = .ok (.iconst 1, 1) := by decide +kernel
theorem dX12_heart_34 : decode cX12_heart 34 = .ok (.istore 5, 2) := by decide +kernel
theorem dX12_heart_36 : decode cX12_heart 36 = .ok (.iload 5, 2) := by decide +kernel
theorem dX12_heart_38 : decode cX12_heart 38 = .ok (.bipush 99, 2) := by decide +kernel
theorem dX12_heart_40 : decode cX12_heart 40 = .ok (.if_icmp .gt 64, 3) := by decide +kernel
theorem dX12_heart_43 : decode cX12_heart 43 = .ok (.iload 4, 2) := by decide +kernel
theorem dX12_heart_45 : decode cX12_heart 45 = .ok (.iload 5, 2) := by decide +kernel
theorem dX12_heart_47 : decode cX12_heart 47 = .ok (.imul, 1) := by decide +kernel
theorem dX12_heart_48 : decode cX12_heart 48 = .ok (.iload_n 1, 1) := by decide +kernel
theorem dX12_heart_49 : decode cX12_heart 49 = .ok (.if_icmp .gt 55, 3) := by decide +kernel
theorem dX12_heart_52 : decode cX12_heart 52 = .ok (.aload_n 0, 1) := by decide +kernel
theorem dX12_heart_53 : decode cX12_heart 53 = .ok (.iconst 0, 1) := by decide +kernel
theorem dX12_heart_54 : decode cX12_heart 54 = .ok (.iload 4, 2) := by decide +kernel
theorem dX12_heart_56 : decode cX12_heart 56 = .ok (.iload 5, 2) := by decide +kernel
theorem dX12_heart_58 : decode cX12_heart 58 = .ok (.aload_n 0, 1) := by decide +kernel
theorem dX12_heart_59 : decode cX12_heart 59 = .ok (.getfield 7, 3) := by decide +kernel
theorem dX12_heart_62 : decode cX12_heart 62 = .ok (.iconst 5, 1) := by decide +kernel
theorem dX12_heart_63 : decode cX12_heart 63 = .ok (.iaload, 1) := by decide +kernel
theorem dX12_heart_64 : decode cX12_heart 64 = .ok (.invokevirtual 197, 3) := by decide +kernel
theorem dX12_heart_67 : decode cX12_heart 67 = .ok (.aload_n 0, 1) := by decide +kernel
theorem dX12_heart_68 : decode cX12_heart 68 = .ok (.iload 4, 2) := by decide +kernel
theorem dX12_heart_70 : decode cX12_heart 70 = .ok (.invokevirtual 206, 3) := by decide +kernel
theorem dX12_heart_73 : decode cX12_heart 73 = .ok (.isub, 1) := by decide +kernel
theorem dX12_heart_74 : decode cX12_heart 74 = .ok (.istore 6, 2) := by decide +kernel
theorem dX12_heart_76 : decode cX12_heart 76 = .ok (.iload_n 2, 1) := by decide +kernel
theorem dX12_heart_77 : decode cX12_heart 77 = .ok (.ifCond .lt 9, 3) := by decide +kernel
theorem dX12_heart_80 : decode cX12_heart 80 = .ok (.iload 6, 2) := by decide +kernel
theorem dX12_heart_82 : decode cX12_heart 82 = .ok (.iload_n 3, 1) := by decide +kernel
theorem dX12_heart_83 : decode cX12_heart 83 = .ok (.if_icmp .le 15, 3) := by decide +kernel
theorem dX12_heart_86 : decode cX12_heart 86 = .ok (.bipush 100, 2) := by decide +kernel
theorem dX12_heart_88 : decode cX12_heart 88 = .ok (.iload 4, 2) := by decide +kernel
theorem dX12_heart_90 : decode cX12_heart 90 = .ok (.imul, 1) := by decide +kernel
theorem dX12_heart_91 : decode cX12_heart 91 = .ok (.iload 5, 2) := by decide +kernel
theorem dX12_heart_93 : decode cX12_heart 93 = .ok (.iadd, 1) := by decide +kernel
theorem dX12_heart_94 : decode cX12_heart 94 = .ok (.istore_n 2, 1) := by decide +kernel
theorem dX12_heart_95 : decode cX12_heart 95 = .ok (.iload 6, 2) := by decide +kernel
theorem dX12_heart_97 : decode cX12_heart 97 = .ok (.istore_n 3, 1) := by decide +kernel
theorem dX12_heart_98 : decode cX12_heart 98 = .ok (.iinc 5 1, 3) := by decide +kernel
theorem dX12_heart_101 : decode cX12_heart 101 = .ok (.goto (-65), 3) := by decide +kernel
theorem dX12_heart_104 : decode cX12_heart 104 = .ok (.iinc 4 1, 3) := by decide +kernel
theorem dX12_heart_107 : decode cX12_heart 107 = .ok (.goto (-82), 3) := by decide +kernel
theorem dX12_heart_110 : decode cX12_heart 110 = .ok (.iload_n 2, 1) := by decide +kernel
theorem dX12_heart_111 : decode cX12_heart 111 = .ok (.ireturn, 1) := by decide +kernel
theorem dX12_seed_0 : decode cX12_seed 0 = .ok (.aload_n 0, 1) := by decide +kernel
theorem dX12_seed_1 : decode cX12_seed 1 = .ok (.getfield 7, 3) := by decide +kernel
theorem dX12_seed_4 : decode cX12_seed 4 = .ok (.bipush 6, 2) := by decide +kernel
theorem dX12_seed_6 : decode cX12_seed 6 = .ok (.iaload, 1) := by decide +kernel
theorem dX12_seed_7 : decode cX12_seed 7 = .ok (.istore_n 2, 1) := by decide +kernel
theorem dX12_seed_8 : decode cX12_seed 8 = .ok (.aload_n 0, 1) := by decide +kernel
theorem dX12_seed_9 : decode cX12_seed 9 = .ok (.getfield 7, 3) := by decide +kernel
theorem dX12_seed_12 : decode cX12_seed 12 = .ok (.bipush 6, 2) := by decide +kernel
theorem dX12_seed_14 : decode cX12_seed 14 = .ok (.iload_n 1, 1) := by decide +kernel
theorem dX12_seed_15 : decode cX12_seed 15 = .ok (.iastore, 1) := by decide +kernel
theorem dX12_seed_16 : decode cX12_seed 16 = .ok (.iload_n 2, 1) := by decide +kernel
theorem dX12_seed_17 : decode cX12_seed 17 = .ok (.ireturn, 1) := by decide +kernel
theorem dX12_ran_0 : decode cX12_ran 0 = .ok (.aload_n 0, 1) := by decide +kernel
theorem dX12_ran_1 : decode cX12_ran 1 = .ok (.getfield 278, 3) := by decide +kernel
theorem dX12_ran_4 : decode cX12_ran 4 = .ok (.bipush 40, 2) := by decide +kernel
theorem dX12_ran_6 : decode cX12_ran 6 = .ok (.if_icmp .ge 23, 3) := by decide +kernel
theorem dX12_ran_9 : decode cX12_ran 9 = .ok (.aload_n 0, 1) := by decide +kernel
theorem dX12_ran_10 : decode cX12_ran 10 = .ok (.getfield 31, 3) := by decide +kernel
theorem dX12_ran_13 : decode cX12_ran 13 = .ok (.aload_n 0, 1) := by decide +kernel
theorem dX12_ran_14 : decode cX12_ran 14 = .ok (.getfield 278, 3) := by decide +kernel
theorem dX12_ran_17 : decode cX12_ran 17 = .ok (.iload_n 1, 1) := by decide +kernel
theorem dX12_ran_18 : decode cX12_ran 18 = .ok (.iastore, 1) := by decide +kernel
theorem dX12_ran_19 : decode cX12_ran 19 = .ok (.aload_n 0, 1) := by decide +kernel
theorem dX12_ran_20 : decode cX12_ran 20 = .ok (.dup, 1) := by decide +kernel
theorem dX12_ran_21 : decode cX12_ran 21 = .ok (.getfield 278, 3) := by decide +kernel
theorem dX12_ran_24 : decode cX12_ran 24 = .ok (.iconst 1, 1) := by decide +kernel
theorem dX12_ran_25 : decode cX12_ran 25 = .ok (.iadd, 1) := by decide +kernel
theorem dX12_ran_26 : decode cX12_ran 26 = .ok (.putfield 278, 3) := by decide +kernel
theorem dX12_ran_29 : decode cX12_ran 29 = .ok (.return_, 1) := by decide +kernel
theorem dX12_above_0 : decode cX12_above 0 = .ok (.iload_n 0, 1) := by decide +kernel
theorem dX12_above_1 : decode cX12_above 1 = .ok (.iconst 4, 1) := by decide +kernel
theorem dX12_above_2 : decode cX12_above 2 = .ok (.if_icmp .ne 7, 3) := by decide +kernel
theorem dX12_above_5 : decode cX12_above 5 = .ok (.iconst 3, 1) := by decide +kernel
theorem dX12_above_6 : decode cX12_above 6 = .ok (.goto 14, 3) := by decide +kernel
theorem dX12_above_9 : decode cX12_above 9 = .ok (.iload_n 0, 1) := by decide +kernel
theorem dX12_above_10 : decode cX12_above 10 = .ok (.bipush 6, 2) := by decide +kernel
theorem dX12_above_12 : decode cX12_above 12 = .ok (.if_icmp .ne 7, 3) := by decide +kernel
theorem dX12_above_15 : decode cX12_above 15 = .ok (.iconst 5, 1) := by decide +kernel
theorem dX12_above_16 : decode cX12_above 16 = .ok (.goto 4, 3) := by decide +kernel
theorem dX12_above_19 : decode cX12_above 19 = .ok (.iconst 0, 1) := by decide +kernel
theorem dX12_above_20 : decode cX12_above 20 = .ok (.ireturn, 1) := by decide +kernel
theorem dX12_own_0 : decode cX12_own 0 = .ok (.aload_n 0, 1) := by decide +kernel
theorem dX12_own_1 : decode cX12_own 1 = .ok (.getfield 7, 3) := by decide +kernel
theorem dX12_own_4 : decode cX12_own 4 = .ok (.bipush 20, 2) := by decide +kernel
theorem dX12_own_6 : decode cX12_own 6 = .ok (.iconst 2, 1) := by decide +kernel
theorem dX12_own_7 : decode cX12_own 7 = .ok (.aload_n 0, 1) := by decide +kernel
theorem dX12_own_8 : decode cX12_own 8 = .ok (.getfield 281, 3) := by decide +kernel
theorem dX12_own_11 : decode cX12_own 11 = .ok (.imul, 1) := by decide +kernel
theorem dX12_own_12 : decode cX12_own 12 = .ok (.iadd, 1) := by decide +kernel
theorem dX12_own_13 : decode cX12_own 13 = .ok (.iaload, 1) := by decide +kernel
theorem dX12_own_14 : decode cX12_own 14 = .ok (.ireturn, 1) := by decide +kernel
theorem dX12_toldM_0 : decode cX12_toldM 0 = .ok (.aload_n 0, 1) := by decide +kernel
theorem dX12_toldM_1 : decode cX12_toldM 1 = .ok (.getfield 7, 3) := by decide +kernel
theorem dX12_toldM_4 : decode cX12_toldM 4 = .ok (.bipush 20, 2) := by decide +kernel
theorem dX12_toldM_6 : decode cX12_toldM 6 = .ok (.iconst 2, 1) := by decide +kernel
theorem dX12_toldM_7 : decode cX12_toldM 7 = .ok (.aload_n 0, 1) := by decide +kernel
theorem dX12_toldM_8 : decode cX12_toldM 8 = .ok (.getfield 281, 3) := by decide +kernel
theorem dX12_toldM_11 : decode cX12_toldM 11 = .ok (.imul, 1) := by decide +kernel
theorem dX12_toldM_12 : decode cX12_toldM 12 = .ok (.iadd, 1) := by decide +kernel
theorem dX12_toldM_13 : decode cX12_toldM 13 = .ok (.iconst 1, 1) := by decide +kernel
theorem dX12_toldM_14 : decode cX12_toldM 14 = .ok (.iadd, 1) := by decide +kernel
theorem dX12_toldM_15 : decode cX12_toldM 15 = .ok (.iaload, 1) := by decide +kernel
theorem dX12_toldM_16 : decode cX12_toldM 16 = .ok (.ireturn, 1) := by decide +kernel
theorem dX12_goes_0 : decode cX12_goes 0 = .ok (.iload_n 1, 1) := by decide +kernel
theorem dX12_goes_1 : decode cX12_goes 1 = .ok (.tableswitch 84 0 4 #[35, 84, 48, 84, 66], 35) := by decide +kernel
theorem dX12_goes_36 : decode cX12_goes 36 = .ok (.aload_n 0, 1) := by decide +kernel
theorem dX12_goes_37 : decode cX12_goes 37 = .ok (.bipush 10, 2) := by decide +kernel
theorem dX12_goes_39 : decode cX12_goes 39 = .ok (.invokevirtual 284, 3) := by decide +kernel
theorem dX12_goes_42 : decode cX12_goes 42 = .ok (.iload_n 2, 1) := by decide +kernel
theorem dX12_goes_43 : decode cX12_goes 43 = .ok (.aload_n 0, 1) := by decide +kernel
theorem dX12_goes_44 : decode cX12_goes 44 = .ok (.getfield 281, 3) := by decide +kernel
theorem dX12_goes_47 : decode cX12_goes 47 = .ok (.iadd, 1) := by decide +kernel
theorem dX12_goes_48 : decode cX12_goes 48 = .ok (.ireturn, 1) := by decide +kernel
theorem dX12_goes_49 : decode cX12_goes 49 = .ok (.aload_n 0, 1) := by decide +kernel
theorem dX12_goes_50 : decode cX12_goes 50 = .ok (.bipush 30, 2) := by decide +kernel
theorem dX12_goes_52 : decode cX12_goes 52 = .ok (.invokevirtual 284, 3) := by decide +kernel
theorem dX12_goes_55 : decode cX12_goes 55 = .ok (.aload_n 0, 1) := by decide +kernel
theorem dX12_goes_56 : decode cX12_goes 56 = .ok (.iconst 2, 1) := by decide +kernel
theorem dX12_goes_57 : decode cX12_goes 57 = .ok (.invokestatic 287, 3) := by decide +kernel
theorem dX12_goes_60 : decode cX12_goes 60 = .ok (.iload_n 2, 1) := by decide +kernel
theorem dX12_goes_61 : decode cX12_goes 61 = .ok (.invokevirtual 290, 3) := by decide +kernel
theorem dX12_goes_64 : decode cX12_goes 64 = .ok (.iconst 3, 1) := by decide +kernel
theorem dX12_goes_65 : decode cX12_goes 65 = .ok (.imul, 1) := by decide +kernel
theorem dX12_goes_66 : decode cX12_goes 66 = .ok (.ireturn, 1) := by decide +kernel
theorem dX12_goes_67 : decode cX12_goes 67 = .ok (.aload_n 0, 1) := by decide +kernel
theorem dX12_goes_68 : decode cX12_goes 68 = .ok (.bipush 50, 2) := by decide +kernel
theorem dX12_goes_70 : decode cX12_goes 70 = .ok (.invokevirtual 284, 3) := by decide +kernel
theorem dX12_goes_73 : decode cX12_goes 73 = .ok (.aload_n 0, 1) := by decide +kernel
theorem dX12_goes_74 : decode cX12_goes 74 = .ok (.iconst 4, 1) := by decide +kernel
theorem dX12_goes_75 : decode cX12_goes 75 = .ok (.invokestatic 287, 3) := by decide +kernel
theorem dX12_goes_78 : decode cX12_goes 78 = .ok (.iload_n 2, 1) := by decide +kernel
theorem dX12_goes_79 : decode cX12_goes 79 = .ok (.iconst 1, 1) := by decide +kernel
theorem dX12_goes_80 : decode cX12_goes 80 = .ok (.iadd, 1) := by decide +kernel
theorem dX12_goes_81 : decode cX12_goes 81 = .ok (.invokevirtual 290, 3) := by decide +kernel
theorem dX12_goes_84 : decode cX12_goes 84 = .ok (.ireturn, 1) := by decide +kernel
theorem dX12_goes_85 : decode cX12_goes 85 = .ok (.aload_n 0, 1) := by decide +kernel
theorem dX12_goes_86 : decode cX12_goes 86 = .ok (.iload_n 1, 1) := by decide +kernel
theorem dX12_goes_87 : decode cX12_goes 87 = .ok (.invokestatic 287, 3) := by decide +kernel
theorem dX12_goes_90 : decode cX12_goes 90 = .ok (.iload_n 2, 1) := by decide +kernel
theorem dX12_goes_91 : decode cX12_goes 91 = .ok (.invokevirtual 290, 3) := by decide +kernel
theorem dX12_goes_94 : decode cX12_goes 94 = .ok (.ireturn, 1) := by decide +kernel
theorem dX12_moves_0 : decode cX12_moves 0 = .ok (.iload_n 1, 1) := by decide +kernel
theorem dX12_moves_1 : decode cX12_moves 1 = .ok (.lookupswitch 102 #[(0, 35), (1, 53), (5, 81)], 35) := by decide +kernel
theorem dX12_moves_36 : decode cX12_moves 36 = .ok (.aload_n 0, 1) := by decide +kernel
theorem dX12_moves_37 : decode cX12_moves 37 = .ok (.bipush 11, 2) := by decide +kernel
theorem dX12_moves_39 : decode cX12_moves 39 = .ok (.invokevirtual 284, 3) := by decide +kernel
theorem dX12_moves_42 : decode cX12_moves 42 = .ok (.aload_n 0, 1) := by decide +kernel
theorem dX12_moves_43 : decode cX12_moves 43 = .ok (.aload_n 0, 1) := by decide +kernel
theorem dX12_moves_44 : decode cX12_moves 44 = .ok (.invokevirtual 293, 3) := by decide +kernel
theorem dX12_moves_47 : decode cX12_moves 47 = .ok (.iload_n 2, 1) := by decide +kernel
theorem dX12_moves_48 : decode cX12_moves 48 = .ok (.invokevirtual 290, 3) := by decide +kernel
theorem dX12_moves_51 : decode cX12_moves 51 = .ok (.iconst 2, 1) := by decide +kernel
theorem dX12_moves_52 : decode cX12_moves 52 = .ok (.imul, 1) := by decide +kernel
theorem dX12_moves_53 : decode cX12_moves 53 = .ok (.ireturn, 1) := by decide +kernel
theorem dX12_moves_54 : decode cX12_moves 54 = .ok (.aload_n 0, 1) := by decide +kernel
theorem dX12_moves_55 : decode cX12_moves 55 = .ok (.bipush 20, 2) := by decide +kernel
theorem dX12_moves_57 : decode cX12_moves 57 = .ok (.invokevirtual 284, 3) := by decide +kernel
theorem dX12_moves_60 : decode cX12_moves 60 = .ok (.aload_n 0, 1) := by decide +kernel
theorem dX12_moves_61 : decode cX12_moves 61 = .ok (.iconst 1, 1) := by decide +kernel
theorem dX12_moves_62 : decode cX12_moves 62 = .ok (.invokestatic 287, 3) := by decide +kernel
theorem dX12_moves_65 : decode cX12_moves 65 = .ok (.iload_n 2, 1) := by decide +kernel
theorem dX12_moves_66 : decode cX12_moves 66 = .ok (.invokevirtual 296, 3) := by decide +kernel
theorem dX12_moves_69 : decode cX12_moves 69 = .ok (.istore_n 3, 1) := by decide +kernel
theorem dX12_moves_70 : decode cX12_moves 70 = .ok (.iload_n 3, 1) := by decide +kernel
theorem dX12_moves_71 : decode cX12_moves 71 = .ok (.aload_n 0, 1) := by decide +kernel
theorem dX12_moves_72 : decode cX12_moves 72 = .ok (.aload_n 0, 1) := by decide +kernel
theorem dX12_moves_73 : decode cX12_moves 73 = .ok (.invokevirtual 293, 3) := by decide +kernel
theorem dX12_moves_76 : decode cX12_moves 76 = .ok (.iconst 1, 1) := by decide +kernel
theorem dX12_moves_77 : decode cX12_moves 77 = .ok (.invokevirtual 299, 3) := by decide +kernel
theorem dX12_moves_80 : decode cX12_moves 80 = .ok (.isub, 1) := by decide +kernel
theorem dX12_moves_81 : decode cX12_moves 81 = .ok (.ireturn, 1) := by decide +kernel
theorem dX12_moves_82 : decode cX12_moves 82 = .ok (.aload_n 0, 1) := by decide +kernel
theorem dX12_moves_83 : decode cX12_moves 83 = .ok (.bipush 60, 2) := by decide +kernel
theorem dX12_moves_85 : decode cX12_moves 85 = .ok (.invokevirtual 284, 3) := by decide +kernel
theorem dX12_moves_88 : decode cX12_moves 88 = .ok (.aload_n 0, 1) := by decide +kernel
theorem dX12_moves_89 : decode cX12_moves 89 = .ok (.iconst 5, 1) := by decide +kernel
theorem dX12_moves_90 : decode cX12_moves 90 = .ok (.invokestatic 287, 3) := by decide +kernel
theorem dX12_moves_93 : decode cX12_moves 93 = .ok (.iload_n 2, 1) := by decide +kernel
theorem dX12_moves_94 : decode cX12_moves 94 = .ok (.invokevirtual 296, 3) := by decide +kernel
theorem dX12_moves_97 : decode cX12_moves 97 = .ok (.aload_n 0, 1) := by decide +kernel
theorem dX12_moves_98 : decode cX12_moves 98 = .ok (.getfield 281, 3) := by decide +kernel
theorem dX12_moves_101 : decode cX12_moves 101 = .ok (.ixor, 1) := by decide +kernel
theorem dX12_moves_102 : decode cX12_moves 102 = .ok (.ireturn, 1) := by decide +kernel
theorem dX12_moves_103 : decode cX12_moves 103 = .ok (.aload_n 0, 1) := by decide +kernel
theorem dX12_moves_104 : decode cX12_moves 104 = .ok (.iload_n 1, 1) := by decide +kernel
theorem dX12_moves_105 : decode cX12_moves 105 = .ok (.invokestatic 287, 3) := by decide +kernel
theorem dX12_moves_108 : decode cX12_moves 108 = .ok (.iload_n 2, 1) := by decide +kernel
theorem dX12_moves_109 : decode cX12_moves 109 = .ok (.invokevirtual 296, 3) := by decide +kernel
theorem dX12_moves_112 : decode cX12_moves 112 = .ok (.ireturn, 1) := by decide +kernel
theorem dX12_ends_0 : decode cX12_ends 0 = .ok (.iload_n 1, 1) := by decide +kernel
theorem dX12_ends_1 : decode cX12_ends 1 = .ok (.lookupswitch 87 #[(0, 35), (3, 48), (6, 65)], 35) := by decide +kernel
theorem dX12_ends_36 : decode cX12_ends 36 = .ok (.aload_n 0, 1) := by decide +kernel
theorem dX12_ends_37 : decode cX12_ends 37 = .ok (.bipush 12, 2) := by decide +kernel
theorem dX12_ends_39 : decode cX12_ends 39 = .ok (.invokevirtual 284, 3) := by decide +kernel
theorem dX12_ends_42 : decode cX12_ends 42 = .ok (.iload_n 2, 1) := by decide +kernel
theorem dX12_ends_43 : decode cX12_ends 43 = .ok (.aload_n 0, 1) := by decide +kernel
theorem dX12_ends_44 : decode cX12_ends 44 = .ok (.invokevirtual 302, 3) := by decide +kernel
theorem dX12_ends_47 : decode cX12_ends 47 = .ok (.isub, 1) := by decide +kernel
theorem dX12_ends_48 : decode cX12_ends 48 = .ok (.ireturn, 1) := by decide +kernel
theorem dX12_ends_49 : decode cX12_ends 49 = .ok (.aload_n 0, 1) := by decide +kernel
theorem dX12_ends_50 : decode cX12_ends 50 = .ok (.bipush 40, 2) := by decide +kernel
theorem dX12_ends_52 : decode cX12_ends 52 = .ok (.invokevirtual 284, 3) := by decide +kernel
theorem dX12_ends_55 : decode cX12_ends 55 = .ok (.aload_n 0, 1) := by decide +kernel
theorem dX12_ends_56 : decode cX12_ends 56 = .ok (.iconst 3, 1) := by decide +kernel
theorem dX12_ends_57 : decode cX12_ends 57 = .ok (.invokestatic 287, 3) := by decide +kernel
theorem dX12_ends_60 : decode cX12_ends 60 = .ok (.iload_n 2, 1) := by decide +kernel
theorem dX12_ends_61 : decode cX12_ends 61 = .ok (.invokevirtual 299, 3) := by decide +kernel
theorem dX12_ends_64 : decode cX12_ends 64 = .ok (.ineg, 1) := by decide +kernel
theorem dX12_ends_65 : decode cX12_ends 65 = .ok (.ireturn, 1) := by decide +kernel
theorem dX12_ends_66 : decode cX12_ends 66 = .ok (.aload_n 0, 1) := by decide +kernel
theorem dX12_ends_67 : decode cX12_ends 67 = .ok (.bipush 70, 2) := by decide +kernel
theorem dX12_ends_69 : decode cX12_ends 69 = .ok (.invokevirtual 284, 3) := by decide +kernel
theorem dX12_ends_72 : decode cX12_ends 72 = .ok (.aload_n 0, 1) := by decide +kernel
theorem dX12_ends_73 : decode cX12_ends 73 = .ok (.bipush 6, 2) := by decide +kernel
theorem dX12_ends_75 : decode cX12_ends 75 = .ok (.invokestatic 287, 3) := by decide +kernel
theorem dX12_ends_78 : decode cX12_ends 78 = .ok (.iload_n 2, 1) := by decide +kernel
theorem dX12_ends_79 : decode cX12_ends 79 = .ok (.invokevirtual 299, 3) := by decide +kernel
theorem dX12_ends_82 : decode cX12_ends 82 = .ok (.aload_n 0, 1) := by decide +kernel
theorem dX12_ends_83 : decode cX12_ends 83 = .ok (.invokevirtual 302, 3) := by decide +kernel
theorem dX12_ends_86 : decode cX12_ends 86 = .ok (.iadd, 1) := by decide +kernel
theorem dX12_ends_87 : decode cX12_ends 87 = .ok (.ireturn, 1) := by decide +kernel
theorem dX12_ends_88 : decode cX12_ends 88 = .ok (.aload_n 0, 1) := by decide +kernel
theorem dX12_ends_89 : decode cX12_ends 89 = .ok (.iload_n 1, 1) := by decide +kernel
theorem dX12_ends_90 : decode cX12_ends 90 = .ok (.invokestatic 287, 3) := by decide +kernel
theorem dX12_ends_93 : decode cX12_ends 93 = .ok (.iload_n 2, 1) := by decide +kernel
theorem dX12_ends_94 : decode cX12_ends 94 = .ok (.invokevirtual 299, 3) := by decide +kernel
theorem dX12_ends_97 : decode cX12_ends 97 = .ok (.ireturn, 1) := by decide +kernel
theorem dX12_tells_0 : decode cX12_tells 0 = .ok (.iload_n 1, 1) := by decide +kernel
theorem dX12_tells_1 : decode cX12_tells 1 = .ok (.lookupswitch 120 #[(0, 35), (4, 63), (6, 91)], 35) := by decide +kernel
theorem dX12_tells_36 : decode cX12_tells 36 = .ok (.aload_n 0, 1) := by decide +kernel
theorem dX12_tells_37 : decode cX12_tells 37 = .ok (.bipush 13, 2) := by decide +kernel
theorem dX12_tells_39 : decode cX12_tells 39 = .ok (.invokevirtual 284, 3) := by decide +kernel
theorem dX12_tells_42 : decode cX12_tells 42 = .ok (.aload_n 0, 1) := by decide +kernel
theorem dX12_tells_43 : decode cX12_tells 43 = .ok (.aload_n 0, 1) := by decide +kernel
theorem dX12_tells_44 : decode cX12_tells 44 = .ok (.invokevirtual 293, 3) := by decide +kernel
theorem dX12_tells_47 : decode cX12_tells 47 = .ok (.iload_n 2, 1) := by decide +kernel
theorem dX12_tells_48 : decode cX12_tells 48 = .ok (.invokevirtual 296, 3) := by decide +kernel
theorem dX12_tells_51 : decode cX12_tells 51 = .ok (.istore_n 3, 1) := by decide +kernel
theorem dX12_tells_52 : decode cX12_tells 52 = .ok (.iload_n 3, 1) := by decide +kernel
theorem dX12_tells_53 : decode cX12_tells 53 = .ok (.aload_n 0, 1) := by decide +kernel
theorem dX12_tells_54 : decode cX12_tells 54 = .ok (.aload_n 0, 1) := by decide +kernel
theorem dX12_tells_55 : decode cX12_tells 55 = .ok (.invokevirtual 293, 3) := by decide +kernel
theorem dX12_tells_58 : decode cX12_tells 58 = .ok (.iload_n 2, 1) := by decide +kernel
theorem dX12_tells_59 : decode cX12_tells 59 = .ok (.invokevirtual 299, 3) := by decide +kernel
theorem dX12_tells_62 : decode cX12_tells 62 = .ok (.ixor, 1) := by decide +kernel
theorem dX12_tells_63 : decode cX12_tells 63 = .ok (.ireturn, 1) := by decide +kernel
theorem dX12_tells_64 : decode cX12_tells 64 = .ok (.aload_n 0, 1) := by decide +kernel
theorem dX12_tells_65 : decode cX12_tells 65 = .ok (.bipush 51, 2) := by decide +kernel
theorem dX12_tells_67 : decode cX12_tells 67 = .ok (.invokevirtual 284, 3) := by decide +kernel
theorem dX12_tells_70 : decode cX12_tells 70 = .ok (.aload_n 0, 1) := by decide +kernel
theorem dX12_tells_71 : decode cX12_tells 71 = .ok (.iconst 4, 1) := by decide +kernel
theorem dX12_tells_72 : decode cX12_tells 72 = .ok (.invokestatic 287, 3) := by decide +kernel
theorem dX12_tells_75 : decode cX12_tells 75 = .ok (.iload_n 2, 1) := by decide +kernel
theorem dX12_tells_76 : decode cX12_tells 76 = .ok (.invokevirtual 305, 3) := by decide +kernel
theorem dX12_tells_79 : decode cX12_tells 79 = .ok (.istore_n 3, 1) := by decide +kernel
theorem dX12_tells_80 : decode cX12_tells 80 = .ok (.iload_n 3, 1) := by decide +kernel
theorem dX12_tells_81 : decode cX12_tells 81 = .ok (.aload_n 0, 1) := by decide +kernel
theorem dX12_tells_82 : decode cX12_tells 82 = .ok (.aload_n 0, 1) := by decide +kernel
theorem dX12_tells_83 : decode cX12_tells 83 = .ok (.invokevirtual 293, 3) := by decide +kernel
theorem dX12_tells_86 : decode cX12_tells 86 = .ok (.iconst 2, 1) := by decide +kernel
theorem dX12_tells_87 : decode cX12_tells 87 = .ok (.invokevirtual 290, 3) := by decide +kernel
theorem dX12_tells_90 : decode cX12_tells 90 = .ok (.isub, 1) := by decide +kernel
theorem dX12_tells_91 : decode cX12_tells 91 = .ok (.ireturn, 1) := by decide +kernel
theorem dX12_tells_92 : decode cX12_tells 92 = .ok (.aload_n 0, 1) := by decide +kernel
theorem dX12_tells_93 : decode cX12_tells 93 = .ok (.bipush 71, 2) := by decide +kernel
theorem dX12_tells_95 : decode cX12_tells 95 = .ok (.invokevirtual 284, 3) := by decide +kernel
theorem dX12_tells_98 : decode cX12_tells 98 = .ok (.aload_n 0, 1) := by decide +kernel
theorem dX12_tells_99 : decode cX12_tells 99 = .ok (.aload_n 0, 1) := by decide +kernel
theorem dX12_tells_100 : decode cX12_tells 100 = .ok (.invokevirtual 293, 3) := by decide +kernel
theorem dX12_tells_103 : decode cX12_tells 103 = .ok (.iload_n 2, 1) := by decide +kernel
theorem dX12_tells_104 : decode cX12_tells 104 = .ok (.invokevirtual 296, 3) := by decide +kernel
theorem dX12_tells_107 : decode cX12_tells 107 = .ok (.istore_n 3, 1) := by decide +kernel
theorem dX12_tells_108 : decode cX12_tells 108 = .ok (.iload_n 3, 1) := by decide +kernel
theorem dX12_tells_109 : decode cX12_tells 109 = .ok (.aload_n 0, 1) := by decide +kernel
theorem dX12_tells_110 : decode cX12_tells 110 = .ok (.bipush 6, 2) := by decide +kernel
theorem dX12_tells_112 : decode cX12_tells 112 = .ok (.invokestatic 287, 3) := by decide +kernel
theorem dX12_tells_115 : decode cX12_tells 115 = .ok (.iload_n 2, 1) := by decide +kernel
theorem dX12_tells_116 : decode cX12_tells 116 = .ok (.invokevirtual 305, 3) := by decide +kernel
theorem dX12_tells_119 : decode cX12_tells 119 = .ok (.isub, 1) := by decide +kernel
theorem dX12_tells_120 : decode cX12_tells 120 = .ok (.ireturn, 1) := by decide +kernel
theorem dX12_tells_121 : decode cX12_tells 121 = .ok (.aload_n 0, 1) := by decide +kernel
theorem dX12_tells_122 : decode cX12_tells 122 = .ok (.iload_n 1, 1) := by decide +kernel
theorem dX12_tells_123 : decode cX12_tells 123 = .ok (.invokestatic 287, 3) := by decide +kernel
theorem dX12_tells_126 : decode cX12_tells 126 = .ok (.iload_n 2, 1) := by decide +kernel
theorem dX12_tells_127 : decode cX12_tells 127 = .ok (.invokevirtual 305, 3) := by decide +kernel
theorem dX12_tells_130 : decode cX12_tells 130 = .ok (.ireturn, 1) := by decide +kernel
theorem dX12_voice_0 : decode cX12_voice 0 = .ok (.aload_n 0, 1) := by decide +kernel
theorem dX12_voice_1 : decode cX12_voice 1 = .ok (.iload_n 1, 1) := by decide +kernel
theorem dX12_voice_2 : decode cX12_voice 2 = .ok (.invokevirtual 91, 3) := by decide +kernel
theorem dX12_voice_5 : decode cX12_voice 5 = .ok (.ifCond .eq 15, 3) := by decide +kernel
theorem dX12_voice_8 : decode cX12_voice 8 = .ok (.iload_n 2, 1) := by decide +kernel
theorem dX12_voice_9 : decode cX12_voice 9 = .ok (.i2l, 1) := by decide +kernel
theorem dX12_voice_10 : decode cX12_voice 10 = .ok (.lconst 0, 1) := by decide +kernel
theorem dX12_voice_11 : decode cX12_voice 11 = .ok (.ldc2_w 117, 3) := by decide +kernel
theorem dX12_voice_14 : decode cX12_voice 14 = .ok (.invokestatic 48, 3) := by decide +kernel
theorem dX12_voice_17 : decode cX12_voice 17 = .ok (.ifCond .ne 9, 3) := by decide +kernel
theorem dX12_voice_20 : decode cX12_voice 20 = .ok (.aload_n 0, 1) := by decide +kernel
theorem dX12_voice_21 : decode cX12_voice 21 = .ok (.iconst 1, 1) := by decide +kernel
theorem dX12_voice_22 : decode cX12_voice 22 = .ok (.invokevirtual 65, 3) := by decide +kernel
theorem dX12_voice_25 : decode cX12_voice 25 = .ok (.ireturn, 1) := by decide +kernel
theorem dX12_voice_26 : decode cX12_voice 26 = .ok (.aload_n 0, 1) := by decide +kernel
theorem dX12_voice_27 : decode cX12_voice 27 = .ok (.iconst 0, 1) := by decide +kernel
theorem dX12_voice_28 : decode cX12_voice 28 = .ok (.putfield 278, 3) := by decide +kernel
theorem dX12_voice_31 : decode cX12_voice 31 = .ok (.aload_n 0, 1) := by decide +kernel
theorem dX12_voice_32 : decode cX12_voice 32 = .ok (.iload_n 1, 1) := by decide +kernel
theorem dX12_voice_33 : decode cX12_voice 33 = .ok (.putfield 281, 3) := by decide +kernel
theorem dX12_voice_36 : decode cX12_voice 36 = .ok (.aload_n 0, 1) := by decide +kernel
theorem dX12_voice_37 : decode cX12_voice 37 = .ok (.invokevirtual 293, 3) := by decide +kernel
theorem dX12_voice_40 : decode cX12_voice 40 = .ok (.istore 4, 2) := by decide +kernel
theorem dX12_voice_42 : decode cX12_voice 42 = .ok (.iload_n 2, 1) := by decide +kernel
theorem dX12_voice_43 : decode cX12_voice 43 = .ok (.ifCond .ne 13, 3) := by decide +kernel
theorem dX12_voice_46 : decode cX12_voice 46 = .ok (.aload_n 0, 1) := by decide +kernel
theorem dX12_voice_47 : decode cX12_voice 47 = .ok (.iload 4, 2) := by decide +kernel
theorem dX12_voice_49 : decode cX12_voice 49 = .ok (.iload_n 3, 1) := by decide +kernel
theorem dX12_voice_50 : decode cX12_voice 50 = .ok (.invokevirtual 290, 3) := by decide +kernel
theorem dX12_voice_53 : decode cX12_voice 53 = .ok (.goto 40, 3) := by decide +kernel
theorem dX12_voice_56 : decode cX12_voice 56 = .ok (.iload_n 2, 1) := by decide +kernel
theorem dX12_voice_57 : decode cX12_voice 57 = .ok (.iconst 1, 1) := by decide +kernel
theorem dX12_voice_58 : decode cX12_voice 58 = .ok (.if_icmp .ne 13, 3) := by decide +kernel
theorem dX12_voice_61 : decode cX12_voice 61 = .ok (.aload_n 0, 1) := by decide +kernel
theorem dX12_voice_62 : decode cX12_voice 62 = .ok (.iload 4, 2) := by decide +kernel
theorem dX12_voice_64 : decode cX12_voice 64 = .ok (.iload_n 3, 1) := by decide +kernel
theorem dX12_voice_65 : decode cX12_voice 65 = .ok (.invokevirtual 296, 3) := by decide +kernel
theorem dX12_voice_68 : decode cX12_voice 68 = .ok (.goto 25, 3) := by decide +kernel
theorem dX12_voice_71 : decode cX12_voice 71 = .ok (.iload_n 2, 1) := by decide +kernel
theorem dX12_voice_72 : decode cX12_voice 72 = .ok (.iconst 2, 1) := by decide +kernel
theorem dX12_voice_73 : decode cX12_voice 73 = .ok (.if_icmp .ne 13, 3) := by decide +kernel
theorem dX12_voice_76 : decode cX12_voice 76 = .ok (.aload_n 0, 1) := by decide +kernel
theorem dX12_voice_77 : decode cX12_voice 77 = .ok (.iload 4, 2) := by decide +kernel
theorem dX12_voice_79 : decode cX12_voice 79 = .ok (.iload_n 3, 1) := by decide +kernel
theorem dX12_voice_80 : decode cX12_voice 80 = .ok (.invokevirtual 299, 3) := by decide +kernel
theorem dX12_voice_83 : decode cX12_voice 83 = .ok (.goto 10, 3) := by decide +kernel
theorem dX12_voice_86 : decode cX12_voice 86 = .ok (.aload_n 0, 1) := by decide +kernel
theorem dX12_voice_87 : decode cX12_voice 87 = .ok (.iload 4, 2) := by decide +kernel
theorem dX12_voice_89 : decode cX12_voice 89 = .ok (.iload_n 3, 1) := by decide +kernel
theorem dX12_voice_90 : decode cX12_voice 90 = .ok (.invokevirtual 305, 3) := by decide +kernel
theorem dX12_voice_93 : decode cX12_voice 93 = .ok (.ireturn, 1) := by decide +kernel
theorem dX12_trace_0 : decode cX12_trace 0 = .ok (.iload_n 1, 1) := by decide +kernel
theorem dX12_trace_1 : decode cX12_trace 1 = .ok (.i2l, 1) := by decide +kernel
theorem dX12_trace_2 : decode cX12_trace 2 = .ok (.lconst 0, 1) := by decide +kernel
theorem dX12_trace_3 : decode cX12_trace 3 = .ok (.aload_n 0, 1) := by decide +kernel
theorem dX12_trace_4 : decode cX12_trace 4 = .ok (.getfield 278, 3) := by decide +kernel
theorem dX12_trace_7 : decode cX12_trace 7 = .ok (.iconst 1, 1) := by decide +kernel
theorem dX12_trace_8 : decode cX12_trace 8 = .ok (.isub, 1) := by decide +kernel
theorem dX12_trace_9 : decode cX12_trace 9 = .ok (.i2l, 1) := by decide +kernel
theorem dX12_trace_10 : decode cX12_trace 10 = .ok (.invokestatic 48, 3) := by decide +kernel
theorem dX12_trace_13 : decode cX12_trace 13 = .ok (.ifCond .eq 12, 3) := by decide +kernel
theorem dX12_trace_16 : decode cX12_trace 16 = .ok (.aload_n 0, 1) := by decide +kernel
theorem dX12_trace_17 : decode cX12_trace 17 = .ok (.getfield 31, 3) := by decide +kernel
theorem dX12_trace_20 : decode cX12_trace 20 = .ok (.iload_n 1, 1) := by decide +kernel
theorem dX12_trace_21 : decode cX12_trace 21 = .ok (.iaload, 1) := by decide +kernel
theorem dX12_trace_22 : decode cX12_trace 22 = .ok (.goto 8, 3) := by decide +kernel
theorem dX12_trace_25 : decode cX12_trace 25 = .ok (.aload_n 0, 1) := by decide +kernel
theorem dX12_trace_26 : decode cX12_trace 26 = .ok (.iconst 2, 1) := by decide +kernel
theorem dX12_trace_27 : decode cX12_trace 27 = .ok (.invokevirtual 65, 3) := by decide +kernel
theorem dX12_trace_30 : decode cX12_trace 30 = .ok (.ireturn, 1) := by decide +kernel
theorem dX12_isSheet_0 : decode cX12_isSheet 0 = .ok (.iload_n 0, 1) := by decide +kernel
theorem dX12_isSheet_1 : decode cX12_isSheet 1 = .ok (.i2l, 1) := by decide +kernel
theorem dX12_isSheet_2 : decode cX12_isSheet 2 = .ok (.lconst 0, 1) := by decide +kernel
theorem dX12_isSheet_3 : decode cX12_isSheet 3 = .ok (.ldc2_w 117, 3) := by decide +kernel
theorem dX12_isSheet_6 : decode cX12_isSheet 6 = .ok (.invokestatic 48, 3) := by decide +kernel
theorem dX12_isSheet_9 : decode cX12_isSheet 9 = .ok (.ireturn, 1) := by decide +kernel
theorem dX12_sheet_0 : decode cX12_sheet 0 = .ok (.iload_n 1, 1) := by decide +kernel
theorem dX12_sheet_1 : decode cX12_sheet 1 = .ok (.invokestatic 267, 3) := by decide +kernel
theorem dX12_sheet_4 : decode cX12_sheet 4 = .ok (.ifCond .eq 25, 3) := by decide +kernel
theorem dX12_sheet_7 : decode cX12_sheet 7 = .ok (.iload_n 2, 1) := by decide +kernel
theorem dX12_sheet_8 : decode cX12_sheet 8 = .ok (.ifCond .eq 27, 3) := by decide +kernel
theorem dX12_sheet_11 : decode cX12_sheet 11 = .ok (.iload_n 2, 1) := by decide +kernel
theorem dX12_sheet_12 : decode cX12_sheet 12 = .ok (.bipush 8, 2) := by decide +kernel
theorem dX12_sheet_14 : decode cX12_sheet 14 = .ok (.if_icmp .eq 21, 3) := by decide +kernel
theorem dX12_sheet_17 : decode cX12_sheet 17 = .ok (.iload_n 2, 1) := by decide +kernel
theorem dX12_sheet_18 : decode cX12_sheet 18 = .ok (.bipush 16, 2) := by decide +kernel
theorem dX12_sheet_20 : decode cX12_sheet 20 = .ok (.if_icmp .eq 15, 3) := by decide +kernel
theorem dX12_sheet_23 : decode cX12_sheet 23 = .ok (.iload_n 2, 1) := by decide +kernel
theorem dX12_sheet_24 : decode cX12_sheet 24 = .ok (.bipush 32, 2) := by decide +kernel
theorem dX12_sheet_26 : decode cX12_sheet 26 = .ok (.if_icmp .eq 9, 3) := by decide +kernel
theorem dX12_sheet_29 : decode cX12_sheet 29 = .ok (.aload_n 0, 1) := by decide +kernel
theorem dX12_sheet_30 : decode cX12_sheet 30 = .ok (.iconst 1, 1) := by decide +kernel
theorem dX12_sheet_31 : decode cX12_sheet 31 = .ok (.invokevirtual 65, 3) := by decide +kernel
theorem dX12_sheet_34 : decode cX12_sheet 34 = .ok (.ireturn, 1) := by decide +kernel
theorem dX12_sheet_35 : decode cX12_sheet 35 = .ok (.iload_n 2, 1) := by decide +kernel
theorem dX12_sheet_36 : decode cX12_sheet 36 = .ok (.ifCond .eq 13, 3) := by decide +kernel
theorem dX12_sheet_39 : decode cX12_sheet 39 = .ok (.iload_n 3, 1) := by decide +kernel
theorem dX12_sheet_40 : decode cX12_sheet 40 = .ok (.ifCond .ge 9, 3) := by decide +kernel
theorem dX12_sheet_43 : decode cX12_sheet 43 = .ok (.aload_n 0, 1) := by decide +kernel
theorem dX12_sheet_44 : decode cX12_sheet 44 = .ok (.iconst 3, 1) := by decide +kernel
theorem dX12_sheet_45 : decode cX12_sheet 45 = .ok (.invokevirtual 65, 3) := by decide +kernel
theorem dX12_sheet_48 : decode cX12_sheet 48 = .ok (.ireturn, 1) := by decide +kernel
theorem dX12_sheet_49 : decode cX12_sheet 49 = .ok (.iload_n 2, 1) := by decide +kernel
theorem dX12_sheet_50 : decode cX12_sheet 50 = .ok (.ifCond .eq 15, 3) := by decide +kernel
theorem dX12_sheet_53 : decode cX12_sheet 53 = .ok (.iload_n 3, 1) := by decide +kernel
theorem dX12_sheet_54 : decode cX12_sheet 54 = .ok (.bipush 40, 2) := by decide +kernel
theorem dX12_sheet_56 : decode cX12_sheet 56 = .ok (.if_icmp .le 9, 3) := by decide +kernel
theorem dX12_sheet_59 : decode cX12_sheet 59 = .ok (.aload_n 0, 1) := by decide +kernel
theorem dX12_sheet_60 : decode cX12_sheet 60 = .ok (.iconst 1, 1) := by decide +kernel
theorem dX12_sheet_61 : decode cX12_sheet 61 = .ok (.invokevirtual 65, 3) := by decide +kernel
theorem dX12_sheet_64 : decode cX12_sheet 64 = .ok (.ireturn, 1) := by decide +kernel
theorem dX12_sheet_65 : decode cX12_sheet 65 = .ok (.aload_n 0, 1) := by decide +kernel
theorem dX12_sheet_66 : decode cX12_sheet 66 = .ok (.getfield 34, 3) := by decide +kernel
theorem dX12_sheet_69 : decode cX12_sheet 69 = .ok (.iload_n 1, 1) := by decide +kernel
theorem dX12_sheet_70 : decode cX12_sheet 70 = .ok (.iload_n 2, 1) := by decide +kernel
theorem dX12_sheet_71 : decode cX12_sheet 71 = .ok (.iastore, 1) := by decide +kernel
theorem dX12_sheet_72 : decode cX12_sheet 72 = .ok (.aload_n 0, 1) := by decide +kernel
theorem dX12_sheet_73 : decode cX12_sheet 73 = .ok (.getfield 37, 3) := by decide +kernel
theorem dX12_sheet_76 : decode cX12_sheet 76 = .ok (.iload_n 1, 1) := by decide +kernel
theorem dX12_sheet_77 : decode cX12_sheet 77 = .ok (.iload_n 2, 1) := by decide +kernel
theorem dX12_sheet_78 : decode cX12_sheet 78 = .ok (.ifCond .ne 7, 3) := by decide +kernel
theorem dX12_sheet_81 : decode cX12_sheet 81 = .ok (.iconst 0, 1) := by decide +kernel
theorem dX12_sheet_82 : decode cX12_sheet 82 = .ok (.goto 4, 3) := by decide +kernel
theorem dX12_sheet_85 : decode cX12_sheet 85 = .ok (.iload_n 3, 1) := by decide +kernel
theorem dX12_sheet_86 : decode cX12_sheet 86 = .ok (.iastore, 1) := by decide +kernel
theorem dX12_sheet_87 : decode cX12_sheet 87 = .ok (.iconst 0, 1) := by decide +kernel
theorem dX12_sheet_88 : decode cX12_sheet 88 = .ok (.istore 4, 2) := by decide +kernel
theorem dX12_sheet_90 : decode cX12_sheet 90 = .ok (.iload 4, 2) := by decide +kernel
theorem dX12_sheet_92 : decode cX12_sheet 92 = .ok (.bipush 40, 2) := by decide +kernel
theorem dX12_sheet_94 : decode cX12_sheet 94 = .ok (.if_icmp .ge 22, 3) := by decide +kernel
theorem dX12_sheet_97 : decode cX12_sheet 97 = .ok (.aload_n 0, 1) := by decide +kernel
theorem dX12_sheet_98 : decode cX12_sheet 98 = .ok (.getfield 40, 3) := by decide +kernel
theorem dX12_sheet_101 : decode cX12_sheet 101 = .ok (.bipush 40, 2) := by decide +kernel
theorem dX12_sheet_103 : decode cX12_sheet 103 = .ok (.iload_n 1, 1) := by decide +kernel
theorem dX12_sheet_104 : decode cX12_sheet 104 = .ok (.imul, 1) := by decide +kernel
theorem dX12_sheet_105 : decode cX12_sheet 105 = .ok (.iload 4, 2) := by decide +kernel
theorem dX12_sheet_107 : decode cX12_sheet 107 = .ok (.iadd, 1) := by decide +kernel
theorem dX12_sheet_108 : decode cX12_sheet 108 = .ok (.iconst 0, 1) := by decide +kernel
theorem dX12_sheet_109 : decode cX12_sheet 109 = .ok (.iastore, 1) := by decide +kernel
theorem dX12_sheet_110 : decode cX12_sheet 110 = .ok (.iinc 4 1, 3) := by decide +kernel
theorem dX12_sheet_113 : decode cX12_sheet 113 = .ok (.goto (-23), 3) := by decide +kernel
theorem dX12_sheet_116 : decode cX12_sheet 116 = .ok (.iconst 1, 1) := by decide +kernel
theorem dX12_sheet_117 : decode cX12_sheet 117 = .ok (.ireturn, 1) := by decide +kernel
theorem dX12_put_0 : decode cX12_put 0 = .ok (.iload_n 1, 1) := by decide +kernel
theorem dX12_put_1 : decode cX12_put 1 = .ok (.invokestatic 267, 3) := by decide +kernel
theorem dX12_put_4 : decode cX12_put 4 = .ok (.ifCond .ne 9, 3) := by decide +kernel
theorem dX12_put_7 : decode cX12_put 7 = .ok (.aload_n 0, 1) := by decide +kernel
theorem dX12_put_8 : decode cX12_put 8 = .ok (.iconst 1, 1) := by decide +kernel
theorem dX12_put_9 : decode cX12_put 9 = .ok (.invokevirtual 65, 3) := by decide +kernel
theorem dX12_put_12 : decode cX12_put 12 = .ok (.ireturn, 1) := by decide +kernel
theorem dX12_put_13 : decode cX12_put 13 = .ok (.aload_n 0, 1) := by decide +kernel
theorem dX12_put_14 : decode cX12_put 14 = .ok (.getfield 34, 3) := by decide +kernel
theorem dX12_put_17 : decode cX12_put 17 = .ok (.iload_n 1, 1) := by decide +kernel
theorem dX12_put_18 : decode cX12_put 18 = .ok (.iaload, 1) := by decide +kernel
theorem dX12_put_19 : decode cX12_put 19 = .ok (.ifCond .ne 9, 3) := by decide +kernel
theorem dX12_put_22 : decode cX12_put 22 = .ok (.aload_n 0, 1) := by decide +kernel
theorem dX12_put_23 : decode cX12_put 23 = .ok (.iconst 2, 1) := by decide +kernel
theorem dX12_put_24 : decode cX12_put 24 = .ok (.invokevirtual 65, 3) := by decide +kernel
theorem dX12_put_27 : decode cX12_put 27 = .ok (.ireturn, 1) := by decide +kernel
theorem dX12_put_28 : decode cX12_put 28 = .ok (.iload_n 2, 1) := by decide +kernel
theorem dX12_put_29 : decode cX12_put 29 = .ok (.i2l, 1) := by decide +kernel
theorem dX12_put_30 : decode cX12_put 30 = .ok (.lconst 0, 1) := by decide +kernel
theorem dX12_put_31 : decode cX12_put 31 = .ok (.aload_n 0, 1) := by decide +kernel
theorem dX12_put_32 : decode cX12_put 32 = .ok (.getfield 37, 3) := by decide +kernel
theorem dX12_put_35 : decode cX12_put 35 = .ok (.iload_n 1, 1) := by decide +kernel
theorem dX12_put_36 : decode cX12_put 36 = .ok (.iaload, 1) := by decide +kernel
theorem dX12_put_37 : decode cX12_put 37 = .ok (.iconst 1, 1) := by decide +kernel
theorem dX12_put_38 : decode cX12_put 38 = .ok (.isub, 1) := by decide +kernel
theorem dX12_put_39 : decode cX12_put 39 = .ok (.i2l, 1) := by decide +kernel
theorem dX12_put_40 : decode cX12_put 40 = .ok (.invokestatic 48, 3) := by decide +kernel
theorem dX12_put_43 : decode cX12_put 43 = .ok (.ifCond .ne 9, 3) := by decide +kernel
theorem dX12_put_46 : decode cX12_put 46 = .ok (.aload_n 0, 1) := by decide +kernel
theorem dX12_put_47 : decode cX12_put 47 = .ok (.iconst 1, 1) := by decide +kernel
theorem dX12_put_48 : decode cX12_put 48 = .ok (.invokevirtual 65, 3) := by decide +kernel
theorem dX12_put_51 : decode cX12_put 51 = .ok (.ireturn, 1) := by decide +kernel
theorem dX12_put_52 : decode cX12_put 52 = .ok (.aload_n 0, 1) := by decide +kernel
theorem dX12_put_53 : decode cX12_put 53 = .ok (.getfield 40, 3) := by decide +kernel
theorem dX12_put_56 : decode cX12_put 56 = .ok (.bipush 40, 2) := by decide +kernel
theorem dX12_put_58 : decode cX12_put 58 = .ok (.iload_n 1, 1) := by decide +kernel
theorem dX12_put_59 : decode cX12_put 59 = .ok (.imul, 1) := by decide +kernel
theorem dX12_put_60 : decode cX12_put 60 = .ok (.iload_n 2, 1) := by decide +kernel
theorem dX12_put_61 : decode cX12_put 61 = .ok (.iadd, 1) := by decide +kernel
theorem dX12_put_62 : decode cX12_put 62 = .ok (.aload_n 0, 1) := by decide +kernel
theorem dX12_put_63 : decode cX12_put 63 = .ok (.getfield 34, 3) := by decide +kernel
theorem dX12_put_66 : decode cX12_put 66 = .ok (.iload_n 1, 1) := by decide +kernel
theorem dX12_put_67 : decode cX12_put 67 = .ok (.iaload, 1) := by decide +kernel
theorem dX12_put_68 : decode cX12_put 68 = .ok (.bipush 8, 2) := by decide +kernel
theorem dX12_put_70 : decode cX12_put 70 = .ok (.if_icmp .ne 8, 3) := by decide +kernel
theorem dX12_put_73 : decode cX12_put 73 = .ok (.iload_n 3, 1) := by decide +kernel
theorem dX12_put_74 : decode cX12_put 74 = .ok (.i2b, 1) := by decide +kernel
theorem dX12_put_75 : decode cX12_put 75 = .ok (.goto 20, 3) := by decide +kernel
theorem dX12_put_78 : decode cX12_put 78 = .ok (.aload_n 0, 1) := by decide +kernel
theorem dX12_put_79 : decode cX12_put 79 = .ok (.getfield 34, 3) := by decide +kernel
theorem dX12_put_82 : decode cX12_put 82 = .ok (.iload_n 1, 1) := by decide +kernel
theorem dX12_put_83 : decode cX12_put 83 = .ok (.iaload, 1) := by decide +kernel
theorem dX12_put_84 : decode cX12_put 84 = .ok (.bipush 16, 2) := by decide +kernel
theorem dX12_put_86 : decode cX12_put 86 = .ok (.if_icmp .ne 8, 3) := by decide +kernel
theorem dX12_put_89 : decode cX12_put 89 = .ok (.iload_n 3, 1) := by decide +kernel
theorem dX12_put_90 : decode cX12_put 90 = .ok (.i2s, 1) := by decide +kernel
theorem dX12_put_91 : decode cX12_put 91 = .ok (.goto 4, 3) := by decide +kernel
theorem dX12_put_94 : decode cX12_put 94 = .ok (.iload_n 3, 1) := by decide +kernel
theorem dX12_put_95 : decode cX12_put 95 = .ok (.iastore, 1) := by decide +kernel
theorem dX12_put_96 : decode cX12_put 96 = .ok (.iconst 1, 1) := by decide +kernel
theorem dX12_put_97 : decode cX12_put 97 = .ok (.ireturn, 1) := by decide +kernel
theorem dX12_move_0 : decode cX12_move 0 = .ok (.iload_n 1, 1) := by decide +kernel
theorem dX12_move_1 : decode cX12_move 1 = .ok (.invokestatic 267, 3) := by decide +kernel
theorem dX12_move_4 : decode cX12_move 4 = .ok (.ifCond .eq 10, 3) := by decide +kernel
theorem dX12_move_7 : decode cX12_move 7 = .ok (.iload_n 3, 1) := by decide +kernel
theorem dX12_move_8 : decode cX12_move 8 = .ok (.invokestatic 267, 3) := by decide +kernel
theorem dX12_move_11 : decode cX12_move 11 = .ok (.ifCond .ne 9, 3) := by decide +kernel
theorem dX12_move_14 : decode cX12_move 14 = .ok (.aload_n 0, 1) := by decide +kernel
theorem dX12_move_15 : decode cX12_move 15 = .ok (.iconst 1, 1) := by decide +kernel
theorem dX12_move_16 : decode cX12_move 16 = .ok (.invokevirtual 65, 3) := by decide +kernel
theorem dX12_move_19 : decode cX12_move 19 = .ok (.ireturn, 1) := by decide +kernel
theorem dX12_move_20 : decode cX12_move 20 = .ok (.aload_n 0, 1) := by decide +kernel
theorem dX12_move_21 : decode cX12_move 21 = .ok (.getfield 34, 3) := by decide +kernel
theorem dX12_move_24 : decode cX12_move 24 = .ok (.iload_n 1, 1) := by decide +kernel
theorem dX12_move_25 : decode cX12_move 25 = .ok (.iaload, 1) := by decide +kernel
theorem dX12_move_26 : decode cX12_move 26 = .ok (.ifCond .eq 12, 3) := by decide +kernel
theorem dX12_move_29 : decode cX12_move 29 = .ok (.aload_n 0, 1) := by decide +kernel
theorem dX12_move_30 : decode cX12_move 30 = .ok (.getfield 34, 3) := by decide +kernel
theorem dX12_move_33 : decode cX12_move 33 = .ok (.iload_n 3, 1) := by decide +kernel
theorem dX12_move_34 : decode cX12_move 34 = .ok (.iaload, 1) := by decide +kernel
theorem dX12_move_35 : decode cX12_move 35 = .ok (.ifCond .ne 9, 3) := by decide +kernel
theorem dX12_move_38 : decode cX12_move 38 = .ok (.aload_n 0, 1) := by decide +kernel
theorem dX12_move_39 : decode cX12_move 39 = .ok (.iconst 2, 1) := by decide +kernel
theorem dX12_move_40 : decode cX12_move 40 = .ok (.invokevirtual 65, 3) := by decide +kernel
theorem dX12_move_43 : decode cX12_move 43 = .ok (.ireturn, 1) := by decide +kernel
theorem dX12_move_44 : decode cX12_move 44 = .ok (.aload_n 0, 1) := by decide +kernel
theorem dX12_move_45 : decode cX12_move 45 = .ok (.getfield 34, 3) := by decide +kernel
theorem dX12_move_48 : decode cX12_move 48 = .ok (.iload_n 1, 1) := by decide +kernel
theorem dX12_move_49 : decode cX12_move 49 = .ok (.iaload, 1) := by decide +kernel
theorem dX12_move_50 : decode cX12_move 50 = .ok (.aload_n 0, 1) := by decide +kernel
theorem dX12_move_51 : decode cX12_move 51 = .ok (.getfield 34, 3) := by decide +kernel
theorem dX12_move_54 : decode cX12_move 54 = .ok (.iload_n 3, 1) := by decide +kernel
theorem dX12_move_55 : decode cX12_move 55 = .ok (.iaload, 1) := by decide +kernel
theorem dX12_move_56 : decode cX12_move 56 = .ok (.if_icmp .eq 9, 3) := by decide +kernel
theorem dX12_move_59 : decode cX12_move 59 = .ok (.aload_n 0, 1) := by decide +kernel
theorem dX12_move_60 : decode cX12_move 60 = .ok (.iconst 5, 1) := by decide +kernel
theorem dX12_move_61 : decode cX12_move 61 = .ok (.invokevirtual 65, 3) := by decide +kernel
theorem dX12_move_64 : decode cX12_move 64 = .ok (.ireturn, 1) := by decide +kernel
theorem dX12_move_65 : decode cX12_move 65 = .ok (.iload 5, 2) := by decide +kernel
theorem dX12_move_67 : decode cX12_move 67 = .ok (.ifCond .lt 39, 3) := by decide +kernel
theorem dX12_move_70 : decode cX12_move 70 = .ok (.iload_n 2, 1) := by decide +kernel
theorem dX12_move_71 : decode cX12_move 71 = .ok (.ifCond .lt 35, 3) := by decide +kernel
theorem dX12_move_74 : decode cX12_move 74 = .ok (.iload 4, 2) := by decide +kernel
theorem dX12_move_76 : decode cX12_move 76 = .ok (.ifCond .lt 30, 3) := by decide +kernel
theorem dX12_move_79 : decode cX12_move 79 = .ok (.iload 5, 2) := by decide +kernel
theorem dX12_move_81 : decode cX12_move 81 = .ok (.aload_n 0, 1) := by decide +kernel
theorem dX12_move_82 : decode cX12_move 82 = .ok (.getfield 37, 3) := by decide +kernel
theorem dX12_move_85 : decode cX12_move 85 = .ok (.iload_n 1, 1) := by decide +kernel
theorem dX12_move_86 : decode cX12_move 86 = .ok (.iaload, 1) := by decide +kernel
theorem dX12_move_87 : decode cX12_move 87 = .ok (.iload_n 2, 1) := by decide +kernel
theorem dX12_move_88 : decode cX12_move 88 = .ok (.isub, 1) := by decide +kernel
theorem dX12_move_89 : decode cX12_move 89 = .ok (.if_icmp .gt 17, 3) := by decide +kernel
theorem dX12_move_92 : decode cX12_move 92 = .ok (.iload 5, 2) := by decide +kernel
theorem dX12_move_94 : decode cX12_move 94 = .ok (.aload_n 0, 1) := by decide +kernel
theorem dX12_move_95 : decode cX12_move 95 = .ok (.getfield 37, 3) := by decide +kernel
theorem dX12_move_98 : decode cX12_move 98 = .ok (.iload_n 3, 1) := by decide +kernel
theorem dX12_move_99 : decode cX12_move 99 = .ok (.iaload, 1) := by decide +kernel
theorem dX12_move_100 : decode cX12_move 100 = .ok (.iload 4, 2) := by decide +kernel
theorem dX12_move_102 : decode cX12_move 102 = .ok (.isub, 1) := by decide +kernel
theorem dX12_move_103 : decode cX12_move 103 = .ok (.if_icmp .le 9, 3) := by decide +kernel
theorem dX12_move_106 : decode cX12_move 106 = .ok (.aload_n 0, 1) := by decide +kernel
theorem dX12_move_107 : decode cX12_move 107 = .ok (.iconst 1, 1) := by decide +kernel
theorem dX12_move_108 : decode cX12_move 108 = .ok (.invokevirtual 65, 3) := by decide +kernel
theorem dX12_move_111 : decode cX12_move 111 = .ok (.ireturn, 1) := by decide +kernel
theorem dX12_move_112 : decode cX12_move 112 = .ok (.iconst 0, 1) := by decide +kernel
theorem dX12_move_113 : decode cX12_move 113 = .ok (.istore 6, 2) := by decide +kernel
theorem dX12_move_115 : decode cX12_move 115 = .ok (.iload 6, 2) := by decide +kernel
theorem dX12_move_117 : decode cX12_move 117 = .ok (.iload 5, 2) := by decide +kernel
theorem dX12_move_119 : decode cX12_move 119 = .ok (.if_icmp .ge 30, 3) := by decide +kernel
theorem dX12_move_122 : decode cX12_move 122 = .ok (.aload_n 0, 1) := by decide +kernel
theorem dX12_move_123 : decode cX12_move 123 = .ok (.getfield 43, 3) := by decide +kernel
theorem dX12_move_126 : decode cX12_move 126 = .ok (.iload 6, 2) := by decide +kernel
theorem dX12_move_128 : decode cX12_move 128 = .ok (.aload_n 0, 1) := by decide +kernel
theorem dX12_move_129 : decode cX12_move 129 = .ok (.getfield 40, 3) := by decide +kernel
theorem dX12_move_132 : decode cX12_move 132 = .ok (.bipush 40, 2) := by decide +kernel
theorem dX12_move_134 : decode cX12_move 134 = .ok (.iload_n 1, 1) := by decide +kernel
theorem dX12_move_135 : decode cX12_move 135 = .ok (.imul, 1) := by decide +kernel
theorem dX12_move_136 : decode cX12_move 136 = .ok (.iload_n 2, 1) := by decide +kernel
theorem dX12_move_137 : decode cX12_move 137 = .ok (.iadd, 1) := by decide +kernel
theorem dX12_move_138 : decode cX12_move 138 = .ok (.iload 6, 2) := by decide +kernel
theorem dX12_move_140 : decode cX12_move 140 = .ok (.iadd, 1) := by decide +kernel
theorem dX12_move_141 : decode cX12_move 141 = .ok (.iaload, 1) := by decide +kernel
theorem dX12_move_142 : decode cX12_move 142 = .ok (.iastore, 1) := by decide +kernel
theorem dX12_move_143 : decode cX12_move 143 = .ok (.iinc 6 1, 3) := by decide +kernel
theorem dX12_move_146 : decode cX12_move 146 = .ok (.goto (-31), 3) := by decide +kernel
theorem dX12_move_149 : decode cX12_move 149 = .ok (.iconst 0, 1) := by decide +kernel
theorem dX12_move_150 : decode cX12_move 150 = .ok (.istore 6, 2) := by decide +kernel
theorem dX12_move_152 : decode cX12_move 152 = .ok (.iload 6, 2) := by decide +kernel
theorem dX12_move_154 : decode cX12_move 154 = .ok (.iload 5, 2) := by decide +kernel
theorem dX12_move_156 : decode cX12_move 156 = .ok (.if_icmp .ge 31, 3) := by decide +kernel
theorem dX12_move_159 : decode cX12_move 159 = .ok (.aload_n 0, 1) := by decide +kernel
theorem dX12_move_160 : decode cX12_move 160 = .ok (.getfield 40, 3) := by decide +kernel
theorem dX12_move_163 : decode cX12_move 163 = .ok (.bipush 40, 2) := by decide +kernel
theorem dX12_move_165 : decode cX12_move 165 = .ok (.iload_n 3, 1) := by decide +kernel
theorem dX12_move_166 : decode cX12_move 166 = .ok (.imul, 1) := by decide +kernel
theorem dX12_move_167 : decode cX12_move 167 = .ok (.iload 4, 2) := by decide +kernel
theorem dX12_move_169 : decode cX12_move 169 = .ok (.iadd, 1) := by decide +kernel
theorem dX12_move_170 : decode cX12_move 170 = .ok (.iload 6, 2) := by decide +kernel
theorem dX12_move_172 : decode cX12_move 172 = .ok (.iadd, 1) := by decide +kernel
theorem dX12_move_173 : decode cX12_move 173 = .ok (.aload_n 0, 1) := by decide +kernel
theorem dX12_move_174 : decode cX12_move 174 = .ok (.getfield 43, 3) := by decide +kernel
theorem dX12_move_177 : decode cX12_move 177 = .ok (.iload 6, 2) := by decide +kernel
theorem dX12_move_179 : decode cX12_move 179 = .ok (.iaload, 1) := by decide +kernel
theorem dX12_move_180 : decode cX12_move 180 = .ok (.iastore, 1) := by decide +kernel
theorem dX12_move_181 : decode cX12_move 181 = .ok (.iinc 6 1, 3) := by decide +kernel
theorem dX12_move_184 : decode cX12_move 184 = .ok (.goto (-32), 3) := by decide +kernel
theorem dX12_move_187 : decode cX12_move 187 = .ok (.iload 5, 2) := by decide +kernel
theorem dX12_move_189 : decode cX12_move 189 = .ok (.ireturn, 1) := by decide +kernel
theorem dX12_film_0 : decode cX12_film 0 = .ok (.aload_n 0, 1) := by decide +kernel
theorem dX12_film_1 : decode cX12_film 1 = .ok (.iload_n 1, 1) := by decide +kernel
theorem dX12_film_2 : decode cX12_film 2 = .ok (.invokevirtual 270, 3) := by decide +kernel
theorem dX12_film_5 : decode cX12_film 5 = .ok (.istore_n 2, 1) := by decide +kernel
theorem dX12_film_6 : decode cX12_film 6 = .ok (.iload_n 2, 1) := by decide +kernel
theorem dX12_film_7 : decode cX12_film 7 = .ok (.ifCond .eq 9, 3) := by decide +kernel
theorem dX12_film_10 : decode cX12_film 10 = .ok (.aload_n 0, 1) := by decide +kernel
theorem dX12_film_11 : decode cX12_film 11 = .ok (.iload_n 2, 1) := by decide +kernel
theorem dX12_film_12 : decode cX12_film 12 = .ok (.invokevirtual 65, 3) := by decide +kernel
theorem dX12_film_15 : decode cX12_film 15 = .ok (.ireturn, 1) := by decide +kernel
theorem dX12_film_16 : decode cX12_film 16 = .ok (.aload_n 0, 1) := by decide +kernel
theorem dX12_film_17 : decode cX12_film 17 = .ok (.getfield 7, 3) := by decide +kernel
theorem dX12_film_20 : decode cX12_film 20 = .ok (.aload_n 0, 1) := by decide +kernel
theorem dX12_film_21 : decode cX12_film 21 = .ok (.getfield 13, 3) := by decide +kernel
theorem dX12_film_24 : decode cX12_film 24 = .ok (.invokestatic 240, 3) := by decide +kernel
theorem dX12_film_27 : decode cX12_film 27 = .ok (.iconst 0, 1) := by decide +kernel
theorem dX12_film_28 : decode cX12_film 28 = .ok (.istore_n 3, 1) := by decide +kernel
theorem dX12_film_29 : decode cX12_film 29 = .ok (.iload_n 3, 1) := by decide +kernel
theorem dX12_film_30 : decode cX12_film 30 = .ok (.aload_n 0, 1) := by decide +kernel
theorem dX12_film_31 : decode cX12_film 31 = .ok (.getfield 37, 3) := by decide +kernel
theorem dX12_film_34 : decode cX12_film 34 = .ok (.iload_n 1, 1) := by decide +kernel
theorem dX12_film_35 : decode cX12_film 35 = .ok (.iaload, 1) := by decide +kernel
theorem dX12_film_36 : decode cX12_film 36 = .ok (.if_icmp .ge 90, 3) := by decide +kernel
theorem dX12_film_39 : decode cX12_film 39 = .ok (.aload_n 0, 1) := by decide +kernel
theorem dX12_film_40 : decode cX12_film 40 = .ok (.aload_n 0, 1) := by decide +kernel
theorem dX12_film_41 : decode cX12_film 41 = .ok (.getfield 13, 3) := by decide +kernel
theorem dX12_film_44 : decode cX12_film 44 = .ok (.invokevirtual 224, 3) := by decide +kernel
theorem dX12_film_47 : decode cX12_film 47 = .ok (.aload_n 0, 1) := by decide +kernel
theorem dX12_film_48 : decode cX12_film 48 = .ok (.getfield 13, 3) := by decide +kernel
theorem dX12_film_51 : decode cX12_film 51 = .ok (.iconst 0, 1) := by decide +kernel
theorem dX12_film_52 : decode cX12_film 52 = .ok (.invokestatic 209, 3) := by decide +kernel
theorem dX12_film_55 : decode cX12_film 55 = .ok (.ifCond .eq 15, 3) := by decide +kernel
theorem dX12_film_58 : decode cX12_film 58 = .ok (.aload_n 0, 1) := by decide +kernel
theorem dX12_film_59 : decode cX12_film 59 = .ok (.getfield 13, 3) := by decide +kernel
theorem dX12_film_62 : decode cX12_film 62 = .ok (.iconst 0, 1) := by decide +kernel
theorem dX12_film_63 : decode cX12_film 63 = .ok (.iconst 0, 1) := by decide +kernel
theorem dX12_film_64 : decode cX12_film 64 = .ok (.invokestatic 73, 3) := by decide +kernel
theorem dX12_film_67 : decode cX12_film 67 = .ok (.goto 4, 3) := by decide +kernel
theorem dX12_film_70 : decode cX12_film 70 = .ok (.iconst 0, 1) := by decide +kernel
theorem dX12_film_71 : decode cX12_film 71 = .ok (.istore 4, 2) := by decide +kernel
theorem dX12_film_73 : decode cX12_film 73 = .ok (.aload_n 0, 1) := by decide +kernel
theorem dX12_film_74 : decode cX12_film 74 = .ok (.getfield 40, 3) := by decide +kernel
theorem dX12_film_77 : decode cX12_film 77 = .ok (.bipush 40, 2) := by decide +kernel
theorem dX12_film_79 : decode cX12_film 79 = .ok (.iload_n 1, 1) := by decide +kernel
theorem dX12_film_80 : decode cX12_film 80 = .ok (.imul, 1) := by decide +kernel
theorem dX12_film_81 : decode cX12_film 81 = .ok (.iload_n 3, 1) := by decide +kernel
theorem dX12_film_82 : decode cX12_film 82 = .ok (.iadd, 1) := by decide +kernel
theorem dX12_film_83 : decode cX12_film 83 = .ok (.aload_n 0, 1) := by decide +kernel
theorem dX12_film_84 : decode cX12_film 84 = .ok (.getfield 34, 3) := by decide +kernel
theorem dX12_film_87 : decode cX12_film 87 = .ok (.iload_n 1, 1) := by decide +kernel
theorem dX12_film_88 : decode cX12_film 88 = .ok (.iaload, 1) := by decide +kernel
theorem dX12_film_89 : decode cX12_film 89 = .ok (.bipush 8, 2) := by decide +kernel
theorem dX12_film_91 : decode cX12_film 91 = .ok (.if_icmp .ne 9, 3) := by decide +kernel
theorem dX12_film_94 : decode cX12_film 94 = .ok (.iload 4, 2) := by decide +kernel
theorem dX12_film_96 : decode cX12_film 96 = .ok (.i2b, 1) := by decide +kernel
theorem dX12_film_97 : decode cX12_film 97 = .ok (.goto 22, 3) := by decide +kernel
theorem dX12_film_100 : decode cX12_film 100 = .ok (.aload_n 0, 1) := by decide +kernel
theorem dX12_film_101 : decode cX12_film 101 = .ok (.getfield 34, 3) := by decide +kernel
theorem dX12_film_104 : decode cX12_film 104 = .ok (.iload_n 1, 1) := by decide +kernel
theorem dX12_film_105 : decode cX12_film 105 = .ok (.iaload, 1) := by decide +kernel
theorem dX12_film_106 : decode cX12_film 106 = .ok (.bipush 16, 2) := by decide +kernel
theorem dX12_film_108 : decode cX12_film 108 = .ok (.if_icmp .ne 9, 3) := by decide +kernel
theorem dX12_film_111 : decode cX12_film 111 = .ok (.iload 4, 2) := by decide +kernel
theorem dX12_film_113 : decode cX12_film 113 = .ok (.i2s, 1) := by decide +kernel
theorem dX12_film_114 : decode cX12_film 114 = .ok (.goto 5, 3) := by decide +kernel
theorem dX12_film_117 : decode cX12_film 117 = .ok (.iload 4, 2) := by decide +kernel
theorem dX12_film_119 : decode cX12_film 119 = .ok (.iastore, 1) := by decide +kernel
theorem dX12_film_120 : decode cX12_film 120 = .ok (.iinc 3 1, 3) := by decide +kernel
theorem dX12_film_123 : decode cX12_film 123 = .ok (.goto (-94), 3) := by decide +kernel
theorem dX12_film_126 : decode cX12_film 126 = .ok (.aload_n 0, 1) := by decide +kernel
theorem dX12_film_127 : decode cX12_film 127 = .ok (.getfield 37, 3) := by decide +kernel
theorem dX12_film_130 : decode cX12_film 130 = .ok (.iload_n 1, 1) := by decide +kernel
theorem dX12_film_131 : decode cX12_film 131 = .ok (.iaload, 1) := by decide +kernel
theorem dX12_film_132 : decode cX12_film 132 = .ok (.ireturn, 1) := by decide +kernel
theorem dX12_image_0 : decode cX12_image 0 = .ok (.aload_n 0, 1) := by decide +kernel
theorem dX12_image_1 : decode cX12_image 1 = .ok (.getfield 7, 3) := by decide +kernel
theorem dX12_image_4 : decode cX12_image 4 = .ok (.aload_n 0, 1) := by decide +kernel
theorem dX12_image_5 : decode cX12_image 5 = .ok (.getfield 22, 3) := by decide +kernel
theorem dX12_image_8 : decode cX12_image 8 = .ok (.invokestatic 240, 3) := by decide +kernel
theorem dX12_image_11 : decode cX12_image 11 = .ok (.aload_n 0, 1) := by decide +kernel
theorem dX12_image_12 : decode cX12_image 12 = .ok (.dup, 1) := by decide +kernel
theorem dX12_image_13 : decode cX12_image 13 = .ok (.getfield 308, 3) := by decide +kernel
theorem dX12_image_16 : decode cX12_image 16 = .ok (.iconst 1, 1) := by decide +kernel
theorem dX12_image_17 : decode cX12_image 17 = .ok (.iadd, 1) := by decide +kernel
theorem dX12_image_18 : decode cX12_image 18 = .ok (.putfield 308, 3) := by decide +kernel
theorem dX12_image_21 : decode cX12_image 21 = .ok (.aload_n 0, 1) := by decide +kernel
theorem dX12_image_22 : decode cX12_image 22 = .ok (.getfield 308, 3) := by decide +kernel
theorem dX12_image_25 : decode cX12_image 25 = .ok (.ireturn, 1) := by decide +kernel
theorem dX12_restore_0 : decode cX12_restore 0 = .ok (.aload_n 0, 1) := by decide +kernel
theorem dX12_restore_1 : decode cX12_restore 1 = .ok (.getfield 308, 3) := by decide +kernel
theorem dX12_restore_4 : decode cX12_restore 4 = .ok (.ifCond .ne 9, 3) := by decide +kernel
theorem dX12_restore_7 : decode cX12_restore 7 = .ok (.aload_n 0, 1) := by decide +kernel
theorem dX12_restore_8 : decode cX12_restore 8 = .ok (.iconst 2, 1) := by decide +kernel
theorem dX12_restore_9 : decode cX12_restore 9 = .ok (.invokevirtual 65, 3) := by decide +kernel
theorem dX12_restore_12 : decode cX12_restore 12 = .ok (.ireturn, 1) := by decide +kernel
theorem dX12_restore_13 : decode cX12_restore 13 = .ok (.aload_n 0, 1) := by decide +kernel
theorem dX12_restore_14 : decode cX12_restore 14 = .ok (.getfield 22, 3) := by decide +kernel
theorem dX12_restore_17 : decode cX12_restore 17 = .ok (.aload_n 0, 1) := by decide +kernel
theorem dX12_restore_18 : decode cX12_restore 18 = .ok (.getfield 7, 3) := by decide +kernel
theorem dX12_restore_21 : decode cX12_restore 21 = .ok (.invokestatic 240, 3) := by decide +kernel
theorem dX12_restore_24 : decode cX12_restore 24 = .ok (.aload_n 0, 1) := by decide +kernel
theorem dX12_restore_25 : decode cX12_restore 25 = .ok (.getfield 7, 3) := by decide +kernel
theorem dX12_restore_28 : decode cX12_restore 28 = .ok (.iconst 0, 1) := by decide +kernel
theorem dX12_restore_29 : decode cX12_restore 29 = .ok (.iaload, 1) := by decide +kernel
theorem dX12_restore_30 : decode cX12_restore 30 = .ok (.ireturn, 1) := by decide +kernel
theorem dX12_tell_0 : decode cX12_tell 0 = .ok (.aload_n 0, 1) := by decide +kernel
theorem dX12_tell_1 : decode cX12_tell 1 = .ok (.getfield 7, 3) := by decide +kernel
theorem dX12_tell_4 : decode cX12_tell 4 = .ok (.bipush 8, 2) := by decide +kernel
theorem dX12_tell_6 : decode cX12_tell 6 = .ok (.iaload, 1) := by decide +kernel
theorem dX12_tell_7 : decode cX12_tell 7 = .ok (.bipush 20, 2) := by decide +kernel
theorem dX12_tell_9 : decode cX12_tell 9 = .ok (.if_icmp .ne 9, 3) := by decide +kernel
theorem dX12_tell_12 : decode cX12_tell 12 = .ok (.aload_n 0, 1) := by decide +kernel
theorem dX12_tell_13 : decode cX12_tell 13 = .ok (.iconst 4, 1) := by decide +kernel
theorem dX12_tell_14 : decode cX12_tell 14 = .ok (.invokevirtual 65, 3) := by decide +kernel
theorem dX12_tell_17 : decode cX12_tell 17 = .ok (.ireturn, 1) := by decide +kernel
theorem dX12_tell_18 : decode cX12_tell 18 = .ok (.aload_n 0, 1) := by decide +kernel
theorem dX12_tell_19 : decode cX12_tell 19 = .ok (.getfield 7, 3) := by decide +kernel
theorem dX12_tell_22 : decode cX12_tell 22 = .ok (.bipush 50, 2) := by decide +kernel
theorem dX12_tell_24 : decode cX12_tell 24 = .ok (.aload_n 0, 1) := by decide +kernel
theorem dX12_tell_25 : decode cX12_tell 25 = .ok (.getfield 7, 3) := by decide +kernel
theorem dX12_tell_28 : decode cX12_tell 28 = .ok (.bipush 8, 2) := by decide +kernel
theorem dX12_tell_30 : decode cX12_tell 30 = .ok (.iaload, 1) := by decide +kernel
theorem dX12_tell_31 : decode cX12_tell 31 = .ok (.iadd, 1) := by decide +kernel
theorem dX12_tell_32 : decode cX12_tell 32 = .ok (.iload_n 1, 1) := by decide +kernel
theorem dX12_tell_33 : decode cX12_tell 33 = .ok (.iastore, 1) := by decide +kernel
theorem dX12_tell_34 : decode cX12_tell 34 = .ok (.aload_n 0, 1) := by decide +kernel
theorem dX12_tell_35 : decode cX12_tell 35 = .ok (.getfield 7, 3) := by decide +kernel
theorem dX12_tell_38 : decode cX12_tell 38 = .ok (.bipush 8, 2) := by decide +kernel
theorem dX12_tell_40 : decode cX12_tell 40 = .ok (.dup2, 1) := by decide +kernel
theorem dX12_tell_41 : decode cX12_tell 41 = .ok (.iaload, 1) := by decide +kernel
theorem dX12_tell_42 : decode cX12_tell 42 = .ok (.iconst 1, 1) := by decide +kernel
theorem dX12_tell_43 : decode cX12_tell 43 = .ok (.iadd, 1) := by decide +kernel
theorem dX12_tell_44 : decode cX12_tell 44 = .ok (.iastore, 1) := by decide +kernel
theorem dX12_tell_45 : decode cX12_tell 45 = .ok (.aload_n 0, 1) := by decide +kernel
theorem dX12_tell_46 : decode cX12_tell 46 = .ok (.getfield 7, 3) := by decide +kernel
theorem dX12_tell_49 : decode cX12_tell 49 = .ok (.bipush 8, 2) := by decide +kernel
theorem dX12_tell_51 : decode cX12_tell 51 = .ok (.iaload, 1) := by decide +kernel
theorem dX12_tell_52 : decode cX12_tell 52 = .ok (.ireturn, 1) := by decide +kernel
theorem dX12_check_0 : decode cX12_check 0 = .ok (.aload_n 0, 1) := by decide +kernel
theorem dX12_check_1 : decode cX12_check 1 = .ok (.getfield 7, 3) := by decide +kernel
theorem dX12_check_4 : decode cX12_check 4 = .ok (.bipush 8, 2) := by decide +kernel
theorem dX12_check_6 : decode cX12_check 6 = .ok (.iaload, 1) := by decide +kernel
theorem dX12_check_7 : decode cX12_check 7 = .ok (.istore_n 2, 1) := by decide +kernel
theorem dX12_check_8 : decode cX12_check 8 = .ok (.aload_n 0, 1) := by decide +kernel
theorem dX12_check_9 : decode cX12_check 9 = .ok (.getfield 7, 3) := by decide +kernel
theorem dX12_check_12 : decode cX12_check 12 = .ok (.bipush 8, 2) := by decide +kernel
theorem dX12_check_14 : decode cX12_check 14 = .ok (.iconst 0, 1) := by decide +kernel
theorem dX12_check_15 : decode cX12_check 15 = .ok (.iastore, 1) := by decide +kernel
theorem dX12_check_16 : decode cX12_check 16 = .ok (.iload_n 1, 1) := by decide +kernel
theorem dX12_check_17 : decode cX12_check 17 = .ok (.invokestatic 244, 3) := by decide +kernel
theorem dX12_check_20 : decode cX12_check 20 = .ok (.ifCond .ne 9, 3) := by decide +kernel
theorem dX12_check_23 : decode cX12_check 23 = .ok (.aload_n 0, 1) := by decide +kernel
theorem dX12_check_24 : decode cX12_check 24 = .ok (.iconst 1, 1) := by decide +kernel
theorem dX12_check_25 : decode cX12_check 25 = .ok (.invokevirtual 65, 3) := by decide +kernel
theorem dX12_check_28 : decode cX12_check 28 = .ok (.ireturn, 1) := by decide +kernel
theorem dX12_check_29 : decode cX12_check 29 = .ok (.aload_n 0, 1) := by decide +kernel
theorem dX12_check_30 : decode cX12_check 30 = .ok (.iload_n 1, 1) := by decide +kernel
theorem dX12_check_31 : decode cX12_check 31 = .ok (.invokevirtual 247, 3) := by decide +kernel
theorem dX12_check_34 : decode cX12_check 34 = .ok (.iconst 0, 1) := by decide +kernel
theorem dX12_check_35 : decode cX12_check 35 = .ok (.istore_n 3, 1) := by decide +kernel
theorem dX12_check_36 : decode cX12_check 36 = .ok (.aload_n 0, 1) := by decide +kernel
theorem dX12_check_37 : decode cX12_check 37 = .ok (.getfield 13, 3) := by decide +kernel
theorem dX12_check_40 : decode cX12_check 40 = .ok (.invokestatic 234, 3) := by decide +kernel
theorem dX12_check_43 : decode cX12_check 43 = .ok (.istore 4, 2) := by decide +kernel
theorem dX12_check_45 : decode cX12_check 45 = .ok (.iload 4, 2) := by decide +kernel
theorem dX12_check_47 : decode cX12_check 47 = .ok (.ifCond .lt 58, 3) := by decide +kernel
theorem dX12_check_50 : decode cX12_check 50 = .ok (.iload_n 3, 1) := by decide +kernel
theorem dX12_check_51 : decode cX12_check 51 = .ok (.iload_n 2, 1) := by decide +kernel
theorem dX12_check_52 : decode cX12_check 52 = .ok (.if_icmp .eq 17, 3) := by decide +kernel
theorem dX12_check_55 : decode cX12_check 55 = .ok (.aload_n 0, 1) := by decide +kernel
theorem dX12_check_56 : decode cX12_check 56 = .ok (.getfield 7, 3) := by decide +kernel
theorem dX12_check_59 : decode cX12_check 59 = .ok (.bipush 50, 2) := by decide +kernel
theorem dX12_check_61 : decode cX12_check 61 = .ok (.iload_n 3, 1) := by decide +kernel
theorem dX12_check_62 : decode cX12_check 62 = .ok (.iadd, 1) := by decide +kernel
theorem dX12_check_63 : decode cX12_check 63 = .ok (.iaload, 1) := by decide +kernel
theorem dX12_check_64 : decode cX12_check 64 = .ok (.iload 4, 2) := by decide +kernel
theorem dX12_check_66 : decode cX12_check 66 = .ok (.if_icmp .eq 7, 3) := by decide +kernel
theorem dX12_check_69 : decode cX12_check 69 = .ok (.iconst 1, 1) := by decide +kernel
theorem dX12_check_70 : decode cX12_check 70 = .ok (.iload_n 3, 1) := by decide +kernel
theorem dX12_check_71 : decode cX12_check 71 = .ok (.iadd, 1) := by decide +kernel
theorem dX12_check_72 : decode cX12_check 72 = .ok (.ireturn, 1) := by decide +kernel
theorem dX12_check_73 : decode cX12_check 73 = .ok (.aload_n 0, 1) := by decide +kernel
theorem dX12_check_74 : decode cX12_check 74 = .ok (.getfield 13, 3) := by decide +kernel
theorem dX12_check_77 : decode cX12_check 77 = .ok (.bipush 80, 2) := by decide +kernel
theorem dX12_check_79 : decode cX12_check 79 = .ok (.bipush 8, 2) := by decide +kernel
theorem dX12_check_81 : decode cX12_check 81 = .ok (.iload 4, 2) := by decide +kernel
theorem dX12_check_83 : decode cX12_check 83 = .ok (.imul, 1) := by decide +kernel
theorem dX12_check_84 : decode cX12_check 84 = .ok (.iadd, 1) := by decide +kernel
theorem dX12_check_85 : decode cX12_check 85 = .ok (.bipush 6, 2) := by decide +kernel
theorem dX12_check_87 : decode cX12_check 87 = .ok (.iadd, 1) := by decide +kernel
theorem dX12_check_88 : decode cX12_check 88 = .ok (.iconst 0, 1) := by decide +kernel
theorem dX12_check_89 : decode cX12_check 89 = .ok (.iastore, 1) := by decide +kernel
theorem dX12_check_90 : decode cX12_check 90 = .ok (.iinc 3 1, 3) := by decide +kernel
theorem dX12_check_93 : decode cX12_check 93 = .ok (.aload_n 0, 1) := by decide +kernel
theorem dX12_check_94 : decode cX12_check 94 = .ok (.getfield 13, 3) := by decide +kernel
theorem dX12_check_97 : decode cX12_check 97 = .ok (.invokestatic 234, 3) := by decide +kernel
theorem dX12_check_100 : decode cX12_check 100 = .ok (.istore 4, 2) := by decide +kernel
theorem dX12_check_102 : decode cX12_check 102 = .ok (.goto (-57), 3) := by decide +kernel
theorem dX12_check_105 : decode cX12_check 105 = .ok (.iload_n 3, 1) := by decide +kernel
theorem dX12_check_106 : decode cX12_check 106 = .ok (.iload_n 2, 1) := by decide +kernel
theorem dX12_check_107 : decode cX12_check 107 = .ok (.if_icmp .ge 9, 3) := by decide +kernel
theorem dX12_check_110 : decode cX12_check 110 = .ok (.iconst 1, 1) := by decide +kernel
theorem dX12_check_111 : decode cX12_check 111 = .ok (.iload_n 3, 1) := by decide +kernel
theorem dX12_check_112 : decode cX12_check 112 = .ok (.iadd, 1) := by decide +kernel
theorem dX12_check_113 : decode cX12_check 113 = .ok (.goto 4, 3) := by decide +kernel
theorem dX12_check_116 : decode cX12_check 116 = .ok (.iconst 0, 1) := by decide +kernel
theorem dX12_check_117 : decode cX12_check 117 = .ok (.ireturn, 1) := by decide +kernel
theorem dX12_count_0 : decode cX12_count 0 = .ok (.iload_n 1, 1) := by decide +kernel
theorem dX12_count_1 : decode cX12_count 1 = .ok (.tableswitch 116 0 8 #[51, 58, 65, 73, 80, 87, 95, 103, 108], 51) := by decide +kernel
theorem dX12_count_52 : decode cX12_count 52 = .ok (.aload_n 0, 1) := by decide +kernel
theorem dX12_count_53 : decode cX12_count 53 = .ok (.getfield 7, 3) := by decide +kernel
theorem dX12_count_56 : decode cX12_count 56 = .ok (.iconst 0, 1) := by decide +kernel
theorem dX12_count_57 : decode cX12_count 57 = .ok (.iaload, 1) := by decide +kernel
theorem dX12_count_58 : decode cX12_count 58 = .ok (.ireturn, 1) := by decide +kernel
theorem dX12_count_59 : decode cX12_count 59 = .ok (.aload_n 0, 1) := by decide +kernel
theorem dX12_count_60 : decode cX12_count 60 = .ok (.getfield 7, 3) := by decide +kernel
theorem dX12_count_63 : decode cX12_count 63 = .ok (.iconst 1, 1) := by decide +kernel
theorem dX12_count_64 : decode cX12_count 64 = .ok (.iaload, 1) := by decide +kernel
theorem dX12_count_65 : decode cX12_count 65 = .ok (.ireturn, 1) := by decide +kernel
theorem dX12_count_66 : decode cX12_count 66 = .ok (.aload_n 0, 1) := by decide +kernel
theorem dX12_count_67 : decode cX12_count 67 = .ok (.getfield 7, 3) := by decide +kernel
theorem dX12_count_70 : decode cX12_count 70 = .ok (.invokestatic 251, 3) := by decide +kernel
theorem dX12_count_73 : decode cX12_count 73 = .ok (.ireturn, 1) := by decide +kernel
theorem dX12_count_74 : decode cX12_count 74 = .ok (.aload_n 0, 1) := by decide +kernel
theorem dX12_count_75 : decode cX12_count 75 = .ok (.getfield 7, 3) := by decide +kernel
theorem dX12_count_78 : decode cX12_count 78 = .ok (.iconst 2, 1) := by decide +kernel
theorem dX12_count_79 : decode cX12_count 79 = .ok (.iaload, 1) := by decide +kernel
theorem dX12_count_80 : decode cX12_count 80 = .ok (.ireturn, 1) := by decide +kernel
theorem dX12_count_81 : decode cX12_count 81 = .ok (.aload_n 0, 1) := by decide +kernel
theorem dX12_count_82 : decode cX12_count 82 = .ok (.getfield 7, 3) := by decide +kernel
theorem dX12_count_85 : decode cX12_count 85 = .ok (.iconst 5, 1) := by decide +kernel
theorem dX12_count_86 : decode cX12_count 86 = .ok (.iaload, 1) := by decide +kernel
theorem dX12_count_87 : decode cX12_count 87 = .ok (.ireturn, 1) := by decide +kernel
theorem dX12_count_88 : decode cX12_count 88 = .ok (.aload_n 0, 1) := by decide +kernel
theorem dX12_count_89 : decode cX12_count 89 = .ok (.getfield 7, 3) := by decide +kernel
theorem dX12_count_92 : decode cX12_count 92 = .ok (.bipush 7, 2) := by decide +kernel
theorem dX12_count_94 : decode cX12_count 94 = .ok (.iaload, 1) := by decide +kernel
theorem dX12_count_95 : decode cX12_count 95 = .ok (.ireturn, 1) := by decide +kernel
theorem dX12_count_96 : decode cX12_count 96 = .ok (.aload_n 0, 1) := by decide +kernel
theorem dX12_count_97 : decode cX12_count 97 = .ok (.getfield 7, 3) := by decide +kernel
theorem dX12_count_100 : decode cX12_count 100 = .ok (.bipush 8, 2) := by decide +kernel
theorem dX12_count_102 : decode cX12_count 102 = .ok (.iaload, 1) := by decide +kernel
theorem dX12_count_103 : decode cX12_count 103 = .ok (.ireturn, 1) := by decide +kernel
theorem dX12_count_104 : decode cX12_count 104 = .ok (.aload_n 0, 1) := by decide +kernel
theorem dX12_count_105 : decode cX12_count 105 = .ok (.getfield 278, 3) := by decide +kernel
theorem dX12_count_108 : decode cX12_count 108 = .ok (.ireturn, 1) := by decide +kernel
theorem dX12_count_109 : decode cX12_count 109 = .ok (.aload_n 0, 1) := by decide +kernel
theorem dX12_count_110 : decode cX12_count 110 = .ok (.getfield 7, 3) := by decide +kernel
theorem dX12_count_113 : decode cX12_count 113 = .ok (.bipush 6, 2) := by decide +kernel
theorem dX12_count_115 : decode cX12_count 115 = .ok (.iaload, 1) := by decide +kernel
theorem dX12_count_116 : decode cX12_count 116 = .ok (.ireturn, 1) := by decide +kernel
theorem dX12_count_117 : decode cX12_count 117 = .ok (.aload_n 0, 1) := by decide +kernel
theorem dX12_count_118 : decode cX12_count 118 = .ok (.iconst 1, 1) := by decide +kernel
theorem dX12_count_119 : decode cX12_count 119 = .ok (.invokevirtual 65, 3) := by decide +kernel
theorem dX12_count_122 : decode cX12_count 122 = .ok (.ireturn, 1) := by decide +kernel
theorem dX12_told_0 : decode cX12_told 0 = .ok (.iload_n 1, 1) := by decide +kernel
theorem dX12_told_1 : decode cX12_told 1 = .ok (.i2l, 1) := by decide +kernel
theorem dX12_told_2 : decode cX12_told 2 = .ok (.lconst 1, 1) := by decide +kernel
theorem dX12_told_3 : decode cX12_told 3 = .ok (.ldc2_w 311, 3) := by decide +kernel
theorem dX12_told_6 : decode cX12_told 6 = .ok (.invokestatic 48, 3) := by decide +kernel
theorem dX12_told_9 : decode cX12_told 9 = .ok (.ifCond .eq 12, 3) := by decide +kernel
theorem dX12_told_12 : decode cX12_told 12 = .ok (.aload_n 0, 1) := by decide +kernel
theorem dX12_told_13 : decode cX12_told 13 = .ok (.getfield 25, 3) := by decide +kernel
theorem dX12_told_16 : decode cX12_told 16 = .ok (.iload_n 1, 1) := by decide +kernel
theorem dX12_told_17 : decode cX12_told 17 = .ok (.iaload, 1) := by decide +kernel
theorem dX12_told_18 : decode cX12_told 18 = .ok (.goto 8, 3) := by decide +kernel
theorem dX12_told_21 : decode cX12_told 21 = .ok (.aload_n 0, 1) := by decide +kernel
theorem dX12_told_22 : decode cX12_told 22 = .ok (.iconst 1, 1) := by decide +kernel
theorem dX12_told_23 : decode cX12_told 23 = .ok (.invokevirtual 65, 3) := by decide +kernel
theorem dX12_told_26 : decode cX12_told 26 = .ok (.ireturn, 1) := by decide +kernel
