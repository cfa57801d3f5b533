theorem dX5_init_0 : decode cX5_init 0 = .ok (.aload_n 0, 1) := by decide +kernel
theorem dX5_init_1 : decode cX5_init 1 = .ok (.invokespecial 1, 3) := by decide +kernel
theorem dX5_init_4 : decode cX5_init 4 = .ok (.aload_n 0, 1) := by decide +kernel
theorem dX5_init_5 : decode cX5_init 5 = .ok (.iconst 2, 1) := by decide +kernel
theorem dX5_init_6 : decode cX5_init 6 = .ok (.newarray .int, 2) := by decide +kernel
theorem dX5_init_8 : decode cX5_init 8 = .ok (.dup, 1) := by decide +kernel
theorem dX5_init_9 : decode cX5_init 9 = .ok (.iconst 0, 1) := by decide +kernel
theorem dX5_init_10 : decode cX5_init 10 = .ok (.iconst 1, 1) := by decide +kernel
theorem dX5_init_11 : decode cX5_init 11 = .ok (.iastore, 1) := by decide +kernel
theorem dX5_init_12 : decode cX5_init 12 = .ok (.dup, 1) := by decide +kernel
theorem dX5_init_13 : decode cX5_init 13 = .ok (.iconst 1, 1) := by decide +kernel
theorem dX5_init_14 : decode cX5_init 14 = .ok (.iconst 1, 1) := by decide +kernel
theorem dX5_init_15 : decode cX5_init 15 = .ok (.iastore, 1) := by decide +kernel
theorem dX5_init_16 : decode cX5_init 16 = .ok (.putfield 7, 3) := by decide +kernel
theorem dX5_init_19 : decode cX5_init 19 = .ok (.aload_n 0, 1) := by decide +kernel
theorem dX5_init_20 : decode cX5_init 20 = .ok (.bipush 32, 2) := by decide +kernel
theorem dX5_init_22 : decode cX5_init 22 = .ok (.newarray .int, 2) := by decide +kernel
theorem dX5_init_24 : decode cX5_init 24 = .ok (.putfield 13, 3) := by decide +kernel
theorem dX5_init_27 : decode cX5_init 27 = .ok (.aload_n 0, 1) := by decide +kernel
theorem dX5_init_28 : decode cX5_init 28 = .ok (.bipush 8, 2) := by decide +kernel
theorem dX5_init_30 : decode cX5_init 30 = .ok (.newarray .int, 2) := by decide +kernel
theorem dX5_init_32 : decode cX5_init 32 = .ok (.putfield 16, 3) := by decide +kernel
theorem dX5_init_35 : decode cX5_init 35 = .ok (.aload_n 0, 1) := by decide +kernel
theorem dX5_init_36 : decode cX5_init 36 = .ok (.bipush 7, 2) := by decide +kernel
theorem dX5_init_38 : decode cX5_init 38 = .ok (.newarray .int, 2) := by decide +kernel
theorem dX5_init_40 : decode cX5_init 40 = .ok (.putfield 19, 3) := by decide +kernel
theorem dX5_init_43 : decode cX5_init 43 = .ok (.aload_n 0, 1) := by decide +kernel
theorem dX5_init_44 : decode cX5_init 44 = .ok (.iconst 4, 1) := by decide +kernel
theorem dX5_init_45 : decode cX5_init 45 = .ok (.newarray .long, 2) := by decide +kernel
theorem dX5_init_47 : decode cX5_init 47 = .ok (.putfield 22, 3) := by decide +kernel
theorem dX5_init_50 : decode cX5_init 50 = .ok (.aload_n 0, 1) := by decide +kernel
theorem dX5_init_51 : decode cX5_init 51 = .ok (.iconst 4, 1) := by decide +kernel
theorem dX5_init_52 : decode cX5_init 52 = .ok (.newarray .long, 2) := by decide +kernel
theorem dX5_init_54 : decode cX5_init 54 = .ok (.putfield 26, 3) := by decide +kernel
theorem dX5_init_57 : decode cX5_init 57 = .ok (.aload_n 0, 1) := by decide +kernel
theorem dX5_init_58 : decode cX5_init 58 = .ok (.iconst 2, 1) := by decide +kernel
theorem dX5_init_59 : decode cX5_init 59 = .ok (.newarray .int, 2) := by decide +kernel
theorem dX5_init_61 : decode cX5_init 61 = .ok (.putfield 29, 3) := by decide +kernel
theorem dX5_init_64 : decode cX5_init 64 = .ok (.aload_n 0, 1) := by decide +kernel
theorem dX5_init_65 : decode cX5_init 65 = .ok (.sipush 640, 3) := by decide +kernel
theorem dX5_init_68 : decode cX5_init 68 = .ok (.newarray .long, 2) := by decide +kernel
theorem dX5_init_70 : decode cX5_init 70 = .ok (.putfield 32, 3) := by decide +kernel
theorem dX5_init_73 : decode cX5_init 73 = .ok (.aload_n 0, 1) := by decide +kernel
theorem dX5_init_74 : decode cX5_init 74 = .ok (.sipush 160, 3) := by decide +kernel
theorem dX5_init_77 : decode cX5_init 77 = .ok (.newarray .long, 2) := by decide +kernel
theorem dX5_init_79 : decode cX5_init 79 = .ok (.putfield 35, 3) := by decide +kernel
theorem dX5_init_82 : decode cX5_init 82 = .ok (.aload_n 0, 1) := by decide +kernel
theorem dX5_init_83 : decode cX5_init 83 = .ok (.sipush 160, 3) := by decide +kernel
theorem dX5_init_86 : decode cX5_init 86 = .ok (.newarray .int, 2) := by decide +kernel
theorem dX5_init_88 : decode cX5_init 88 = .ok (.putfield 38, 3) := by decide +kernel
theorem dX5_init_91 : decode cX5_init 91 = .ok (.aload_n 0, 1) := by decide +kernel
theorem dX5_init_92 : decode cX5_init 92 = .ok (.sipush 160, 3) := by decide +kernel
theorem dX5_init_95 : decode cX5_init 95 = .ok (.newarray .int, 2) := by decide +kernel
theorem dX5_init_97 : decode cX5_init 97 = .ok (.putfield 41, 3) := by decide +kernel
theorem dX5_init_100 : decode cX5_init 100 = .ok (.aload_n 0, 1) := by decide +kernel
theorem dX5_init_101 : decode cX5_init 101 = .ok (.bipush 9, 2) := by decide +kernel
theorem dX5_init_103 : decode cX5_init 103 = .ok (.newarray .long, 2) := by decide +kernel
theorem dX5_init_105 : decode cX5_init 105 = .ok (.putfield 44, 3) := by decide +kernel
theorem dX5_init_108 : decode cX5_init 108 = .ok (.aload_n 0, 1) := by decide +kernel
theorem dX5_init_109 : decode cX5_init 109 = .ok (.iconst 4, 1) := by decide +kernel
theorem dX5_init_110 : decode cX5_init 110 = .ok (.newarray .int, 2) := by decide +kernel
theorem dX5_init_112 : decode cX5_init 112 = .ok (.putfield 47, 3) := by decide +kernel
theorem dX5_init_115 : decode cX5_init 115 = .ok (.aload_n 0, 1) := by decide +kernel
theorem dX5_init_116 : decode cX5_init 116 = .ok (.iconst 4, 1) := by decide +kernel
theorem dX5_init_117 : decode cX5_init 117 = .ok (.newarray .int, 2) := by decide +kernel
theorem dX5_init_119 : decode cX5_init 119 = .ok (.putfield 50, 3) := by decide +kernel
theorem dX5_init_122 : decode cX5_init 122 = .ok (.aload_n 0, 1) := by decide +kernel
theorem dX5_init_123 : decode cX5_init 123 = .ok (.iconst 4, 1) := by decide +kernel
theorem dX5_init_124 : decode cX5_init 124 = .ok (.newarray .long, 2) := by decide +kernel
theorem dX5_init_126 : decode cX5_init 126 = .ok (.putfield 53, 3) := by decide +kernel
theorem dX5_init_129 : decode cX5_init 129 = .ok (.aload_n 0, 1) := by decide +kernel
theorem dX5_init_130 : decode cX5_init 130 = .ok (.bipush 40, 2) := by decide +kernel
theorem dX5_init_132 : decode cX5_init 132 = .ok (.newarray .int, 2) := by decide +kernel
theorem dX5_init_134 : decode cX5_init 134 = .ok (.putfield 56, 3) := by decide +kernel
theorem dX5_init_137 : decode cX5_init 137 = .ok (.return_, 1) := by decide +kernel
theorem dX5_in_0 : decode cX5_in 0 = .ok (.lload_n 0, 1) := by decide +kernel
theorem dX5_in_1 : decode cX5_in 1 = .ok (.lload_n 2, 1) := by decide +kernel
theorem dX5_in_2 : decode cX5_in 2 = .ok (.lcmp, 1) := by decide +kernel
theorem dX5_in_3 : decode cX5_in 3 = .ok (.ifCond .lt 14, 3) := by decide +kernel
theorem dX5_in_6 : decode cX5_in 6 = .ok (.lload_n 0, 1) := by decide +kernel
theorem dX5_in_7 : decode cX5_in 7 = .ok (.lload 4, 2) := by decide +kernel
theorem dX5_in_9 : decode cX5_in 9 = .ok (.lcmp, 1) := by decide +kernel
theorem dX5_in_10 : decode cX5_in 10 = .ok (.ifCond .gt 7, 3) := by decide +kernel
theorem dX5_in_13 : decode cX5_in 13 = .ok (.iconst 1, 1) := by decide +kernel
theorem dX5_in_14 : decode cX5_in 14 = .ok (.goto 4, 3) := by decide +kernel
theorem dX5_in_17 : decode cX5_in 17 = .ok (.iconst 0, 1) := by decide +kernel
theorem dX5_in_18 : decode cX5_in 18 = .ok (.ireturn, 1) := by decide +kernel
theorem dX5_refuse_0 : decode cX5_refuse 0 = .ok (.aload_n 0, 1) := by decide +kernel
theorem dX5_refuse_1 : decode cX5_refuse 1 = .ok (.getfield 19, 3) := by decide +kernel
theorem dX5_refuse_4 : decode cX5_refuse 4 = .ok (.iload_n 1, 1) := by decide +kernel
theorem dX5_refuse_5 : decode cX5_refuse 5 = .ok (.ineg, 1) := by decide +kernel
theorem dX5_refuse_6 : decode cX5_refuse 6 = .ok (.dup2, 1) := by decide +kernel
theorem dX5_refuse_7 : decode cX5_refuse 7 = .ok (.iaload, 1) := by decide +kernel
theorem dX5_refuse_8 : decode cX5_refuse 8 = .ok (.iconst 1, 1) := by decide +kernel
theorem dX5_refuse_9 : decode cX5_refuse 9 = .ok (.iadd, 1) := by decide +kernel
theorem dX5_refuse_10 : decode cX5_refuse 10 = .ok (.iastore, 1) := by decide +kernel
theorem dX5_refuse_11 : decode cX5_refuse 11 = .ok (.iload_n 1, 1) := by decide +kernel
theorem dX5_refuse_12 : decode cX5_refuse 12 = .ok (.ireturn, 1) := by decide +kernel
theorem dX5_refuseBig_0 : decode cX5_refuseBig 0 = .ok (.aload_n 0, 1) := by decide +kernel
theorem dX5_refuseBig_1 : decode cX5_refuseBig 1 = .ok (.getfield 19, 3) := by decide +kernel
theorem dX5_refuseBig_4 : decode cX5_refuseBig 4 = .ok (.iload_n 1, 1) := by decide +kernel
theorem dX5_refuseBig_5 : decode cX5_refuseBig 5 = .ok (.ineg, 1) := by decide +kernel
theorem dX5_refuseBig_6 : decode cX5_refuseBig 6 = .ok (.dup2, 1) := by decide +kernel
theorem dX5_refuseBig_7 : decode cX5_refuseBig 7 = .ok (.iaload, 1) := by decide +kernel
theorem dX5_refuseBig_8 : decode cX5_refuseBig 8 = .ok (.iconst 1, 1) := by decide +kernel
theorem dX5_refuseBig_9 : decode cX5_refuseBig 9 = .ok (.iadd, 1) := by decide +kernel
theorem dX5_refuseBig_10 : decode cX5_refuseBig 10 = .ok (.iastore, 1) := by decide +kernel
theorem dX5_refuseBig_11 : decode cX5_refuseBig 11 = .ok (.ldc 59, 2) := by decide +kernel
theorem dX5_refuseBig_13 : decode cX5_refuseBig 13 = .ok (.iload_n 1, 1) := by decide +kernel
theorem dX5_refuseBig_14 : decode cX5_refuseBig 14 = .ok (.isub, 1) := by decide +kernel
theorem dX5_refuseBig_15 : decode cX5_refuseBig 15 = .ok (.ireturn, 1) := by decide +kernel
theorem dX5_refuseGreat_0 : decode cX5_refuseGreat 0 = .ok (.aload_n 0, 1) := by decide +kernel
theorem dX5_refuseGreat_1 : decode cX5_refuseGreat 1 = .ok (.getfield 19, 3) := by decide +kernel
theorem dX5_refuseGreat_4 : decode cX5_refuseGreat 4 = .ok (.iload_n 1, 1) := by decide +kernel
theorem dX5_refuseGreat_5 : decode cX5_refuseGreat 5 = .ok (.ineg, 1) := by decide +kernel
theorem dX5_refuseGreat_6 : decode cX5_refuseGreat 6 = .ok (.dup2, 1) := by decide +kernel
theorem dX5_refuseGreat_7 : decode cX5_refuseGreat 7 = .ok (.iaload, 1) := by decide +kernel
theorem dX5_refuseGreat_8 : decode cX5_refuseGreat 8 = .ok (.iconst 1, 1) := by decide +kernel
theorem dX5_refuseGreat_9 : decode cX5_refuseGreat 9 = .ok (.iadd, 1) := by decide +kernel
theorem dX5_refuseGreat_10 : decode cX5_refuseGreat 10 = .ok (.iastore, 1) := by decide +kernel
theorem dX5_refuseGreat_11 : decode cX5_refuseGreat 11 = .ok (.ldc2_w 60, 3) := by decide +kernel
theorem dX5_refuseGreat_14 : decode cX5_refuseGreat 14 = .ok (.iload_n 1, 1) := by decide +kernel
theorem dX5_refuseGreat_15 : decode cX5_refuseGreat 15 = .ok (.i2l, 1) := by decide +kernel
theorem dX5_refuseGreat_16 : decode cX5_refuseGreat 16 = .ok (.lsub, 1) := by decide +kernel
theorem dX5_refuseGreat_17 : decode cX5_refuseGreat 17 = .ok (.lreturn, 1) := by decide +kernel
theorem dX5_isWho_0 : decode cX5_isWho 0 = .ok (.iload_n 0, 1) := by decide +kernel
theorem dX5_isWho_1 : decode cX5_isWho 1 = .ok (.ifCond .eq 8, 3) := by decide +kernel
theorem dX5_isWho_4 : decode cX5_isWho 4 = .ok (.iload_n 0, 1) := by decide +kernel
theorem dX5_isWho_5 : decode cX5_isWho 5 = .ok (.iconst 1, 1) := by decide +kernel
theorem dX5_isWho_6 : decode cX5_isWho 6 = .ok (.if_icmp .ne 7, 3) := by decide +kernel
theorem dX5_isWho_9 : decode cX5_isWho 9 = .ok (.iconst 1, 1) := by decide +kernel
theorem dX5_isWho_10 : decode cX5_isWho 10 = .ok (.goto 4, 3) := by decide +kernel
theorem dX5_isWho_13 : decode cX5_isWho 13 = .ok (.iconst 0, 1) := by decide +kernel
theorem dX5_isWho_14 : decode cX5_isWho 14 = .ok (.ireturn, 1) := by decide +kernel
theorem dX5_isChoice_0 : decode cX5_isChoice 0 = .ok (.iload_n 1, 1) := by decide +kernel
theorem dX5_isChoice_1 : decode cX5_isChoice 1 = .ok (.invokestatic 62, 3) := by decide +kernel
theorem dX5_isChoice_4 : decode cX5_isChoice 4 = .ok (.ifCond .eq 25, 3) := by decide +kernel
theorem dX5_isChoice_7 : decode cX5_isChoice 7 = .ok (.iload_n 2, 1) := by decide +kernel
theorem dX5_isChoice_8 : decode cX5_isChoice 8 = .ok (.i2l, 1) := by decide +kernel
theorem dX5_isChoice_9 : decode cX5_isChoice 9 = .ok (.lconst 0, 1) := by decide +kernel
theorem dX5_isChoice_10 : decode cX5_isChoice 10 = .ok (.aload_n 0, 1) := by decide +kernel
theorem dX5_isChoice_11 : decode cX5_isChoice 11 = .ok (.getfield 7, 3) := by decide +kernel
theorem dX5_isChoice_14 : decode cX5_isChoice 14 = .ok (.iload_n 1, 1) := by decide +kernel
theorem dX5_isChoice_15 : decode cX5_isChoice 15 = .ok (.iaload, 1) := by decide +kernel
theorem dX5_isChoice_16 : decode cX5_isChoice 16 = .ok (.iconst 1, 1) := by decide +kernel
theorem dX5_isChoice_17 : decode cX5_isChoice 17 = .ok (.isub, 1) := by decide +kernel
theorem dX5_isChoice_18 : decode cX5_isChoice 18 = .ok (.i2l, 1) := by decide +kernel
theorem dX5_isChoice_19 : decode cX5_isChoice 19 = .ok (.invokestatic 66, 3) := by decide +kernel
theorem dX5_isChoice_22 : decode cX5_isChoice 22 = .ok (.ifCond .eq 7, 3) := by decide +kernel
theorem dX5_isChoice_25 : decode cX5_isChoice 25 = .ok (.iconst 1, 1) := by decide +kernel
theorem dX5_isChoice_26 : decode cX5_isChoice 26 = .ok (.goto 4, 3) := by decide +kernel
theorem dX5_isChoice_29 : decode cX5_isChoice 29 = .ok (.iconst 0, 1) := by decide +kernel
theorem dX5_isChoice_30 : decode cX5_isChoice 30 = .ok (.ireturn, 1) := by decide +kernel
theorem dX5_get_0 : decode cX5_get 0 = .ok (.iload_n 1, 1) := by decide +kernel
theorem dX5_get_1 : decode cX5_get 1 = .ok (.ifCond .ne 16, 3) := by decide +kernel
theorem dX5_get_4 : decode cX5_get 4 = .ok (.aload_n 0, 1) := by decide +kernel
theorem dX5_get_5 : decode cX5_get 5 = .ok (.getfield 13, 3) := by decide +kernel
theorem dX5_get_8 : decode cX5_get 8 = .ok (.iconst 4, 1) := by decide +kernel
theorem dX5_get_9 : decode cX5_get 9 = .ok (.iload_n 2, 1) := by decide +kernel
theorem dX5_get_10 : decode cX5_get 10 = .ok (.imul, 1) := by decide +kernel
theorem dX5_get_11 : decode cX5_get 11 = .ok (.iload_n 3, 1) := by decide +kernel
theorem dX5_get_12 : decode cX5_get 12 = .ok (.iadd, 1) := by decide +kernel
theorem dX5_get_13 : decode cX5_get 13 = .ok (.iaload, 1) := by decide +kernel
theorem dX5_get_14 : decode cX5_get 14 = .ok (.goto 16, 3) := by decide +kernel
theorem dX5_get_17 : decode cX5_get 17 = .ok (.aload_n 0, 1) := by decide +kernel
theorem dX5_get_18 : decode cX5_get 18 = .ok (.getfield 13, 3) := by decide +kernel
theorem dX5_get_21 : decode cX5_get 21 = .ok (.bipush 16, 2) := by decide +kernel
theorem dX5_get_23 : decode cX5_get 23 = .ok (.iconst 4, 1) := by decide +kernel
theorem dX5_get_24 : decode cX5_get 24 = .ok (.iload_n 3, 1) := by decide +kernel
theorem dX5_get_25 : decode cX5_get 25 = .ok (.imul, 1) := by decide +kernel
theorem dX5_get_26 : decode cX5_get 26 = .ok (.iadd, 1) := by decide +kernel
theorem dX5_get_27 : decode cX5_get 27 = .ok (.iload_n 2, 1) := by decide +kernel
theorem dX5_get_28 : decode cX5_get 28 = .ok (.iadd, 1) := by decide +kernel
theorem dX5_get_29 : decode cX5_get 29 = .ok (.iaload, 1) := by decide +kernel
theorem dX5_get_30 : decode cX5_get 30 = .ok (.ireturn, 1) := by decide +kernel
theorem dX5_game_0 : decode cX5_game 0 = .ok (.iload_n 1, 1) := by decide +kernel
theorem dX5_game_1 : decode cX5_game 1 = .ok (.iconst 1, 1) := by decide +kernel
theorem dX5_game_2 : decode cX5_game 2 = .ok (.if_icmp .lt 8, 3) := by decide +kernel
theorem dX5_game_5 : decode cX5_game 5 = .ok (.iload_n 2, 1) := by decide +kernel
theorem dX5_game_6 : decode cX5_game 6 = .ok (.iconst 1, 1) := by decide +kernel
theorem dX5_game_7 : decode cX5_game 7 = .ok (.if_icmp .ge 10, 3) := by decide +kernel
theorem dX5_game_10 : decode cX5_game 10 = .ok (.aload_n 0, 1) := by decide +kernel
theorem dX5_game_11 : decode cX5_game 11 = .ok (.bipush (-4), 2) := by decide +kernel
theorem dX5_game_13 : decode cX5_game 13 = .ok (.invokevirtual 70, 3) := by decide +kernel
theorem dX5_game_16 : decode cX5_game 16 = .ok (.ireturn, 1) := by decide +kernel
theorem dX5_game_17 : decode cX5_game 17 = .ok (.iload_n 1, 1) := by decide +kernel
theorem dX5_game_18 : decode cX5_game 18 = .ok (.iconst 4, 1) := by decide +kernel
theorem dX5_game_19 : decode cX5_game 19 = .ok (.if_icmp .gt 8, 3) := by decide +kernel
theorem dX5_game_22 : decode cX5_game 22 = .ok (.iload_n 2, 1) := by decide +kernel
theorem dX5_game_23 : decode cX5_game 23 = .ok (.iconst 4, 1) := by decide +kernel
theorem dX5_game_24 : decode cX5_game 24 = .ok (.if_icmp .le 10, 3) := by decide +kernel
theorem dX5_game_27 : decode cX5_game 27 = .ok (.aload_n 0, 1) := by decide +kernel
theorem dX5_game_28 : decode cX5_game 28 = .ok (.bipush (-6), 2) := by decide +kernel
theorem dX5_game_30 : decode cX5_game 30 = .ok (.invokevirtual 70, 3) := by decide +kernel
theorem dX5_game_33 : decode cX5_game 33 = .ok (.ireturn, 1) := by decide +kernel
theorem dX5_game_34 : decode cX5_game 34 = .ok (.aload_n 0, 1) := by decide +kernel
theorem dX5_game_35 : decode cX5_game 35 = .ok (.getfield 7, 3) := by decide +kernel
theorem dX5_game_38 : decode cX5_game 38 = .ok (.iconst 0, 1) := by decide +kernel
theorem dX5_game_39 : decode cX5_game 39 = .ok (.iload_n 1, 1) := by decide +kernel
theorem dX5_game_40 : decode cX5_game 40 = .ok (.iastore, 1) := by decide +kernel
theorem dX5_game_41 : decode cX5_game 41 = .ok (.aload_n 0, 1) := by decide +kernel
theorem dX5_game_42 : decode cX5_game 42 = .ok (.getfield 7, 3) := by decide +kernel
theorem dX5_game_45 : decode cX5_game 45 = .ok (.iconst 1, 1) := by decide +kernel
theorem dX5_game_46 : decode cX5_game 46 = .ok (.iload_n 2, 1) := by decide +kernel
theorem dX5_game_47 : decode cX5_game 47 = .ok (.iastore, 1) := by decide +kernel
theorem dX5_game_48 : decode cX5_game 48 = .ok (.iconst 0, 1) := by decide +kernel
theorem dX5_game_49 : decode cX5_game 49 = .ok (.istore_n 3, 1) := by decide +kernel
theorem dX5_game_50 : decode cX5_game 50 = .ok (.iload_n 3, 1) := by decide +kernel
theorem dX5_game_51 : decode cX5_game 51 = .ok (.bipush 32, 2) := by decide +kernel
theorem dX5_game_53 : decode cX5_game 53 = .ok (.if_icmp .ge 16, 3) := by decide +kernel
theorem dX5_game_56 : decode cX5_game 56 = .ok (.aload_n 0, 1) := by decide +kernel
theorem dX5_game_57 : decode cX5_game 57 = .ok (.getfield 13, 3) := by decide +kernel
theorem dX5_game_60 : decode cX5_game 60 = .ok (.iload_n 3, 1) := by decide +kernel
theorem dX5_game_61 : decode cX5_game 61 = .ok (.iconst 0, 1) := by decide +kernel
theorem dX5_game_62 : decode cX5_game 62 = .ok (.iastore, 1) := by decide +kernel
theorem dX5_game_63 : decode cX5_game 63 = .ok (.iinc 3 1, 3) := by decide +kernel
theorem dX5_game_66 : decode cX5_game 66 = .ok (.goto (-16), 3) := by decide +kernel
theorem dX5_game_69 : decode cX5_game 69 = .ok (.iconst 1, 1) := by decide +kernel
theorem dX5_game_70 : decode cX5_game 70 = .ok (.ireturn, 1) := by decide +kernel
theorem dX5_pay_0 : decode cX5_pay 0 = .ok (.iload_n 1, 1) := by decide +kernel
theorem dX5_pay_1 : decode cX5_pay 1 = .ok (.invokestatic 62, 3) := by decide +kernel
theorem dX5_pay_4 : decode cX5_pay 4 = .ok (.ifCond .eq 21, 3) := by decide +kernel
theorem dX5_pay_7 : decode cX5_pay 7 = .ok (.aload_n 0, 1) := by decide +kernel
theorem dX5_pay_8 : decode cX5_pay 8 = .ok (.iconst 0, 1) := by decide +kernel
theorem dX5_pay_9 : decode cX5_pay 9 = .ok (.iload_n 2, 1) := by decide +kernel
theorem dX5_pay_10 : decode cX5_pay 10 = .ok (.invokevirtual 74, 3) := by decide +kernel
theorem dX5_pay_13 : decode cX5_pay 13 = .ok (.ifCond .eq 12, 3) := by decide +kernel
theorem dX5_pay_16 : decode cX5_pay 16 = .ok (.aload_n 0, 1) := by decide +kernel
theorem dX5_pay_17 : decode cX5_pay 17 = .ok (.iconst 1, 1) := by decide +kernel
theorem dX5_pay_18 : decode cX5_pay 18 = .ok (.iload_n 3, 1) := by decide +kernel
theorem dX5_pay_19 : decode cX5_pay 19 = .ok (.invokevirtual 74, 3) := by decide +kernel
theorem dX5_pay_22 : decode cX5_pay 22 = .ok (.ifCond .ne 9, 3) := by decide +kernel
theorem dX5_pay_25 : decode cX5_pay 25 = .ok (.aload_n 0, 1) := by decide +kernel
theorem dX5_pay_26 : decode cX5_pay 26 = .ok (.iconst (-1), 1) := by decide +kernel
theorem dX5_pay_27 : decode cX5_pay 27 = .ok (.invokevirtual 78, 3) := by decide +kernel
theorem dX5_pay_30 : decode cX5_pay 30 = .ok (.ireturn, 1) := by decide +kernel
theorem dX5_pay_31 : decode cX5_pay 31 = .ok (.iload 4, 2) := by decide +kernel
theorem dX5_pay_33 : decode cX5_pay 33 = .ok (.bipush (-20), 2) := by decide +kernel
theorem dX5_pay_35 : decode cX5_pay 35 = .ok (.if_icmp .ge 10, 3) := by decide +kernel
theorem dX5_pay_38 : decode cX5_pay 38 = .ok (.aload_n 0, 1) := by decide +kernel
theorem dX5_pay_39 : decode cX5_pay 39 = .ok (.bipush (-4), 2) := by decide +kernel
theorem dX5_pay_41 : decode cX5_pay 41 = .ok (.invokevirtual 78, 3) := by decide +kernel
theorem dX5_pay_44 : decode cX5_pay 44 = .ok (.ireturn, 1) := by decide +kernel
theorem dX5_pay_45 : decode cX5_pay 45 = .ok (.iload 4, 2) := by decide +kernel
theorem dX5_pay_47 : decode cX5_pay 47 = .ok (.bipush 20, 2) := by decide +kernel
theorem dX5_pay_49 : decode cX5_pay 49 = .ok (.if_icmp .le 10, 3) := by decide +kernel
theorem dX5_pay_52 : decode cX5_pay 52 = .ok (.aload_n 0, 1) := by decide +kernel
theorem dX5_pay_53 : decode cX5_pay 53 = .ok (.bipush (-6), 2) := by decide +kernel
theorem dX5_pay_55 : decode cX5_pay 55 = .ok (.invokevirtual 78, 3) := by decide +kernel
theorem dX5_pay_58 : decode cX5_pay 58 = .ok (.ireturn, 1) := by decide +kernel
theorem dX5_pay_59 : decode cX5_pay 59 = .ok (.bipush 16, 2) := by decide +kernel
theorem dX5_pay_61 : decode cX5_pay 61 = .ok (.iload_n 1, 1) := by decide +kernel
theorem dX5_pay_62 : decode cX5_pay 62 = .ok (.imul, 1) := by decide +kernel
theorem dX5_pay_63 : decode cX5_pay 63 = .ok (.iconst 4, 1) := by decide +kernel
theorem dX5_pay_64 : decode cX5_pay 64 = .ok (.iload_n 2, 1) := by decide +kernel
theorem dX5_pay_65 : decode cX5_pay 65 = .ok (.imul, 1) := by decide +kernel
theorem dX5_pay_66 : decode cX5_pay 66 = .ok (.iadd, 1) := by decide +kernel
theorem dX5_pay_67 : decode cX5_pay 67 = .ok (.iload_n 3, 1) := by decide +kernel
theorem dX5_pay_68 : decode cX5_pay 68 = .ok (.iadd, 1) := by decide +kernel
theorem dX5_pay_69 : decode cX5_pay 69 = .ok (.istore 5, 2) := by decide +kernel
theorem dX5_pay_71 : decode cX5_pay 71 = .ok (.aload_n 0, 1) := by decide +kernel
theorem dX5_pay_72 : decode cX5_pay 72 = .ok (.getfield 13, 3) := by decide +kernel
theorem dX5_pay_75 : decode cX5_pay 75 = .ok (.iload 5, 2) := by decide +kernel
theorem dX5_pay_77 : decode cX5_pay 77 = .ok (.iaload, 1) := by decide +kernel
theorem dX5_pay_78 : decode cX5_pay 78 = .ok (.istore 6, 2) := by decide +kernel
theorem dX5_pay_80 : decode cX5_pay 80 = .ok (.aload_n 0, 1) := by decide +kernel
theorem dX5_pay_81 : decode cX5_pay 81 = .ok (.getfield 13, 3) := by decide +kernel
theorem dX5_pay_84 : decode cX5_pay 84 = .ok (.iload 5, 2) := by decide +kernel
theorem dX5_pay_86 : decode cX5_pay 86 = .ok (.iload 4, 2) := by decide +kernel
theorem dX5_pay_88 : decode cX5_pay 88 = .ok (.iastore, 1) := by decide +kernel
theorem dX5_pay_89 : decode cX5_pay 89 = .ok (.iload 6, 2) := by decide +kernel
theorem dX5_pay_91 : decode cX5_pay 91 = .ok (.ireturn, 1) := by decide +kernel
theorem dX5_paid_0 : decode cX5_paid 0 = .ok (.iload_n 1, 1) := by decide +kernel
theorem dX5_paid_1 : decode cX5_paid 1 = .ok (.invokestatic 62, 3) := by decide +kernel
theorem dX5_paid_4 : decode cX5_paid 4 = .ok (.ifCond .eq 39, 3) := by decide +kernel
theorem dX5_paid_7 : decode cX5_paid 7 = .ok (.aload_n 0, 1) := by decide +kernel
theorem dX5_paid_8 : decode cX5_paid 8 = .ok (.iconst 0, 1) := by decide +kernel
theorem dX5_paid_9 : decode cX5_paid 9 = .ok (.iload_n 2, 1) := by decide +kernel
theorem dX5_paid_10 : decode cX5_paid 10 = .ok (.invokevirtual 74, 3) := by decide +kernel
theorem dX5_paid_13 : decode cX5_paid 13 = .ok (.ifCond .eq 30, 3) := by decide +kernel
theorem dX5_paid_16 : decode cX5_paid 16 = .ok (.aload_n 0, 1) := by decide +kernel
theorem dX5_paid_17 : decode cX5_paid 17 = .ok (.iconst 1, 1) := by decide +kernel
theorem dX5_paid_18 : decode cX5_paid 18 = .ok (.iload_n 3, 1) := by decide +kernel
theorem dX5_paid_19 : decode cX5_paid 19 = .ok (.invokevirtual 74, 3) := by decide +kernel
theorem dX5_paid_22 : decode cX5_paid 22 = .ok (.ifCond .eq 21, 3) := by decide +kernel
theorem dX5_paid_25 : decode cX5_paid 25 = .ok (.aload_n 0, 1) := by decide +kernel
theorem dX5_paid_26 : decode cX5_paid 26 = .ok (.getfield 13, 3) := by decide +kernel
theorem dX5_paid_29 : decode cX5_paid 29 = .ok (.bipush 16, 2) := by decide +kernel
theorem dX5_paid_31 : decode cX5_paid 31 = .ok (.iload_n 1, 1) := by decide +kernel
theorem dX5_paid_32 : decode cX5_paid 32 = .ok (.imul, 1) := by decide +kernel
theorem dX5_paid_33 : decode cX5_paid 33 = .ok (.iconst 4, 1) := by decide +kernel
theorem dX5_paid_34 : decode cX5_paid 34 = .ok (.iload_n 2, 1) := by decide +kernel
theorem dX5_paid_35 : decode cX5_paid 35 = .ok (.imul, 1) := by decide +kernel
theorem dX5_paid_36 : decode cX5_paid 36 = .ok (.iadd, 1) := by decide +kernel
theorem dX5_paid_37 : decode cX5_paid 37 = .ok (.iload_n 3, 1) := by decide +kernel
theorem dX5_paid_38 : decode cX5_paid 38 = .ok (.iadd, 1) := by decide +kernel
theorem dX5_paid_39 : decode cX5_paid 39 = .ok (.iaload, 1) := by decide +kernel
theorem dX5_paid_40 : decode cX5_paid 40 = .ok (.goto 8, 3) := by decide +kernel
theorem dX5_paid_43 : decode cX5_paid 43 = .ok (.aload_n 0, 1) := by decide +kernel
theorem dX5_paid_44 : decode cX5_paid 44 = .ok (.iconst (-1), 1) := by decide +kernel
theorem dX5_paid_45 : decode cX5_paid 45 = .ok (.invokevirtual 78, 3) := by decide +kernel
theorem dX5_paid_48 : decode cX5_paid 48 = .ok (.ireturn, 1) := by decide +kernel
theorem dX5_weight_0 : decode cX5_weight 0 = .ok (.iload_n 1, 1) := by decide +kernel
theorem dX5_weight_1 : decode cX5_weight 1 = .ok (.invokestatic 62, 3) := by decide +kernel
theorem dX5_weight_4 : decode cX5_weight 4 = .ok (.ifCond .eq 15, 3) := by decide +kernel
theorem dX5_weight_7 : decode cX5_weight 7 = .ok (.iload_n 2, 1) := by decide +kernel
theorem dX5_weight_8 : decode cX5_weight 8 = .ok (.i2l, 1) := by decide +kernel
theorem dX5_weight_9 : decode cX5_weight 9 = .ok (.lconst 0, 1) := by decide +kernel
theorem dX5_weight_10 : decode cX5_weight 10 = .ok (.ldc2_w 81, 3) := by decide +kernel
theorem dX5_weight_13 : decode cX5_weight 13 = .ok (.invokestatic 66, 3) := by decide +kernel
theorem dX5_weight_16 : decode cX5_weight 16 = .ok (.ifCond .ne 9, 3) := by decide +kernel
theorem dX5_weight_19 : decode cX5_weight 19 = .ok (.aload_n 0, 1) := by decide +kernel
theorem dX5_weight_20 : decode cX5_weight 20 = .ok (.iconst (-1), 1) := by decide +kernel
theorem dX5_weight_21 : decode cX5_weight 21 = .ok (.invokevirtual 70, 3) := by decide +kernel
theorem dX5_weight_24 : decode cX5_weight 24 = .ok (.ireturn, 1) := by decide +kernel
theorem dX5_weight_25 : decode cX5_weight 25 = .ok (.iload_n 3, 1) := by decide +kernel
theorem dX5_weight_26 : decode cX5_weight 26 = .ok (.ifCond .ge 10, 3) := by decide +kernel
theorem dX5_weight_29 : decode cX5_weight 29 = .ok (.aload_n 0, 1) := by decide +kernel
theorem dX5_weight_30 : decode cX5_weight 30 = .ok (.bipush (-4), 2) := by decide +kernel
theorem dX5_weight_32 : decode cX5_weight 32 = .ok (.invokevirtual 70, 3) := by decide +kernel
theorem dX5_weight_35 : decode cX5_weight 35 = .ok (.ireturn, 1) := by decide +kernel
theorem dX5_weight_36 : decode cX5_weight 36 = .ok (.iload_n 3, 1) := by decide +kernel
theorem dX5_weight_37 : decode cX5_weight 37 = .ok (.bipush 99, 2) := by decide +kernel
theorem dX5_weight_39 : decode cX5_weight 39 = .ok (.if_icmp .le 10, 3) := by decide +kernel
theorem dX5_weight_42 : decode cX5_weight 42 = .ok (.aload_n 0, 1) := by decide +kernel
theorem dX5_weight_43 : decode cX5_weight 43 = .ok (.bipush (-6), 2) := by decide +kernel
theorem dX5_weight_45 : decode cX5_weight 45 = .ok (.invokevirtual 70, 3) := by decide +kernel
theorem dX5_weight_48 : decode cX5_weight 48 = .ok (.ireturn, 1) := by decide +kernel
theorem dX5_weight_49 : decode cX5_weight 49 = .ok (.aload_n 0, 1) := by decide +kernel
theorem dX5_weight_50 : decode cX5_weight 50 = .ok (.getfield 16, 3) := by decide +kernel
theorem dX5_weight_53 : decode cX5_weight 53 = .ok (.iconst 4, 1) := by decide +kernel
theorem dX5_weight_54 : decode cX5_weight 54 = .ok (.iload_n 1, 1) := by decide +kernel
theorem dX5_weight_55 : decode cX5_weight 55 = .ok (.imul, 1) := by decide +kernel
theorem dX5_weight_56 : decode cX5_weight 56 = .ok (.iload_n 2, 1) := by decide +kernel
theorem dX5_weight_57 : decode cX5_weight 57 = .ok (.iadd, 1) := by decide +kernel
theorem dX5_weight_58 : decode cX5_weight 58 = .ok (.iaload, 1) := by decide +kernel
theorem dX5_weight_59 : decode cX5_weight 59 = .ok (.istore 4, 2) := by decide +kernel
theorem dX5_weight_61 : decode cX5_weight 61 = .ok (.aload_n 0, 1) := by decide +kernel
theorem dX5_weight_62 : decode cX5_weight 62 = .ok (.getfield 16, 3) := by decide +kernel
theorem dX5_weight_65 : decode cX5_weight 65 = .ok (.iconst 4, 1) := by decide +kernel
theorem dX5_weight_66 : decode cX5_weight 66 = .ok (.iload_n 1, 1) := by decide +kernel
theorem dX5_weight_67 : decode cX5_weight 67 = .ok (.imul, 1) := by decide +kernel
theorem dX5_weight_68 : decode cX5_weight 68 = .ok (.iload_n 2, 1) := by decide +kernel
theorem dX5_weight_69 : decode cX5_weight 69 = .ok (.iadd, 1) := by decide +kernel
theorem dX5_weight_70 : decode cX5_weight 70 = .ok (.iload_n 3, 1) := by decide +kernel
theorem dX5_weight_71 : decode cX5_weight 71 = .ok (.iastore, 1) := by decide +kernel
theorem dX5_weight_72 : decode cX5_weight 72 = .ok (.iload 4, 2) := by decide +kernel
theorem dX5_weight_74 : decode cX5_weight 74 = .ok (.ireturn, 1) := by decide +kernel
theorem dX5_sumOf_0 : decode cX5_sumOf 0 = .ok (.iconst 0, 1) := by decide +kernel
theorem dX5_sumOf_1 : decode cX5_sumOf 1 = .ok (.istore_n 2, 1) := by decide +kernel
theorem dX5_sumOf_2 : decode cX5_sumOf 2 = .ok (.iconst 0, 1) := by decide +kernel
theorem dX5_sumOf_3 : decode cX5_sumOf 3 = .ok (.istore_n 3, 1) := by decide +kernel
theorem dX5_sumOf_4 : decode cX5_sumOf 4 = .ok (.iload_n 3, 1) := by decide +kernel
theorem dX5_sumOf_5 : decode cX5_sumOf 5 = .ok (.aload_n 0, 1) := by decide +kernel
theorem dX5_sumOf_6 : decode cX5_sumOf 6 = .ok (.getfield 7, 3) := by decide +kernel
theorem dX5_sumOf_9 : decode cX5_sumOf 9 = .ok (.iload_n 1, 1) := by decide +kernel
theorem dX5_sumOf_10 : decode cX5_sumOf 10 = .ok (.iaload, 1) := by decide +kernel
theorem dX5_sumOf_11 : decode cX5_sumOf 11 = .ok (.if_icmp .ge 22, 3) := by decide +kernel
theorem dX5_sumOf_14 : decode cX5_sumOf 14 = .ok (.iload_n 2, 1) := by decide +kernel
theorem dX5_sumOf_15 : decode cX5_sumOf 15 = .ok (.aload_n 0, 1) := by decide +kernel
theorem dX5_sumOf_16 : decode cX5_sumOf 16 = .ok (.getfield 16, 3) := by decide +kernel
theorem dX5_sumOf_19 : decode cX5_sumOf 19 = .ok (.iconst 4, 1) := by decide +kernel
theorem dX5_sumOf_20 : decode cX5_sumOf 20 = .ok (.iload_n 1, 1) := by decide +kernel
theorem dX5_sumOf_21 : decode cX5_sumOf 21 = .ok (.imul, 1) := by decide +kernel
theorem dX5_sumOf_22 : decode cX5_sumOf 22 = .ok (.iload_n 3, 1) := by decide +kernel
theorem dX5_sumOf_23 : decode cX5_sumOf 23 = .ok (.iadd, 1) := by decide +kernel
theorem dX5_sumOf_24 : decode cX5_sumOf 24 = .ok (.iaload, 1) := by decide +kernel
theorem dX5_sumOf_25 : decode cX5_sumOf 25 = .ok (.iadd, 1) := by decide +kernel
theorem dX5_sumOf_26 : decode cX5_sumOf 26 = .ok (.istore_n 2, 1) := by decide +kernel
theorem dX5_sumOf_27 : decode cX5_sumOf 27 = .ok (.iinc 3 1, 3) := by decide +kernel
theorem dX5_sumOf_30 : decode cX5_sumOf 30 = .ok (.goto (-26), 3) := by decide +kernel
theorem dX5_sumOf_33 : decode cX5_sumOf 33 = .ok (.iload_n 2, 1) := by decide +kernel
theorem dX5_sumOf_34 : decode cX5_sumOf 34 = .ok (.ireturn, 1) := by decide +kernel
theorem dX5_common_0 : decode cX5_common 0 = .ok (.lload_n 0, 1) := by decide +kernel
theorem dX5_common_1 : decode cX5_common 1 = .ok (.lconst 0, 1) := by decide +kernel
theorem dX5_common_2 : decode cX5_common 2 = .ok (.lcmp, 1) := by decide +kernel
theorem dX5_common_3 : decode cX5_common 3 = .ok (.ifCond .ge 8, 3) := by decide +kernel
theorem dX5_common_6 : decode cX5_common 6 = .ok (.lload_n 0, 1) := by decide +kernel
theorem dX5_common_7 : decode cX5_common 7 = .ok (.lneg, 1) := by decide +kernel
theorem dX5_common_8 : decode cX5_common 8 = .ok (.goto 4, 3) := by decide +kernel
theorem dX5_common_11 : decode cX5_common 11 = .ok (.lload_n 0, 1) := by decide +kernel
theorem dX5_common_12 : decode cX5_common 12 = .ok (.lstore 4, 2) := by decide +kernel
theorem dX5_common_14 : decode cX5_common 14 = .ok (.lload_n 2, 1) := by decide +kernel
theorem dX5_common_15 : decode cX5_common 15 = .ok (.lstore 6, 2) := by decide +kernel
theorem dX5_common_17 : decode cX5_common 17 = .ok (.lload 6, 2) := by decide +kernel
theorem dX5_common_19 : decode cX5_common 19 = .ok (.lconst 0, 1) := by decide +kernel
theorem dX5_common_20 : decode cX5_common 20 = .ok (.lcmp, 1) := by decide +kernel
theorem dX5_common_21 : decode cX5_common 21 = .ok (.ifCond .eq 21, 3) := by decide +kernel
theorem dX5_common_24 : decode cX5_common 24 = .ok (.lload 4, 2) := by decide +kernel
theorem dX5_common_26 : decode cX5_common 26 = .ok (.lload 6, 2) := by decide +kernel
theorem dX5_common_28 : decode cX5_common 28 = .ok (.lrem, 1) := by decide +kernel
theorem dX5_common_29 : decode cX5_common 29 = .ok (.lstore 8, 2) := by decide +kernel
theorem dX5_common_31 : decode cX5_common 31 = .ok (.lload 6, 2) := by decide +kernel
theorem dX5_common_33 : decode cX5_common 33 = .ok (.lstore 4, 2) := by decide +kernel
theorem dX5_common_35 : decode cX5_common 35 = .ok (.lload 8, 2) := by decide +kernel
theorem dX5_common_37 : decode cX5_common 37 = .ok (.lstore 6, 2) := by decide +kernel
theorem dX5_common_39 : decode cX5_common 39 = .ok (.goto (-22), 3) := by decide +kernel
theorem dX5_common_42 : decode cX5_common 42 = .ok (.lload 4, 2) := by decide +kernel
theorem dX5_common_44 : decode cX5_common 44 = .ok (.lreturn, 1) := by decide +kernel
theorem dX5_meanOf_0 : decode cX5_meanOf 0 = .ok (.lconst 0, 1) := by decide +kernel
theorem dX5_meanOf_1 : decode cX5_meanOf 1 = .ok (.lstore 6, 2) := by decide +kernel
theorem dX5_meanOf_3 : decode cX5_meanOf 3 = .ok (.iconst 0, 1) := by decide +kernel
theorem dX5_meanOf_4 : decode cX5_meanOf 4 = .ok (.istore 8, 2) := by decide +kernel
theorem dX5_meanOf_6 : decode cX5_meanOf 6 = .ok (.iload 8, 2) := by decide +kernel
theorem dX5_meanOf_8 : decode cX5_meanOf 8 = .ok (.aload_n 0, 1) := by decide +kernel
theorem dX5_meanOf_9 : decode cX5_meanOf 9 = .ok (.getfield 7, 3) := by decide +kernel
theorem dX5_meanOf_12 : decode cX5_meanOf 12 = .ok (.iconst 0, 1) := by decide +kernel
theorem dX5_meanOf_13 : decode cX5_meanOf 13 = .ok (.iaload, 1) := by decide +kernel
theorem dX5_meanOf_14 : decode cX5_meanOf 14 = .ok (.if_icmp .ge 68, 3) := by decide +kernel
theorem dX5_meanOf_17 : decode cX5_meanOf 17 = .ok (.iconst 0, 1) := by decide +kernel
theorem dX5_meanOf_18 : decode cX5_meanOf 18 = .ok (.istore 9, 2) := by decide +kernel
theorem dX5_meanOf_20 : decode cX5_meanOf 20 = .ok (.iload 9, 2) := by decide +kernel
theorem dX5_meanOf_22 : decode cX5_meanOf 22 = .ok (.aload_n 0, 1) := by decide +kernel
theorem dX5_meanOf_23 : decode cX5_meanOf 23 = .ok (.getfield 7, 3) := by decide +kernel
theorem dX5_meanOf_26 : decode cX5_meanOf 26 = .ok (.iconst 1, 1) := by decide +kernel
theorem dX5_meanOf_27 : decode cX5_meanOf 27 = .ok (.iaload, 1) := by decide +kernel
theorem dX5_meanOf_28 : decode cX5_meanOf 28 = .ok (.if_icmp .ge 48, 3) := by decide +kernel
theorem dX5_meanOf_31 : decode cX5_meanOf 31 = .ok (.lload 6, 2) := by decide +kernel
theorem dX5_meanOf_33 : decode cX5_meanOf 33 = .ok (.aload_n 2, 1) := by decide +kernel
theorem dX5_meanOf_34 : decode cX5_meanOf 34 = .ok (.iload_n 3, 1) := by decide +kernel
theorem dX5_meanOf_35 : decode cX5_meanOf 35 = .ok (.iload 8, 2) := by decide +kernel
theorem dX5_meanOf_37 : decode cX5_meanOf 37 = .ok (.iadd, 1) := by decide +kernel
theorem dX5_meanOf_38 : decode cX5_meanOf 38 = .ok (.laload, 1) := by decide +kernel
theorem dX5_meanOf_39 : decode cX5_meanOf 39 = .ok (.aload 4, 2) := by decide +kernel
theorem dX5_meanOf_41 : decode cX5_meanOf 41 = .ok (.iload 5, 2) := by decide +kernel
theorem dX5_meanOf_43 : decode cX5_meanOf 43 = .ok (.iload 9, 2) := by decide +kernel
theorem dX5_meanOf_45 : decode cX5_meanOf 45 = .ok (.iadd, 1) := by decide +kernel
theorem dX5_meanOf_46 : decode cX5_meanOf 46 = .ok (.laload, 1) := by decide +kernel
theorem dX5_meanOf_47 : decode cX5_meanOf 47 = .ok (.lmul, 1) := by decide +kernel
theorem dX5_meanOf_48 : decode cX5_meanOf 48 = .ok (.aload_n 0, 1) := by decide +kernel
theorem dX5_meanOf_49 : decode cX5_meanOf 49 = .ok (.getfield 13, 3) := by decide +kernel
theorem dX5_meanOf_52 : decode cX5_meanOf 52 = .ok (.bipush 16, 2) := by decide +kernel
theorem dX5_meanOf_54 : decode cX5_meanOf 54 = .ok (.iload_n 1, 1) := by decide +kernel
theorem dX5_meanOf_55 : decode cX5_meanOf 55 = .ok (.imul, 1) := by decide +kernel
theorem dX5_meanOf_56 : decode cX5_meanOf 56 = .ok (.iconst 4, 1) := by decide +kernel
theorem dX5_meanOf_57 : decode cX5_meanOf 57 = .ok (.iload 8, 2) := by decide +kernel
theorem dX5_meanOf_59 : decode cX5_meanOf 59 = .ok (.imul, 1) := by decide +kernel
theorem dX5_meanOf_60 : decode cX5_meanOf 60 = .ok (.iadd, 1) := by decide +kernel
theorem dX5_meanOf_61 : decode cX5_meanOf 61 = .ok (.iload 9, 2) := by decide +kernel
theorem dX5_meanOf_63 : decode cX5_meanOf 63 = .ok (.iadd, 1) := by decide +kernel
theorem dX5_meanOf_64 : decode cX5_meanOf 64 = .ok (.iaload, 1) := by decide +kernel
theorem dX5_meanOf_65 : decode cX5_meanOf 65 = .ok (.i2l, 1) := by decide +kernel
theorem dX5_meanOf_66 : decode cX5_meanOf 66 = .ok (.lmul, 1) := by decide +kernel
theorem dX5_meanOf_67 : decode cX5_meanOf 67 = .ok (.ladd, 1) := by decide +kernel
theorem dX5_meanOf_68 : decode cX5_meanOf 68 = .ok (.lstore 6, 2) := by decide +kernel
theorem dX5_meanOf_70 : decode cX5_meanOf 70 = .ok (.iinc 9 1, 3) := by decide +kernel
theorem dX5_meanOf_73 : decode cX5_meanOf 73 = .ok (.goto (-53), 3) := by decide +kernel
theorem dX5_meanOf_76 : decode cX5_meanOf 76 = .ok (.iinc 8 1, 3) := by decide +kernel
theorem dX5_meanOf_79 : decode cX5_meanOf 79 = .ok (.goto (-73), 3) := by decide +kernel
theorem dX5_meanOf_82 : decode cX5_meanOf 82 = .ok (.lload 6, 2) := by decide +kernel
theorem dX5_meanOf_84 : decode cX5_meanOf 84 = .ok (.lreturn, 1) := by decide +kernel
theorem dX5_showTray_0 : decode cX5_showTray 0 = .ok (.iconst 0, 1) := by decide +kernel
theorem dX5_showTray_1 : decode cX5_showTray 1 = .ok (.istore_n 1, 1) := by decide +kernel
theorem dX5_showTray_2 : decode cX5_showTray 2 = .ok (.iload_n 1, 1) := by decide +kernel
theorem dX5_showTray_3 : decode cX5_showTray 3 = .ok (.iconst 4, 1) := by decide +kernel
theorem dX5_showTray_4 : decode cX5_showTray 4 = .ok (.if_icmp .ge 65, 3) := by decide +kernel
theorem dX5_showTray_7 : decode cX5_showTray 7 = .ok (.aload_n 0, 1) := by decide +kernel
theorem dX5_showTray_8 : decode cX5_showTray 8 = .ok (.getfield 22, 3) := by decide +kernel
theorem dX5_showTray_11 : decode cX5_showTray 11 = .ok (.iload_n 1, 1) := by decide +kernel
theorem dX5_showTray_12 : decode cX5_showTray 12 = .ok (.iload_n 1, 1) := by decide +kernel
theorem dX5_showTray_13 : decode cX5_showTray 13 = .ok (.aload_n 0, 1) := by decide +kernel
theorem dX5_showTray_14 : decode cX5_showTray 14 = .ok (.getfield 7, 3) := by decide +kernel
theorem dX5_showTray_17 : decode cX5_showTray 17 = .ok (.iconst 0, 1) := by decide +kernel
theorem dX5_showTray_18 : decode cX5_showTray 18 = .ok (.iaload, 1) := by decide +kernel
theorem dX5_showTray_19 : decode cX5_showTray 19 = .ok (.if_icmp .ge 13, 3) := by decide +kernel
theorem dX5_showTray_22 : decode cX5_showTray 22 = .ok (.aload_n 0, 1) := by decide +kernel
theorem dX5_showTray_23 : decode cX5_showTray 23 = .ok (.getfield 16, 3) := by decide +kernel
theorem dX5_showTray_26 : decode cX5_showTray 26 = .ok (.iload_n 1, 1) := by decide +kernel
theorem dX5_showTray_27 : decode cX5_showTray 27 = .ok (.iaload, 1) := by decide +kernel
theorem dX5_showTray_28 : decode cX5_showTray 28 = .ok (.i2l, 1) := by decide +kernel
theorem dX5_showTray_29 : decode cX5_showTray 29 = .ok (.goto 4, 3) := by decide +kernel
theorem dX5_showTray_32 : decode cX5_showTray 32 = .ok (.lconst 0, 1) := by decide +kernel
theorem dX5_showTray_33 : decode cX5_showTray 33 = .ok (.lastore, 1) := by decide +kernel
theorem dX5_showTray_34 : decode cX5_showTray 34 = .ok (.aload_n 0, 1) := by decide +kernel
theorem dX5_showTray_35 : decode cX5_showTray 35 = .ok (.getfield 26, 3) := by decide +kernel
theorem dX5_showTray_38 : decode cX5_showTray 38 = .ok (.iload_n 1, 1) := by decide +kernel
theorem dX5_showTray_39 : decode cX5_showTray 39 = .ok (.iload_n 1, 1) := by decide +kernel
theorem dX5_showTray_40 : decode cX5_showTray 40 = .ok (.aload_n 0, 1) := by decide +kernel
theorem dX5_showTray_41 : decode cX5_showTray 41 = .ok (.getfield 7, 3) := by decide +kernel
theorem dX5_showTray_44 : decode cX5_showTray 44 = .ok (.iconst 1, 1) := by decide +kernel
theorem dX5_showTray_45 : decode cX5_showTray 45 = .ok (.iaload, 1) := by decide +kernel
theorem dX5_showTray_46 : decode cX5_showTray 46 = .ok (.if_icmp .ge 15, 3) := by decide +kernel
theorem dX5_showTray_49 : decode cX5_showTray 49 = .ok (.aload_n 0, 1) := by decide +kernel
theorem dX5_showTray_50 : decode cX5_showTray 50 = .ok (.getfield 16, 3) := by decide +kernel
theorem dX5_showTray_53 : decode cX5_showTray 53 = .ok (.iconst 4, 1) := by decide +kernel
theorem dX5_showTray_54 : decode cX5_showTray 54 = .ok (.iload_n 1, 1) := by decide +kernel
theorem dX5_showTray_55 : decode cX5_showTray 55 = .ok (.iadd, 1) := by decide +kernel
theorem dX5_showTray_56 : decode cX5_showTray 56 = .ok (.iaload, 1) := by decide +kernel
theorem dX5_showTray_57 : decode cX5_showTray 57 = .ok (.i2l, 1) := by decide +kernel
theorem dX5_showTray_58 : decode cX5_showTray 58 = .ok (.goto 4, 3) := by decide +kernel
theorem dX5_showTray_61 : decode cX5_showTray 61 = .ok (.lconst 0, 1) := by decide +kernel
theorem dX5_showTray_62 : decode cX5_showTray 62 = .ok (.lastore, 1) := by decide +kernel
theorem dX5_showTray_63 : decode cX5_showTray 63 = .ok (.iinc 1 1, 3) := by decide +kernel
theorem dX5_showTray_66 : decode cX5_showTray 66 = .ok (.goto (-64), 3) := by decide +kernel
theorem dX5_showTray_69 : decode cX5_showTray 69 = .ok (.return_, 1) := by decide +kernel
theorem dX5_mean_0 : decode cX5_mean 0 = .ok (.iload_n 1, 1) := by decide +kernel
theorem dX5_mean_1 : decode cX5_mean 1 = .ok (.invokestatic 62, 3) := by decide +kernel
theorem dX5_mean_4 : decode cX5_mean 4 = .ok (.ifCond .ne 9, 3) := by decide +kernel
theorem dX5_mean_7 : decode cX5_mean 7 = .ok (.aload_n 0, 1) := by decide +kernel
theorem dX5_mean_8 : decode cX5_mean 8 = .ok (.iconst (-1), 1) := by decide +kernel
theorem dX5_mean_9 : decode cX5_mean 9 = .ok (.invokevirtual 83, 3) := by decide +kernel
theorem dX5_mean_12 : decode cX5_mean 12 = .ok (.lreturn, 1) := by decide +kernel
theorem dX5_mean_13 : decode cX5_mean 13 = .ok (.iload_n 2, 1) := by decide +kernel
theorem dX5_mean_14 : decode cX5_mean 14 = .ok (.i2l, 1) := by decide +kernel
theorem dX5_mean_15 : decode cX5_mean 15 = .ok (.lconst 0, 1) := by decide +kernel
theorem dX5_mean_16 : decode cX5_mean 16 = .ok (.lconst 1, 1) := by decide +kernel
theorem dX5_mean_17 : decode cX5_mean 17 = .ok (.invokestatic 66, 3) := by decide +kernel
theorem dX5_mean_20 : decode cX5_mean 20 = .ok (.ifCond .ne 10, 3) := by decide +kernel
theorem dX5_mean_23 : decode cX5_mean 23 = .ok (.aload_n 0, 1) := by decide +kernel
theorem dX5_mean_24 : decode cX5_mean 24 = .ok (.bipush (-2), 2) := by decide +kernel
theorem dX5_mean_26 : decode cX5_mean 26 = .ok (.invokevirtual 83, 3) := by decide +kernel
theorem dX5_mean_29 : decode cX5_mean 29 = .ok (.lreturn, 1) := by decide +kernel
theorem dX5_mean_30 : decode cX5_mean 30 = .ok (.aload_n 0, 1) := by decide +kernel
theorem dX5_mean_31 : decode cX5_mean 31 = .ok (.iconst 0, 1) := by decide +kernel
theorem dX5_mean_32 : decode cX5_mean 32 = .ok (.invokevirtual 87, 3) := by decide +kernel
theorem dX5_mean_35 : decode cX5_mean 35 = .ok (.ifCond .eq 11, 3) := by decide +kernel
theorem dX5_mean_38 : decode cX5_mean 38 = .ok (.aload_n 0, 1) := by decide +kernel
theorem dX5_mean_39 : decode cX5_mean 39 = .ok (.iconst 1, 1) := by decide +kernel
theorem dX5_mean_40 : decode cX5_mean 40 = .ok (.invokevirtual 87, 3) := by decide +kernel
theorem dX5_mean_43 : decode cX5_mean 43 = .ok (.ifCond .ne 10, 3) := by decide +kernel
theorem dX5_mean_46 : decode cX5_mean 46 = .ok (.aload_n 0, 1) := by decide +kernel
theorem dX5_mean_47 : decode cX5_mean 47 = .ok (.bipush (-5), 2) := by decide +kernel
theorem dX5_mean_49 : decode cX5_mean 49 = .ok (.invokevirtual 83, 3) := by decide +kernel
theorem dX5_mean_52 : decode cX5_mean 52 = .ok (.lreturn, 1) := by decide +kernel
theorem dX5_mean_53 : decode cX5_mean 53 = .ok (.aload_n 0, 1) := by decide +kernel
theorem dX5_mean_54 : decode cX5_mean 54 = .ok (.invokevirtual 90, 3) := by decide +kernel
theorem dX5_mean_57 : decode cX5_mean 57 = .ok (.aload_n 0, 1) := by decide +kernel
theorem dX5_mean_58 : decode cX5_mean 58 = .ok (.iload_n 1, 1) := by decide +kernel
theorem dX5_mean_59 : decode cX5_mean 59 = .ok (.aload_n 0, 1) := by decide +kernel
theorem dX5_mean_60 : decode cX5_mean 60 = .ok (.getfield 22, 3) := by decide +kernel
theorem dX5_mean_63 : decode cX5_mean 63 = .ok (.iconst 0, 1) := by decide +kernel
theorem dX5_mean_64 : decode cX5_mean 64 = .ok (.aload_n 0, 1) := by decide +kernel
theorem dX5_mean_65 : decode cX5_mean 65 = .ok (.getfield 26, 3) := by decide +kernel
theorem dX5_mean_68 : decode cX5_mean 68 = .ok (.iconst 0, 1) := by decide +kernel
theorem dX5_mean_69 : decode cX5_mean 69 = .ok (.invokevirtual 93, 3) := by decide +kernel
theorem dX5_mean_72 : decode cX5_mean 72 = .ok (.lstore_n 3, 1) := by decide +kernel
theorem dX5_mean_73 : decode cX5_mean 73 = .ok (.aload_n 0, 1) := by decide +kernel
theorem dX5_mean_74 : decode cX5_mean 74 = .ok (.iconst 0, 1) := by decide +kernel
theorem dX5_mean_75 : decode cX5_mean 75 = .ok (.invokevirtual 87, 3) := by decide +kernel
theorem dX5_mean_78 : decode cX5_mean 78 = .ok (.i2l, 1) := by decide +kernel
theorem dX5_mean_79 : decode cX5_mean 79 = .ok (.aload_n 0, 1) := by decide +kernel
theorem dX5_mean_80 : decode cX5_mean 80 = .ok (.iconst 1, 1) := by decide +kernel
theorem dX5_mean_81 : decode cX5_mean 81 = .ok (.invokevirtual 87, 3) := by decide +kernel
theorem dX5_mean_84 : decode cX5_mean 84 = .ok (.i2l, 1) := by decide +kernel
theorem dX5_mean_85 : decode cX5_mean 85 = .ok (.lmul, 1) := by decide +kernel
theorem dX5_mean_86 : decode cX5_mean 86 = .ok (.lstore 5, 2) := by decide +kernel
theorem dX5_mean_88 : decode cX5_mean 88 = .ok (.lload_n 3, 1) := by decide +kernel
theorem dX5_mean_89 : decode cX5_mean 89 = .ok (.lload 5, 2) := by decide +kernel
theorem dX5_mean_91 : decode cX5_mean 91 = .ok (.invokestatic 97, 3) := by decide +kernel
theorem dX5_mean_94 : decode cX5_mean 94 = .ok (.lstore 7, 2) := by decide +kernel
theorem dX5_mean_96 : decode cX5_mean 96 = .ok (.iload_n 2, 1) := by decide +kernel
theorem dX5_mean_97 : decode cX5_mean 97 = .ok (.ifCond .ne 10, 3) := by decide +kernel
theorem dX5_mean_100 : decode cX5_mean 100 = .ok (.lload_n 3, 1) := by decide +kernel
theorem dX5_mean_101 : decode cX5_mean 101 = .ok (.lload 7, 2) := by decide +kernel
theorem dX5_mean_103 : decode cX5_mean 103 = .ok (.ldiv, 1) := by decide +kernel
theorem dX5_mean_104 : decode cX5_mean 104 = .ok (.goto 8, 3) := by decide +kernel
theorem dX5_mean_107 : decode cX5_mean 107 = .ok (.lload 5, 2) := by decide +kernel
theorem dX5_mean_109 : decode cX5_mean 109 = .ok (.lload 7, 2) := by decide +kernel
theorem dX5_mean_111 : decode cX5_mean 111 = .ok (.ldiv, 1) := by decide +kernel
theorem dX5_mean_112 : decode cX5_mean 112 = .ok (.lreturn, 1) := by decide +kernel
theorem dX5_answersTo_0 : decode cX5_answersTo 0 = .ok (.iconst 0, 1) := by decide +kernel
theorem dX5_answersTo_1 : decode cX5_answersTo 1 = .ok (.istore 4, 2) := by decide +kernel
theorem dX5_answersTo_3 : decode cX5_answersTo 3 = .ok (.lconst 0, 1) := by decide +kernel
theorem dX5_answersTo_4 : decode cX5_answersTo 4 = .ok (.lstore 5, 2) := by decide +kernel
theorem dX5_answersTo_6 : decode cX5_answersTo 6 = .ok (.iconst 0, 1) := by decide +kernel
theorem dX5_answersTo_7 : decode cX5_answersTo 7 = .ok (.istore 7, 2) := by decide +kernel
theorem dX5_answersTo_9 : decode cX5_answersTo 9 = .ok (.iload 7, 2) := by decide +kernel
theorem dX5_answersTo_11 : decode cX5_answersTo 11 = .ok (.aload_n 0, 1) := by decide +kernel
theorem dX5_answersTo_12 : decode cX5_answersTo 12 = .ok (.getfield 7, 3) := by decide +kernel
theorem dX5_answersTo_15 : decode cX5_answersTo 15 = .ok (.iload_n 1, 1) := by decide +kernel
theorem dX5_answersTo_16 : decode cX5_answersTo 16 = .ok (.iaload, 1) := by decide +kernel
theorem dX5_answersTo_17 : decode cX5_answersTo 17 = .ok (.if_icmp .ge 125, 3) := by decide +kernel
theorem dX5_answersTo_20 : decode cX5_answersTo 20 = .ok (.lconst 0, 1) := by decide +kernel
theorem dX5_answersTo_21 : decode cX5_answersTo 21 = .ok (.lstore 8, 2) := by decide +kernel
theorem dX5_answersTo_23 : decode cX5_answersTo 23 = .ok (.iconst 0, 1) := by decide +kernel
theorem dX5_answersTo_24 : decode cX5_answersTo 24 = .ok (.istore 10, 2) := by decide +kernel
theorem dX5_answersTo_26 : decode cX5_answersTo 26 = .ok (.iload 10, 2) := by decide +kernel
theorem dX5_answersTo_28 : decode cX5_answersTo 28 = .ok (.aload_n 0, 1) := by decide +kernel
theorem dX5_answersTo_29 : decode cX5_answersTo 29 = .ok (.getfield 7, 3) := by decide +kernel
theorem dX5_answersTo_32 : decode cX5_answersTo 32 = .ok (.iconst 1, 1) := by decide +kernel
theorem dX5_answersTo_33 : decode cX5_answersTo 33 = .ok (.iload_n 1, 1) := by decide +kernel
theorem dX5_answersTo_34 : decode cX5_answersTo 34 = .ok (.isub, 1) := by decide +kernel
theorem dX5_answersTo_35 : decode cX5_answersTo 35 = .ok (.iaload, 1) := by decide +kernel
theorem dX5_answersTo_36 : decode cX5_answersTo 36 = .ok (.if_icmp .ge 31, 3) := by decide +kernel
theorem dX5_answersTo_39 : decode cX5_answersTo 39 = .ok (.lload 8, 2) := by decide +kernel
theorem dX5_answersTo_41 : decode cX5_answersTo 41 = .ok (.aload_n 2, 1) := by decide +kernel
theorem dX5_answersTo_42 : decode cX5_answersTo 42 = .ok (.iload_n 3, 1) := by decide +kernel
theorem dX5_answersTo_43 : decode cX5_answersTo 43 = .ok (.iload 10, 2) := by decide +kernel
theorem dX5_answersTo_45 : decode cX5_answersTo 45 = .ok (.iadd, 1) := by decide +kernel
theorem dX5_answersTo_46 : decode cX5_answersTo 46 = .ok (.laload, 1) := by decide +kernel
theorem dX5_answersTo_47 : decode cX5_answersTo 47 = .ok (.aload_n 0, 1) := by decide +kernel
theorem dX5_answersTo_48 : decode cX5_answersTo 48 = .ok (.iload_n 1, 1) := by decide +kernel
theorem dX5_answersTo_49 : decode cX5_answersTo 49 = .ok (.iload 7, 2) := by decide +kernel
theorem dX5_answersTo_51 : decode cX5_answersTo 51 = .ok (.iload 10, 2) := by decide +kernel
theorem dX5_answersTo_53 : decode cX5_answersTo 53 = .ok (.invokevirtual 101, 3) := by decide +kernel
theorem dX5_answersTo_56 : decode cX5_answersTo 56 = .ok (.i2l, 1) := by decide +kernel
theorem dX5_answersTo_57 : decode cX5_answersTo 57 = .ok (.lmul, 1) := by decide +kernel
theorem dX5_answersTo_58 : decode cX5_answersTo 58 = .ok (.ladd, 1) := by decide +kernel
theorem dX5_answersTo_59 : decode cX5_answersTo 59 = .ok (.lstore 8, 2) := by decide +kernel
theorem dX5_answersTo_61 : decode cX5_answersTo 61 = .ok (.iinc 10 1, 3) := by decide +kernel
theorem dX5_answersTo_64 : decode cX5_answersTo 64 = .ok (.goto (-38), 3) := by decide +kernel
theorem dX5_answersTo_67 : decode cX5_answersTo 67 = .ok (.iload 7, 2) := by decide +kernel
theorem dX5_answersTo_69 : decode cX5_answersTo 69 = .ok (.ifCond .le 16, 3) := by decide +kernel
theorem dX5_answersTo_72 : decode cX5_answersTo 72 = .ok (.lload 8, 2) := by decide +kernel
theorem dX5_answersTo_74 : decode cX5_answersTo 74 = .ok (.lload 5, 2) := by decide +kernel
theorem dX5_answersTo_76 : decode cX5_answersTo 76 = .ok (.lcmp, 1) := by decide +kernel
theorem dX5_answersTo_77 : decode cX5_answersTo 77 = .ok (.ifCond .ge 8, 3) := by decide +kernel
theorem dX5_answersTo_80 : decode cX5_answersTo 80 = .ok (.iload 4, 2) := by decide +kernel
theorem dX5_answersTo_82 : decode cX5_answersTo 82 = .ok (.goto 30, 3) := by decide +kernel
theorem dX5_answersTo_85 : decode cX5_answersTo 85 = .ok (.iload 7, 2) := by decide +kernel
theorem dX5_answersTo_87 : decode cX5_answersTo 87 = .ok (.ifCond .eq 11, 3) := by decide +kernel
theorem dX5_answersTo_90 : decode cX5_answersTo 90 = .ok (.lload 8, 2) := by decide +kernel
theorem dX5_answersTo_92 : decode cX5_answersTo 92 = .ok (.lload 5, 2) := by decide +kernel
theorem dX5_answersTo_94 : decode cX5_answersTo 94 = .ok (.lcmp, 1) := by decide +kernel
theorem dX5_answersTo_95 : decode cX5_answersTo 95 = .ok (.ifCond .le 10, 3) := by decide +kernel
theorem dX5_answersTo_98 : decode cX5_answersTo 98 = .ok (.iconst 1, 1) := by decide +kernel
theorem dX5_answersTo_99 : decode cX5_answersTo 99 = .ok (.iload 7, 2) := by decide +kernel
theorem dX5_answersTo_101 : decode cX5_answersTo 101 = .ok (.ishl, 1) := by decide +kernel
theorem dX5_answersTo_102 : decode cX5_answersTo 102 = .ok (.goto 10, 3) := by decide +kernel
theorem dX5_answersTo_105 : decode cX5_answersTo 105 = .ok (.iload 4, 2) := by decide +kernel
theorem dX5_answersTo_107 : decode cX5_answersTo 107 = .ok (.iconst 1, 1) := by decide +kernel
theorem dX5_answersTo_108 : decode cX5_answersTo 108 = .ok (.iload 7, 2) := by decide +kernel
theorem dX5_answersTo_110 : decode cX5_answersTo 110 = .ok (.ishl, 1) := by decide +kernel
theorem dX5_answersTo_111 : decode cX5_answersTo 111 = .ok (.ior, 1) := by decide +kernel
theorem dX5_answersTo_112 : decode cX5_answersTo 112 = .ok (.istore 4, 2) := by decide +kernel
theorem dX5_answersTo_114 : decode cX5_answersTo 114 = .ok (.iload 7, 2) := by decide +kernel
theorem dX5_answersTo_116 : decode cX5_answersTo 116 = .ok (.ifCond .eq 11, 3) := by decide +kernel
theorem dX5_answersTo_119 : decode cX5_answersTo 119 = .ok (.lload 8, 2) := by decide +kernel
theorem dX5_answersTo_121 : decode cX5_answersTo 121 = .ok (.lload 5, 2) := by decide +kernel
theorem dX5_answersTo_123 : decode cX5_answersTo 123 = .ok (.lcmp, 1) := by decide +kernel
theorem dX5_answersTo_124 : decode cX5_answersTo 124 = .ok (.ifCond .le 8, 3) := by decide +kernel
theorem dX5_answersTo_127 : decode cX5_answersTo 127 = .ok (.lload 8, 2) := by decide +kernel
theorem dX5_answersTo_129 : decode cX5_answersTo 129 = .ok (.goto 5, 3) := by decide +kernel
theorem dX5_answersTo_132 : decode cX5_answersTo 132 = .ok (.lload 5, 2) := by decide +kernel
theorem dX5_answersTo_134 : decode cX5_answersTo 134 = .ok (.lstore 5, 2) := by decide +kernel
theorem dX5_answersTo_136 : decode cX5_answersTo 136 = .ok (.iinc 7 1, 3) := by decide +kernel
theorem dX5_answersTo_139 : decode cX5_answersTo 139 = .ok (.goto (-130), 3) := by decide +kernel
theorem dX5_answersTo_142 : decode cX5_answersTo 142 = .ok (.iload 4, 2) := by decide +kernel
theorem dX5_answersTo_144 : decode cX5_answersTo 144 = .ok (.ireturn, 1) := by decide +kernel
theorem dX5_trayAnswers_0 : decode cX5_trayAnswers 0 = .ok (.aload_n 0, 1) := by decide +kernel
theorem dX5_trayAnswers_1 : decode cX5_trayAnswers 1 = .ok (.invokevirtual 90, 3) := by decide +kernel
theorem dX5_trayAnswers_4 : decode cX5_trayAnswers 4 = .ok (.iload_n 1, 1) := by decide +kernel
theorem dX5_trayAnswers_5 : decode cX5_trayAnswers 5 = .ok (.ifCond .ne 16, 3) := by decide +kernel
theorem dX5_trayAnswers_8 : decode cX5_trayAnswers 8 = .ok (.aload_n 0, 1) := by decide +kernel
theorem dX5_trayAnswers_9 : decode cX5_trayAnswers 9 = .ok (.iconst 0, 1) := by decide +kernel
theorem dX5_trayAnswers_10 : decode cX5_trayAnswers 10 = .ok (.aload_n 0, 1) := by decide +kernel
theorem dX5_trayAnswers_11 : decode cX5_trayAnswers 11 = .ok (.getfield 26, 3) := by decide +kernel
theorem dX5_trayAnswers_14 : decode cX5_trayAnswers 14 = .ok (.iconst 0, 1) := by decide +kernel
theorem dX5_trayAnswers_15 : decode cX5_trayAnswers 15 = .ok (.invokevirtual 105, 3) := by decide +kernel
theorem dX5_trayAnswers_18 : decode cX5_trayAnswers 18 = .ok (.goto 13, 3) := by decide +kernel
theorem dX5_trayAnswers_21 : decode cX5_trayAnswers 21 = .ok (.aload_n 0, 1) := by decide +kernel
theorem dX5_trayAnswers_22 : decode cX5_trayAnswers 22 = .ok (.iconst 1, 1) := by decide +kernel
theorem dX5_trayAnswers_23 : decode cX5_trayAnswers 23 = .ok (.aload_n 0, 1) := by decide +kernel
theorem dX5_trayAnswers_24 : decode cX5_trayAnswers 24 = .ok (.getfield 22, 3) := by decide +kernel
theorem dX5_trayAnswers_27 : decode cX5_trayAnswers 27 = .ok (.iconst 0, 1) := by decide +kernel
theorem dX5_trayAnswers_28 : decode cX5_trayAnswers 28 = .ok (.invokevirtual 105, 3) := by decide +kernel
theorem dX5_trayAnswers_31 : decode cX5_trayAnswers 31 = .ok (.ireturn, 1) := by decide +kernel
theorem dX5_answers_0 : decode cX5_answers 0 = .ok (.iload_n 1, 1) := by decide +kernel
theorem dX5_answers_1 : decode cX5_answers 1 = .ok (.invokestatic 62, 3) := by decide +kernel
theorem dX5_answers_4 : decode cX5_answers 4 = .ok (.ifCond .ne 9, 3) := by decide +kernel
theorem dX5_answers_7 : decode cX5_answers 7 = .ok (.aload_n 0, 1) := by decide +kernel
theorem dX5_answers_8 : decode cX5_answers 8 = .ok (.iconst (-1), 1) := by decide +kernel
theorem dX5_answers_9 : decode cX5_answers 9 = .ok (.invokevirtual 70, 3) := by decide +kernel
theorem dX5_answers_12 : decode cX5_answers 12 = .ok (.ireturn, 1) := by decide +kernel
theorem dX5_answers_13 : decode cX5_answers 13 = .ok (.aload_n 0, 1) := by decide +kernel
theorem dX5_answers_14 : decode cX5_answers 14 = .ok (.iconst 1, 1) := by decide +kernel
theorem dX5_answers_15 : decode cX5_answers 15 = .ok (.iload_n 1, 1) := by decide +kernel
theorem dX5_answers_16 : decode cX5_answers 16 = .ok (.isub, 1) := by decide +kernel
theorem dX5_answers_17 : decode cX5_answers 17 = .ok (.invokevirtual 87, 3) := by decide +kernel
theorem dX5_answers_20 : decode cX5_answers 20 = .ok (.ifCond .ne 12, 3) := by decide +kernel
theorem dX5_answers_23 : decode cX5_answers 23 = .ok (.aload_n 0, 1) := by decide +kernel
theorem dX5_answers_24 : decode cX5_answers 24 = .ok (.bipush (-5), 2) := by decide +kernel
theorem dX5_answers_26 : decode cX5_answers 26 = .ok (.invokevirtual 70, 3) := by decide +kernel
theorem dX5_answers_29 : decode cX5_answers 29 = .ok (.goto 8, 3) := by decide +kernel
theorem dX5_answers_32 : decode cX5_answers 32 = .ok (.aload_n 0, 1) := by decide +kernel
theorem dX5_answers_33 : decode cX5_answers 33 = .ok (.iload_n 1, 1) := by decide +kernel
theorem dX5_answers_34 : decode cX5_answers 34 = .ok (.invokevirtual 109, 3) := by decide +kernel
theorem dX5_answers_37 : decode cX5_answers 37 = .ok (.ireturn, 1) := by decide +kernel
theorem dX5_whyNot_0 : decode cX5_whyNot 0 = .ok (.iconst 0, 1) := by decide +kernel
theorem dX5_whyNot_1 : decode cX5_whyNot 1 = .ok (.istore_n 1, 1) := by decide +kernel
theorem dX5_whyNot_2 : decode cX5_whyNot 2 = .ok (.iload_n 1, 1) := by decide +kernel
theorem dX5_whyNot_3 : decode cX5_whyNot 3 = .ok (.iconst 2, 1) := by decide +kernel
theorem dX5_whyNot_4 : decode cX5_whyNot 4 = .ok (.if_icmp .ge 61, 3) := by decide +kernel
theorem dX5_whyNot_7 : decode cX5_whyNot 7 = .ok (.aload_n 0, 1) := by decide +kernel
theorem dX5_whyNot_8 : decode cX5_whyNot 8 = .ok (.iload_n 1, 1) := by decide +kernel
theorem dX5_whyNot_9 : decode cX5_whyNot 9 = .ok (.invokevirtual 109, 3) := by decide +kernel
theorem dX5_whyNot_12 : decode cX5_whyNot 12 = .ok (.istore_n 2, 1) := by decide +kernel
theorem dX5_whyNot_13 : decode cX5_whyNot 13 = .ok (.iconst 0, 1) := by decide +kernel
theorem dX5_whyNot_14 : decode cX5_whyNot 14 = .ok (.istore_n 3, 1) := by decide +kernel
theorem dX5_whyNot_15 : decode cX5_whyNot 15 = .ok (.iload_n 3, 1) := by decide +kernel
theorem dX5_whyNot_16 : decode cX5_whyNot 16 = .ok (.aload_n 0, 1) := by decide +kernel
theorem dX5_whyNot_17 : decode cX5_whyNot 17 = .ok (.getfield 7, 3) := by decide +kernel
theorem dX5_whyNot_20 : decode cX5_whyNot 20 = .ok (.iload_n 1, 1) := by decide +kernel
theorem dX5_whyNot_21 : decode cX5_whyNot 21 = .ok (.iaload, 1) := by decide +kernel
theorem dX5_whyNot_22 : decode cX5_whyNot 22 = .ok (.if_icmp .ge 37, 3) := by decide +kernel
theorem dX5_whyNot_25 : decode cX5_whyNot 25 = .ok (.aload_n 0, 1) := by decide +kernel
theorem dX5_whyNot_26 : decode cX5_whyNot 26 = .ok (.getfield 16, 3) := by decide +kernel
theorem dX5_whyNot_29 : decode cX5_whyNot 29 = .ok (.iconst 4, 1) := by decide +kernel
theorem dX5_whyNot_30 : decode cX5_whyNot 30 = .ok (.iload_n 1, 1) := by decide +kernel
theorem dX5_whyNot_31 : decode cX5_whyNot 31 = .ok (.imul, 1) := by decide +kernel
theorem dX5_whyNot_32 : decode cX5_whyNot 32 = .ok (.iload_n 3, 1) := by decide +kernel
theorem dX5_whyNot_33 : decode cX5_whyNot 33 = .ok (.iadd, 1) := by decide +kernel
theorem dX5_whyNot_34 : decode cX5_whyNot 34 = .ok (.iaload, 1) := by decide +kernel
theorem dX5_whyNot_35 : decode cX5_whyNot 35 = .ok (.ifCond .le 18, 3) := by decide +kernel
theorem dX5_whyNot_38 : decode cX5_whyNot 38 = .ok (.iload_n 2, 1) := by decide +kernel
theorem dX5_whyNot_39 : decode cX5_whyNot 39 = .ok (.iload_n 3, 1) := by decide +kernel
theorem dX5_whyNot_40 : decode cX5_whyNot 40 = .ok (.ishr, 1) := by decide +kernel
theorem dX5_whyNot_41 : decode cX5_whyNot 41 = .ok (.iconst 1, 1) := by decide +kernel
theorem dX5_whyNot_42 : decode cX5_whyNot 42 = .ok (.iand, 1) := by decide +kernel
theorem dX5_whyNot_43 : decode cX5_whyNot 43 = .ok (.ifCond .ne 10, 3) := by decide +kernel
theorem dX5_whyNot_46 : decode cX5_whyNot 46 = .ok (.bipush 10, 2) := by decide +kernel
theorem dX5_whyNot_48 : decode cX5_whyNot 48 = .ok (.iload_n 1, 1) := by decide +kernel
theorem dX5_whyNot_49 : decode cX5_whyNot 49 = .ok (.imul, 1) := by decide +kernel
theorem dX5_whyNot_50 : decode cX5_whyNot 50 = .ok (.iload_n 3, 1) := by decide +kernel
theorem dX5_whyNot_51 : decode cX5_whyNot 51 = .ok (.iadd, 1) := by decide +kernel
theorem dX5_whyNot_52 : decode cX5_whyNot 52 = .ok (.ireturn, 1) := by decide +kernel
theorem dX5_whyNot_53 : decode cX5_whyNot 53 = .ok (.iinc 3 1, 3) := by decide +kernel
theorem dX5_whyNot_56 : decode cX5_whyNot 56 = .ok (.goto (-41), 3) := by decide +kernel
theorem dX5_whyNot_59 : decode cX5_whyNot 59 = .ok (.iinc 1 1, 3) := by decide +kernel
theorem dX5_whyNot_62 : decode cX5_whyNot 62 = .ok (.goto (-60), 3) := by decide +kernel
theorem dX5_whyNot_65 : decode cX5_whyNot 65 = .ok (.bipush (-9), 2) := by decide +kernel
theorem dX5_whyNot_67 : decode cX5_whyNot 67 = .ok (.ireturn, 1) := by decide +kernel
theorem dX5_is_0 : decode cX5_is 0 = .ok (.aload_n 0, 1) := by decide +kernel
theorem dX5_is_1 : decode cX5_is 1 = .ok (.iconst 0, 1) := by decide +kernel
theorem dX5_is_2 : decode cX5_is 2 = .ok (.invokevirtual 87, 3) := by decide +kernel
theorem dX5_is_5 : decode cX5_is 5 = .ok (.ifCond .eq 11, 3) := by decide +kernel
theorem dX5_is_8 : decode cX5_is 8 = .ok (.aload_n 0, 1) := by decide +kernel
theorem dX5_is_9 : decode cX5_is 9 = .ok (.iconst 1, 1) := by decide +kernel
theorem dX5_is_10 : decode cX5_is 10 = .ok (.invokevirtual 87, 3) := by decide +kernel
theorem dX5_is_13 : decode cX5_is 13 = .ok (.ifCond .ne 10, 3) := by decide +kernel
theorem dX5_is_16 : decode cX5_is 16 = .ok (.aload_n 0, 1) := by decide +kernel
theorem dX5_is_17 : decode cX5_is 17 = .ok (.bipush (-5), 2) := by decide +kernel
theorem dX5_is_19 : decode cX5_is 19 = .ok (.invokevirtual 70, 3) := by decide +kernel
theorem dX5_is_22 : decode cX5_is 22 = .ok (.ireturn, 1) := by decide +kernel
theorem dX5_is_23 : decode cX5_is 23 = .ok (.aload_n 0, 1) := by decide +kernel
theorem dX5_is_24 : decode cX5_is 24 = .ok (.invokevirtual 112, 3) := by decide +kernel
theorem dX5_is_27 : decode cX5_is 27 = .ok (.bipush (-9), 2) := by decide +kernel
theorem dX5_is_29 : decode cX5_is 29 = .ok (.if_icmp .ne 7, 3) := by decide +kernel
theorem dX5_is_32 : decode cX5_is 32 = .ok (.iconst 1, 1) := by decide +kernel
theorem dX5_is_33 : decode cX5_is 33 = .ok (.goto 4, 3) := by decide +kernel
theorem dX5_is_36 : decode cX5_is 36 = .ok (.iconst 0, 1) := by decide +kernel
theorem dX5_is_37 : decode cX5_is 37 = .ok (.ireturn, 1) := by decide +kernel
theorem dX5_why_0 : decode cX5_why 0 = .ok (.aload_n 0, 1) := by decide +kernel
theorem dX5_why_1 : decode cX5_why 1 = .ok (.iconst 0, 1) := by decide +kernel
theorem dX5_why_2 : decode cX5_why 2 = .ok (.invokevirtual 87, 3) := by decide +kernel
theorem dX5_why_5 : decode cX5_why 5 = .ok (.ifCond .eq 11, 3) := by decide +kernel
theorem dX5_why_8 : decode cX5_why 8 = .ok (.aload_n 0, 1) := by decide +kernel
theorem dX5_why_9 : decode cX5_why 9 = .ok (.iconst 1, 1) := by decide +kernel
theorem dX5_why_10 : decode cX5_why 10 = .ok (.invokevirtual 87, 3) := by decide +kernel
theorem dX5_why_13 : decode cX5_why 13 = .ok (.ifCond .ne 8, 3) := by decide +kernel
theorem dX5_why_16 : decode cX5_why 16 = .ok (.bipush (-9), 2) := by decide +kernel
theorem dX5_why_18 : decode cX5_why 18 = .ok (.goto 7, 3) := by decide +kernel
theorem dX5_why_21 : decode cX5_why 21 = .ok (.aload_n 0, 1) := by decide +kernel
theorem dX5_why_22 : decode cX5_why 22 = .ok (.invokevirtual 112, 3) := by decide +kernel
theorem dX5_why_25 : decode cX5_why 25 = .ok (.ireturn, 1) := by decide +kernel
theorem dX5_worseBy_0 : decode cX5_worseBy 0 = .ok (.iconst 0, 1) := by decide +kernel
theorem dX5_worseBy_1 : decode cX5_worseBy 1 = .ok (.istore 5, 2) := by decide +kernel
theorem dX5_worseBy_3 : decode cX5_worseBy 3 = .ok (.iload 5, 2) := by decide +kernel
theorem dX5_worseBy_5 : decode cX5_worseBy 5 = .ok (.aload_n 0, 1) := by decide +kernel
theorem dX5_worseBy_6 : decode cX5_worseBy 6 = .ok (.getfield 7, 3) := by decide +kernel
theorem dX5_worseBy_9 : decode cX5_worseBy 9 = .ok (.iload_n 1, 1) := by decide +kernel
theorem dX5_worseBy_10 : decode cX5_worseBy 10 = .ok (.iaload, 1) := by decide +kernel
theorem dX5_worseBy_11 : decode cX5_worseBy 11 = .ok (.if_icmp .ge 98, 3) := by decide +kernel
theorem dX5_worseBy_14 : decode cX5_worseBy 14 = .ok (.iload_n 3, 1) := by decide +kernel
theorem dX5_worseBy_15 : decode cX5_worseBy 15 = .ok (.iload 5, 2) := by decide +kernel
theorem dX5_worseBy_17 : decode cX5_worseBy 17 = .ok (.ishr, 1) := by decide +kernel
theorem dX5_worseBy_18 : decode cX5_worseBy 18 = .ok (.iconst 1, 1) := by decide +kernel
theorem dX5_worseBy_19 : decode cX5_worseBy 19 = .ok (.iand, 1) := by decide +kernel
theorem dX5_worseBy_20 : decode cX5_worseBy 20 = .ok (.iconst 1, 1) := by decide +kernel
theorem dX5_worseBy_21 : decode cX5_worseBy 21 = .ok (.if_icmp .ne 7, 3) := by decide +kernel
theorem dX5_worseBy_24 : decode cX5_worseBy 24 = .ok (.iconst 1, 1) := by decide +kernel
theorem dX5_worseBy_25 : decode cX5_worseBy 25 = .ok (.goto 4, 3) := by decide +kernel
theorem dX5_worseBy_28 : decode cX5_worseBy 28 = .ok (.iconst 0, 1) := by decide +kernel
theorem dX5_worseBy_29 : decode cX5_worseBy 29 = .ok (.istore 6, 2) := by decide +kernel
theorem dX5_worseBy_31 : decode cX5_worseBy 31 = .ok (.iconst 0, 1) := by decide +kernel
theorem dX5_worseBy_32 : decode cX5_worseBy 32 = .ok (.istore 7, 2) := by decide +kernel
theorem dX5_worseBy_34 : decode cX5_worseBy 34 = .ok (.iload 7, 2) := by decide +kernel
theorem dX5_worseBy_36 : decode cX5_worseBy 36 = .ok (.aload_n 0, 1) := by decide +kernel
theorem dX5_worseBy_37 : decode cX5_worseBy 37 = .ok (.getfield 7, 3) := by decide +kernel
theorem dX5_worseBy_40 : decode cX5_worseBy 40 = .ok (.iconst 1, 1) := by decide +kernel
theorem dX5_worseBy_41 : decode cX5_worseBy 41 = .ok (.iload_n 1, 1) := by decide +kernel
theorem dX5_worseBy_42 : decode cX5_worseBy 42 = .ok (.isub, 1) := by decide +kernel
theorem dX5_worseBy_43 : decode cX5_worseBy 43 = .ok (.iaload, 1) := by decide +kernel
theorem dX5_worseBy_44 : decode cX5_worseBy 44 = .ok (.if_icmp .ge 51, 3) := by decide +kernel
theorem dX5_worseBy_47 : decode cX5_worseBy 47 = .ok (.iload 6, 2) := by decide +kernel
theorem dX5_worseBy_49 : decode cX5_worseBy 49 = .ok (.ifCond .eq 37, 3) := by decide +kernel
theorem dX5_worseBy_52 : decode cX5_worseBy 52 = .ok (.iload 4, 2) := by decide +kernel
theorem dX5_worseBy_54 : decode cX5_worseBy 54 = .ok (.iload 7, 2) := by decide +kernel
theorem dX5_worseBy_56 : decode cX5_worseBy 56 = .ok (.ishr, 1) := by decide +kernel
theorem dX5_worseBy_57 : decode cX5_worseBy 57 = .ok (.iconst 1, 1) := by decide +kernel
theorem dX5_worseBy_58 : decode cX5_worseBy 58 = .ok (.iand, 1) := by decide +kernel
theorem dX5_worseBy_59 : decode cX5_worseBy 59 = .ok (.ifCond .eq 23, 3) := by decide +kernel
theorem dX5_worseBy_62 : decode cX5_worseBy 62 = .ok (.aload_n 0, 1) := by decide +kernel
theorem dX5_worseBy_63 : decode cX5_worseBy 63 = .ok (.iload_n 1, 1) := by decide +kernel
theorem dX5_worseBy_64 : decode cX5_worseBy 64 = .ok (.iload 5, 2) := by decide +kernel
theorem dX5_worseBy_66 : decode cX5_worseBy 66 = .ok (.iload 7, 2) := by decide +kernel
theorem dX5_worseBy_68 : decode cX5_worseBy 68 = .ok (.invokevirtual 101, 3) := by decide +kernel
theorem dX5_worseBy_71 : decode cX5_worseBy 71 = .ok (.aload_n 0, 1) := by decide +kernel
theorem dX5_worseBy_72 : decode cX5_worseBy 72 = .ok (.iload_n 1, 1) := by decide +kernel
theorem dX5_worseBy_73 : decode cX5_worseBy 73 = .ok (.iload_n 2, 1) := by decide +kernel
theorem dX5_worseBy_74 : decode cX5_worseBy 74 = .ok (.iload 7, 2) := by decide +kernel
theorem dX5_worseBy_76 : decode cX5_worseBy 76 = .ok (.invokevirtual 101, 3) := by decide +kernel
theorem dX5_worseBy_79 : decode cX5_worseBy 79 = .ok (.if_icmp .le 7, 3) := by decide +kernel
theorem dX5_worseBy_82 : decode cX5_worseBy 82 = .ok (.iconst 1, 1) := by decide +kernel
theorem dX5_worseBy_83 : decode cX5_worseBy 83 = .ok (.goto 4, 3) := by decide +kernel
theorem dX5_worseBy_86 : decode cX5_worseBy 86 = .ok (.iconst 0, 1) := by decide +kernel
theorem dX5_worseBy_87 : decode cX5_worseBy 87 = .ok (.istore 6, 2) := by decide +kernel
theorem dX5_worseBy_89 : decode cX5_worseBy 89 = .ok (.iinc 7 1, 3) := by decide +kernel
theorem dX5_worseBy_92 : decode cX5_worseBy 92 = .ok (.goto (-58), 3) := by decide +kernel
theorem dX5_worseBy_95 : decode cX5_worseBy 95 = .ok (.iload 6, 2) := by decide +kernel
theorem dX5_worseBy_97 : decode cX5_worseBy 97 = .ok (.ifCond .eq 6, 3) := by decide +kernel
theorem dX5_worseBy_100 : decode cX5_worseBy 100 = .ok (.iload 5, 2) := by decide +kernel
theorem dX5_worseBy_102 : decode cX5_worseBy 102 = .ok (.ireturn, 1) := by decide +kernel
theorem dX5_worseBy_103 : decode cX5_worseBy 103 = .ok (.iinc 5 1, 3) := by decide +kernel
theorem dX5_worseBy_106 : decode cX5_worseBy 106 = .ok (.goto (-103), 3) := by decide +kernel
theorem dX5_worseBy_109 : decode cX5_worseBy 109 = .ok (.bipush (-9), 2) := by decide +kernel
theorem dX5_worseBy_111 : decode cX5_worseBy 111 = .ok (.ireturn, 1) := by decide +kernel
theorem dX5_worse_0 : decode cX5_worse 0 = .ok (.aload_n 0, 1) := by decide +kernel
theorem dX5_worse_1 : decode cX5_worse 1 = .ok (.iload_n 1, 1) := by decide +kernel
theorem dX5_worse_2 : decode cX5_worse 2 = .ok (.iload_n 2, 1) := by decide +kernel
theorem dX5_worse_3 : decode cX5_worse 3 = .ok (.invokevirtual 74, 3) := by decide +kernel
theorem dX5_worse_6 : decode cX5_worse 6 = .ok (.ifCond .eq 16, 3) := by decide +kernel
theorem dX5_worse_9 : decode cX5_worse 9 = .ok (.aload_n 0, 1) := by decide +kernel
theorem dX5_worse_10 : decode cX5_worse 10 = .ok (.iload_n 1, 1) := by decide +kernel
theorem dX5_worse_11 : decode cX5_worse 11 = .ok (.iload_n 2, 1) := by decide +kernel
theorem dX5_worse_12 : decode cX5_worse 12 = .ok (.bipush 15, 2) := by decide +kernel
theorem dX5_worse_14 : decode cX5_worse 14 = .ok (.bipush 15, 2) := by decide +kernel
theorem dX5_worse_16 : decode cX5_worse 16 = .ok (.invokevirtual 116, 3) := by decide +kernel
theorem dX5_worse_19 : decode cX5_worse 19 = .ok (.goto 8, 3) := by decide +kernel
theorem dX5_worse_22 : decode cX5_worse 22 = .ok (.aload_n 0, 1) := by decide +kernel
theorem dX5_worse_23 : decode cX5_worse 23 = .ok (.iconst (-1), 1) := by decide +kernel
theorem dX5_worse_24 : decode cX5_worse 24 = .ok (.invokevirtual 70, 3) := by decide +kernel
theorem dX5_worse_27 : decode cX5_worse 27 = .ok (.ireturn, 1) := by decide +kernel
theorem dX5_drop_0 : decode cX5_drop 0 = .ok (.aload_n 0, 1) := by decide +kernel
theorem dX5_drop_1 : decode cX5_drop 1 = .ok (.iconst 1, 1) := by decide +kernel
theorem dX5_drop_2 : decode cX5_drop 2 = .ok (.aload_n 0, 1) := by decide +kernel
theorem dX5_drop_3 : decode cX5_drop 3 = .ok (.getfield 7, 3) := by decide +kernel
theorem dX5_drop_6 : decode cX5_drop 6 = .ok (.iconst 0, 1) := by decide +kernel
theorem dX5_drop_7 : decode cX5_drop 7 = .ok (.iaload, 1) := by decide +kernel
theorem dX5_drop_8 : decode cX5_drop 8 = .ok (.ishl, 1) := by decide +kernel
theorem dX5_drop_9 : decode cX5_drop 9 = .ok (.iconst 1, 1) := by decide +kernel
theorem dX5_drop_10 : decode cX5_drop 10 = .ok (.isub, 1) := by decide +kernel
theorem dX5_drop_11 : decode cX5_drop 11 = .ok (.putfield 120, 3) := by decide +kernel
theorem dX5_drop_14 : decode cX5_drop 14 = .ok (.aload_n 0, 1) := by decide +kernel
theorem dX5_drop_15 : decode cX5_drop 15 = .ok (.iconst 1, 1) := by decide +kernel
theorem dX5_drop_16 : decode cX5_drop 16 = .ok (.aload_n 0, 1) := by decide +kernel
theorem dX5_drop_17 : decode cX5_drop 17 = .ok (.getfield 7, 3) := by decide +kernel
theorem dX5_drop_20 : decode cX5_drop 20 = .ok (.iconst 1, 1) := by decide +kernel
theorem dX5_drop_21 : decode cX5_drop 21 = .ok (.iaload, 1) := by decide +kernel
theorem dX5_drop_22 : decode cX5_drop 22 = .ok (.ishl, 1) := by decide +kernel
theorem dX5_drop_23 : decode cX5_drop 23 = .ok (.iconst 1, 1) := by decide +kernel
theorem dX5_drop_24 : decode cX5_drop 24 = .ok (.isub, 1) := by decide +kernel
theorem dX5_drop_25 : decode cX5_drop 25 = .ok (.putfield 124, 3) := by decide +kernel
theorem dX5_drop_28 : decode cX5_drop 28 = .ok (.aload_n 0, 1) := by decide +kernel
theorem dX5_drop_29 : decode cX5_drop 29 = .ok (.iconst 0, 1) := by decide +kernel
theorem dX5_drop_30 : decode cX5_drop 30 = .ok (.putfield 127, 3) := by decide +kernel
theorem dX5_drop_33 : decode cX5_drop 33 = .ok (.iconst 1, 1) := by decide +kernel
theorem dX5_drop_34 : decode cX5_drop 34 = .ok (.istore_n 1, 1) := by decide +kernel
theorem dX5_drop_35 : decode cX5_drop 35 = .ok (.iload_n 1, 1) := by decide +kernel
theorem dX5_drop_36 : decode cX5_drop 36 = .ok (.ifCond .eq 189, 3) := by decide +kernel
theorem dX5_drop_39 : decode cX5_drop 39 = .ok (.aload_n 0, 1) := by decide +kernel
theorem dX5_drop_40 : decode cX5_drop 40 = .ok (.getfield 120, 3) := by decide +kernel
theorem dX5_drop_43 : decode cX5_drop 43 = .ok (.istore_n 2, 1) := by decide +kernel
theorem dX5_drop_44 : decode cX5_drop 44 = .ok (.aload_n 0, 1) := by decide +kernel
theorem dX5_drop_45 : decode cX5_drop 45 = .ok (.getfield 124, 3) := by decide +kernel
theorem dX5_drop_48 : decode cX5_drop 48 = .ok (.istore_n 3, 1) := by decide +kernel
theorem dX5_drop_49 : decode cX5_drop 49 = .ok (.iconst 0, 1) := by decide +kernel
theorem dX5_drop_50 : decode cX5_drop 50 = .ok (.istore 4, 2) := by decide +kernel
theorem dX5_drop_52 : decode cX5_drop 52 = .ok (.iload 4, 2) := by decide +kernel
theorem dX5_drop_54 : decode cX5_drop 54 = .ok (.iconst 4, 1) := by decide +kernel
theorem dX5_drop_55 : decode cX5_drop 55 = .ok (.if_icmp .ge 117, 3) := by decide +kernel
theorem dX5_drop_58 : decode cX5_drop 58 = .ok (.aload_n 0, 1) := by decide +kernel
theorem dX5_drop_59 : decode cX5_drop 59 = .ok (.getfield 120, 3) := by decide +kernel
theorem dX5_drop_62 : decode cX5_drop 62 = .ok (.iload 4, 2) := by decide +kernel
theorem dX5_drop_64 : decode cX5_drop 64 = .ok (.ishr, 1) := by decide +kernel
theorem dX5_drop_65 : decode cX5_drop 65 = .ok (.iconst 1, 1) := by decide +kernel
theorem dX5_drop_66 : decode cX5_drop 66 = .ok (.iand, 1) := by decide +kernel
theorem dX5_drop_67 : decode cX5_drop 67 = .ok (.iconst 1, 1) := by decide +kernel
theorem dX5_drop_68 : decode cX5_drop 68 = .ok (.if_icmp .ne 25, 3) := by decide +kernel
theorem dX5_drop_71 : decode cX5_drop 71 = .ok (.aload_n 0, 1) := by decide +kernel
theorem dX5_drop_72 : decode cX5_drop 72 = .ok (.iconst 0, 1) := by decide +kernel
theorem dX5_drop_73 : decode cX5_drop 73 = .ok (.iload 4, 2) := by decide +kernel
theorem dX5_drop_75 : decode cX5_drop 75 = .ok (.aload_n 0, 1) := by decide +kernel
theorem dX5_drop_76 : decode cX5_drop 76 = .ok (.getfield 120, 3) := by decide +kernel
theorem dX5_drop_79 : decode cX5_drop 79 = .ok (.aload_n 0, 1) := by decide +kernel
theorem dX5_drop_80 : decode cX5_drop 80 = .ok (.getfield 124, 3) := by decide +kernel
theorem dX5_drop_83 : decode cX5_drop 83 = .ok (.invokevirtual 116, 3) := by decide +kernel
theorem dX5_drop_86 : decode cX5_drop 86 = .ok (.ifCond .lt 7, 3) := by decide +kernel
theorem dX5_drop_89 : decode cX5_drop 89 = .ok (.iconst 1, 1) := by decide +kernel
theorem dX5_drop_90 : decode cX5_drop 90 = .ok (.goto 4, 3) := by decide +kernel
theorem dX5_drop_93 : decode cX5_drop 93 = .ok (.iconst 0, 1) := by decide +kernel
theorem dX5_drop_94 : decode cX5_drop 94 = .ok (.istore 5, 2) := by decide +kernel
theorem dX5_drop_96 : decode cX5_drop 96 = .ok (.iload_n 2, 1) := by decide +kernel
theorem dX5_drop_97 : decode cX5_drop 97 = .ok (.iload 5, 2) := by decide +kernel
theorem dX5_drop_99 : decode cX5_drop 99 = .ok (.ifCond .eq 10, 3) := by decide +kernel
theorem dX5_drop_102 : decode cX5_drop 102 = .ok (.iconst 1, 1) := by decide +kernel
theorem dX5_drop_103 : decode cX5_drop 103 = .ok (.iload 4, 2) := by decide +kernel
theorem dX5_drop_105 : decode cX5_drop 105 = .ok (.ishl, 1) := by decide +kernel
theorem dX5_drop_106 : decode cX5_drop 106 = .ok (.goto 4, 3) := by decide +kernel
theorem dX5_drop_109 : decode cX5_drop 109 = .ok (.iconst 0, 1) := by decide +kernel
theorem dX5_drop_110 : decode cX5_drop 110 = .ok (.isub, 1) := by decide +kernel
theorem dX5_drop_111 : decode cX5_drop 111 = .ok (.istore_n 2, 1) := by decide +kernel
theorem dX5_drop_112 : decode cX5_drop 112 = .ok (.aload_n 0, 1) := by decide +kernel
theorem dX5_drop_113 : decode cX5_drop 113 = .ok (.getfield 124, 3) := by decide +kernel
theorem dX5_drop_116 : decode cX5_drop 116 = .ok (.iload 4, 2) := by decide +kernel
theorem dX5_drop_118 : decode cX5_drop 118 = .ok (.ishr, 1) := by decide +kernel
theorem dX5_drop_119 : decode cX5_drop 119 = .ok (.iconst 1, 1) := by decide +kernel
theorem dX5_drop_120 : decode cX5_drop 120 = .ok (.iand, 1) := by decide +kernel
theorem dX5_drop_121 : decode cX5_drop 121 = .ok (.iconst 1, 1) := by decide +kernel
theorem dX5_drop_122 : decode cX5_drop 122 = .ok (.if_icmp .ne 25, 3) := by decide +kernel
theorem dX5_drop_125 : decode cX5_drop 125 = .ok (.aload_n 0, 1) := by decide +kernel
theorem dX5_drop_126 : decode cX5_drop 126 = .ok (.iconst 1, 1) := by decide +kernel
theorem dX5_drop_127 : decode cX5_drop 127 = .ok (.iload 4, 2) := by decide +kernel
theorem dX5_drop_129 : decode cX5_drop 129 = .ok (.aload_n 0, 1) := by decide +kernel
theorem dX5_drop_130 : decode cX5_drop 130 = .ok (.getfield 124, 3) := by decide +kernel
theorem dX5_drop_133 : decode cX5_drop 133 = .ok (.aload_n 0, 1) := by decide +kernel
theorem dX5_drop_134 : decode cX5_drop 134 = .ok (.getfield 120, 3) := by decide +kernel
theorem dX5_drop_137 : decode cX5_drop 137 = .ok (.invokevirtual 116, 3) := by decide +kernel
theorem dX5_drop_140 : decode cX5_drop 140 = .ok (.ifCond .lt 7, 3) := by decide +kernel
theorem dX5_drop_143 : decode cX5_drop 143 = .ok (.iconst 1, 1) := by decide +kernel
theorem dX5_drop_144 : decode cX5_drop 144 = .ok (.goto 4, 3) := by decide +kernel
theorem dX5_drop_147 : decode cX5_drop 147 = .ok (.iconst 0, 1) := by decide +kernel
theorem dX5_drop_148 : decode cX5_drop 148 = .ok (.istore 5, 2) := by decide +kernel
theorem dX5_drop_150 : decode cX5_drop 150 = .ok (.iload_n 3, 1) := by decide +kernel
theorem dX5_drop_151 : decode cX5_drop 151 = .ok (.iload 5, 2) := by decide +kernel
theorem dX5_drop_153 : decode cX5_drop 153 = .ok (.ifCond .eq 10, 3) := by decide +kernel
theorem dX5_drop_156 : decode cX5_drop 156 = .ok (.iconst 1, 1) := by decide +kernel
theorem dX5_drop_157 : decode cX5_drop 157 = .ok (.iload 4, 2) := by decide +kernel
theorem dX5_drop_159 : decode cX5_drop 159 = .ok (.ishl, 1) := by decide +kernel
theorem dX5_drop_160 : decode cX5_drop 160 = .ok (.goto 4, 3) := by decide +kernel
theorem dX5_drop_163 : decode cX5_drop 163 = .ok (.iconst 0, 1) := by decide +kernel
theorem dX5_drop_164 : decode cX5_drop 164 = .ok (.isub, 1) := by decide +kernel
theorem dX5_drop_165 : decode cX5_drop 165 = .ok (.istore_n 3, 1) := by decide +kernel
theorem dX5_drop_166 : decode cX5_drop 166 = .ok (.iinc 4 1, 3) := by decide +kernel
theorem dX5_drop_169 : decode cX5_drop 169 = .ok (.goto (-117), 3) := by decide +kernel
theorem dX5_drop_172 : decode cX5_drop 172 = .ok (.iload_n 2, 1) := by decide +kernel
theorem dX5_drop_173 : decode cX5_drop 173 = .ok (.aload_n 0, 1) := by decide +kernel
theorem dX5_drop_174 : decode cX5_drop 174 = .ok (.getfield 120, 3) := by decide +kernel
theorem dX5_drop_177 : decode cX5_drop 177 = .ok (.if_icmp .ne 11, 3) := by decide +kernel
theorem dX5_drop_180 : decode cX5_drop 180 = .ok (.iload_n 3, 1) := by decide +kernel
theorem dX5_drop_181 : decode cX5_drop 181 = .ok (.aload_n 0, 1) := by decide +kernel
theorem dX5_drop_182 : decode cX5_drop 182 = .ok (.getfield 124, 3) := by decide +kernel
theorem dX5_drop_185 : decode cX5_drop 185 = .ok (.if_icmp .eq 7, 3) := by decide +kernel
theorem dX5_drop_188 : decode cX5_drop 188 = .ok (.iconst 1, 1) := by decide +kernel
theorem dX5_drop_189 : decode cX5_drop 189 = .ok (.goto 4, 3) := by decide +kernel
theorem dX5_drop_192 : decode cX5_drop 192 = .ok (.iconst 0, 1) := by decide +kernel
theorem dX5_drop_193 : decode cX5_drop 193 = .ok (.istore_n 1, 1) := by decide +kernel
theorem dX5_drop_194 : decode cX5_drop 194 = .ok (.aload_n 0, 1) := by decide +kernel
theorem dX5_drop_195 : decode cX5_drop 195 = .ok (.dup, 1) := by decide +kernel
theorem dX5_drop_196 : decode cX5_drop 196 = .ok (.getfield 127, 3) := by decide +kernel
theorem dX5_drop_199 : decode cX5_drop 199 = .ok (.iload_n 1, 1) := by decide +kernel
theorem dX5_drop_200 : decode cX5_drop 200 = .ok (.ifCond .eq 7, 3) := by decide +kernel
theorem dX5_drop_203 : decode cX5_drop 203 = .ok (.iconst 1, 1) := by decide +kernel
theorem dX5_drop_204 : decode cX5_drop 204 = .ok (.goto 4, 3) := by decide +kernel
theorem dX5_drop_207 : decode cX5_drop 207 = .ok (.iconst 0, 1) := by decide +kernel
theorem dX5_drop_208 : decode cX5_drop 208 = .ok (.iadd, 1) := by decide +kernel
theorem dX5_drop_209 : decode cX5_drop 209 = .ok (.putfield 127, 3) := by decide +kernel
theorem dX5_drop_212 : decode cX5_drop 212 = .ok (.aload_n 0, 1) := by decide +kernel
theorem dX5_drop_213 : decode cX5_drop 213 = .ok (.iload_n 2, 1) := by decide +kernel
theorem dX5_drop_214 : decode cX5_drop 214 = .ok (.putfield 120, 3) := by decide +kernel
theorem dX5_drop_217 : decode cX5_drop 217 = .ok (.aload_n 0, 1) := by decide +kernel
theorem dX5_drop_218 : decode cX5_drop 218 = .ok (.iload_n 3, 1) := by decide +kernel
theorem dX5_drop_219 : decode cX5_drop 219 = .ok (.putfield 124, 3) := by decide +kernel
theorem dX5_drop_222 : decode cX5_drop 222 = .ok (.goto (-187), 3) := by decide +kernel
theorem dX5_drop_225 : decode cX5_drop 225 = .ok (.return_, 1) := by decide +kernel
theorem dX5_left_0 : decode cX5_left 0 = .ok (.iload_n 1, 1) := by decide +kernel
theorem dX5_left_1 : decode cX5_left 1 = .ok (.invokestatic 62, 3) := by decide +kernel
theorem dX5_left_4 : decode cX5_left 4 = .ok (.ifCond .ne 9, 3) := by decide +kernel
theorem dX5_left_7 : decode cX5_left 7 = .ok (.aload_n 0, 1) := by decide +kernel
theorem dX5_left_8 : decode cX5_left 8 = .ok (.iconst (-1), 1) := by decide +kernel
theorem dX5_left_9 : decode cX5_left 9 = .ok (.invokevirtual 70, 3) := by decide +kernel
theorem dX5_left_12 : decode cX5_left 12 = .ok (.ireturn, 1) := by decide +kernel
theorem dX5_left_13 : decode cX5_left 13 = .ok (.aload_n 0, 1) := by decide +kernel
theorem dX5_left_14 : decode cX5_left 14 = .ok (.invokevirtual 130, 3) := by decide +kernel
theorem dX5_left_17 : decode cX5_left 17 = .ok (.iload_n 1, 1) := by decide +kernel
theorem dX5_left_18 : decode cX5_left 18 = .ok (.ifCond .ne 10, 3) := by decide +kernel
theorem dX5_left_21 : decode cX5_left 21 = .ok (.aload_n 0, 1) := by decide +kernel
theorem dX5_left_22 : decode cX5_left 22 = .ok (.getfield 120, 3) := by decide +kernel
theorem dX5_left_25 : decode cX5_left 25 = .ok (.goto 7, 3) := by decide +kernel
theorem dX5_left_28 : decode cX5_left 28 = .ok (.aload_n 0, 1) := by decide +kernel
theorem dX5_left_29 : decode cX5_left 29 = .ok (.getfield 124, 3) := by decide +kernel
theorem dX5_left_32 : decode cX5_left 32 = .ok (.ireturn, 1) := by decide +kernel
theorem dX5_times_0 : decode cX5_times 0 = .ok (.aload_n 0, 1) := by decide +kernel
theorem dX5_times_1 : decode cX5_times 1 = .ok (.invokevirtual 130, 3) := by decide +kernel
theorem dX5_times_4 : decode cX5_times 4 = .ok (.aload_n 0, 1) := by decide +kernel
theorem dX5_times_5 : decode cX5_times 5 = .ok (.getfield 127, 3) := by decide +kernel
theorem dX5_times_8 : decode cX5_times 8 = .ok (.ireturn, 1) := by decide +kernel
theorem dX5_sure_0 : decode cX5_sure 0 = .ok (.iload_n 1, 1) := by decide +kernel
theorem dX5_sure_1 : decode cX5_sure 1 = .ok (.invokestatic 62, 3) := by decide +kernel
theorem dX5_sure_4 : decode cX5_sure 4 = .ok (.ifCond .ne 9, 3) := by decide +kernel
theorem dX5_sure_7 : decode cX5_sure 7 = .ok (.aload_n 0, 1) := by decide +kernel
theorem dX5_sure_8 : decode cX5_sure 8 = .ok (.iconst (-1), 1) := by decide +kernel
theorem dX5_sure_9 : decode cX5_sure 9 = .ok (.invokevirtual 78, 3) := by decide +kernel
theorem dX5_sure_12 : decode cX5_sure 12 = .ok (.ireturn, 1) := by decide +kernel
theorem dX5_sure_13 : decode cX5_sure 13 = .ok (.bipush (-21), 2) := by decide +kernel
theorem dX5_sure_15 : decode cX5_sure 15 = .ok (.istore_n 2, 1) := by decide +kernel
theorem dX5_sure_16 : decode cX5_sure 16 = .ok (.iconst 0, 1) := by decide +kernel
theorem dX5_sure_17 : decode cX5_sure 17 = .ok (.istore_n 3, 1) := by decide +kernel
theorem dX5_sure_18 : decode cX5_sure 18 = .ok (.iload_n 3, 1) := by decide +kernel
theorem dX5_sure_19 : decode cX5_sure 19 = .ok (.aload_n 0, 1) := by decide +kernel
theorem dX5_sure_20 : decode cX5_sure 20 = .ok (.getfield 7, 3) := by decide +kernel
theorem dX5_sure_23 : decode cX5_sure 23 = .ok (.iload_n 1, 1) := by decide +kernel
theorem dX5_sure_24 : decode cX5_sure 24 = .ok (.iaload, 1) := by decide +kernel
theorem dX5_sure_25 : decode cX5_sure 25 = .ok (.if_icmp .ge 76, 3) := by decide +kernel
theorem dX5_sure_28 : decode cX5_sure 28 = .ok (.bipush 21, 2) := by decide +kernel
theorem dX5_sure_30 : decode cX5_sure 30 = .ok (.istore 4, 2) := by decide +kernel
theorem dX5_sure_32 : decode cX5_sure 32 = .ok (.iconst 0, 1) := by decide +kernel
theorem dX5_sure_33 : decode cX5_sure 33 = .ok (.istore 5, 2) := by decide +kernel
theorem dX5_sure_35 : decode cX5_sure 35 = .ok (.iload 5, 2) := by decide +kernel
theorem dX5_sure_37 : decode cX5_sure 37 = .ok (.aload_n 0, 1) := by decide +kernel
theorem dX5_sure_38 : decode cX5_sure 38 = .ok (.getfield 7, 3) := by decide +kernel
theorem dX5_sure_41 : decode cX5_sure 41 = .ok (.iconst 1, 1) := by decide +kernel
theorem dX5_sure_42 : decode cX5_sure 42 = .ok (.iload_n 1, 1) := by decide +kernel
theorem dX5_sure_43 : decode cX5_sure 43 = .ok (.isub, 1) := by decide +kernel
theorem dX5_sure_44 : decode cX5_sure 44 = .ok (.iaload, 1) := by decide +kernel
theorem dX5_sure_45 : decode cX5_sure 45 = .ok (.if_icmp .ge 37, 3) := by decide +kernel
theorem dX5_sure_48 : decode cX5_sure 48 = .ok (.aload_n 0, 1) := by decide +kernel
theorem dX5_sure_49 : decode cX5_sure 49 = .ok (.iload_n 1, 1) := by decide +kernel
theorem dX5_sure_50 : decode cX5_sure 50 = .ok (.iload_n 3, 1) := by decide +kernel
theorem dX5_sure_51 : decode cX5_sure 51 = .ok (.iload 5, 2) := by decide +kernel
theorem dX5_sure_53 : decode cX5_sure 53 = .ok (.invokevirtual 101, 3) := by decide +kernel
theorem dX5_sure_56 : decode cX5_sure 56 = .ok (.iload 4, 2) := by decide +kernel
theorem dX5_sure_58 : decode cX5_sure 58 = .ok (.if_icmp .ge 14, 3) := by decide +kernel
theorem dX5_sure_61 : decode cX5_sure 61 = .ok (.aload_n 0, 1) := by decide +kernel
theorem dX5_sure_62 : decode cX5_sure 62 = .ok (.iload_n 1, 1) := by decide +kernel
theorem dX5_sure_63 : decode cX5_sure 63 = .ok (.iload_n 3, 1) := by decide +kernel
theorem dX5_sure_64 : decode cX5_sure 64 = .ok (.iload 5, 2) := by decide +kernel
theorem dX5_sure_66 : decode cX5_sure 66 = .ok (.invokevirtual 101, 3) := by decide +kernel
theorem dX5_sure_69 : decode cX5_sure 69 = .ok (.goto 5, 3) := by decide +kernel
theorem dX5_sure_72 : decode cX5_sure 72 = .ok (.iload 4, 2) := by decide +kernel
theorem dX5_sure_74 : decode cX5_sure 74 = .ok (.istore 4, 2) := by decide +kernel
theorem dX5_sure_76 : decode cX5_sure 76 = .ok (.iinc 5 1, 3) := by decide +kernel
theorem dX5_sure_79 : decode cX5_sure 79 = .ok (.goto (-44), 3) := by decide +kernel
theorem dX5_sure_82 : decode cX5_sure 82 = .ok (.iload 4, 2) := by decide +kernel
theorem dX5_sure_84 : decode cX5_sure 84 = .ok (.iload_n 2, 1) := by decide +kernel
theorem dX5_sure_85 : decode cX5_sure 85 = .ok (.if_icmp .le 8, 3) := by decide +kernel
theorem dX5_sure_88 : decode cX5_sure 88 = .ok (.iload 4, 2) := by decide +kernel
theorem dX5_sure_90 : decode cX5_sure 90 = .ok (.goto 4, 3) := by decide +kernel
theorem dX5_sure_93 : decode cX5_sure 93 = .ok (.iload_n 2, 1) := by decide +kernel
theorem dX5_sure_94 : decode cX5_sure 94 = .ok (.istore_n 2, 1) := by decide +kernel
theorem dX5_sure_95 : decode cX5_sure 95 = .ok (.iinc 3 1, 3) := by decide +kernel
theorem dX5_sure_98 : decode cX5_sure 98 = .ok (.goto (-80), 3) := by decide +kernel
theorem dX5_sure_101 : decode cX5_sure 101 = .ok (.iload_n 2, 1) := by decide +kernel
theorem dX5_sure_102 : decode cX5_sure 102 = .ok (.ireturn, 1) := by decide +kernel
theorem dX5_hold_0 : decode cX5_hold 0 = .ok (.iload_n 1, 1) := by decide +kernel
theorem dX5_hold_1 : decode cX5_hold 1 = .ok (.invokestatic 62, 3) := by decide +kernel
theorem dX5_hold_4 : decode cX5_hold 4 = .ok (.ifCond .ne 9, 3) := by decide +kernel
theorem dX5_hold_7 : decode cX5_hold 7 = .ok (.aload_n 0, 1) := by decide +kernel
theorem dX5_hold_8 : decode cX5_hold 8 = .ok (.iconst (-1), 1) := by decide +kernel
theorem dX5_hold_9 : decode cX5_hold 9 = .ok (.invokevirtual 78, 3) := by decide +kernel
theorem dX5_hold_12 : decode cX5_hold 12 = .ok (.ireturn, 1) := by decide +kernel
theorem dX5_hold_13 : decode cX5_hold 13 = .ok (.bipush 21, 2) := by decide +kernel
theorem dX5_hold_15 : decode cX5_hold 15 = .ok (.istore_n 2, 1) := by decide +kernel
theorem dX5_hold_16 : decode cX5_hold 16 = .ok (.iconst 0, 1) := by decide +kernel
theorem dX5_hold_17 : decode cX5_hold 17 = .ok (.istore_n 3, 1) := by decide +kernel
theorem dX5_hold_18 : decode cX5_hold 18 = .ok (.iload_n 3, 1) := by decide +kernel
theorem dX5_hold_19 : decode cX5_hold 19 = .ok (.aload_n 0, 1) := by decide +kernel
theorem dX5_hold_20 : decode cX5_hold 20 = .ok (.getfield 7, 3) := by decide +kernel
theorem dX5_hold_23 : decode cX5_hold 23 = .ok (.iconst 1, 1) := by decide +kernel
theorem dX5_hold_24 : decode cX5_hold 24 = .ok (.iload_n 1, 1) := by decide +kernel
theorem dX5_hold_25 : decode cX5_hold 25 = .ok (.isub, 1) := by decide +kernel
theorem dX5_hold_26 : decode cX5_hold 26 = .ok (.iaload, 1) := by decide +kernel
theorem dX5_hold_27 : decode cX5_hold 27 = .ok (.if_icmp .ge 74, 3) := by decide +kernel
theorem dX5_hold_30 : decode cX5_hold 30 = .ok (.bipush (-21), 2) := by decide +kernel
theorem dX5_hold_32 : decode cX5_hold 32 = .ok (.istore 4, 2) := by decide +kernel
theorem dX5_hold_34 : decode cX5_hold 34 = .ok (.iconst 0, 1) := by decide +kernel
theorem dX5_hold_35 : decode cX5_hold 35 = .ok (.istore 5, 2) := by decide +kernel
theorem dX5_hold_37 : decode cX5_hold 37 = .ok (.iload 5, 2) := by decide +kernel
theorem dX5_hold_39 : decode cX5_hold 39 = .ok (.aload_n 0, 1) := by decide +kernel
theorem dX5_hold_40 : decode cX5_hold 40 = .ok (.getfield 7, 3) := by decide +kernel
theorem dX5_hold_43 : decode cX5_hold 43 = .ok (.iload_n 1, 1) := by decide +kernel
theorem dX5_hold_44 : decode cX5_hold 44 = .ok (.iaload, 1) := by decide +kernel
theorem dX5_hold_45 : decode cX5_hold 45 = .ok (.if_icmp .ge 37, 3) := by decide +kernel
theorem dX5_hold_48 : decode cX5_hold 48 = .ok (.aload_n 0, 1) := by decide +kernel
theorem dX5_hold_49 : decode cX5_hold 49 = .ok (.iload_n 1, 1) := by decide +kernel
theorem dX5_hold_50 : decode cX5_hold 50 = .ok (.iload 5, 2) := by decide +kernel
theorem dX5_hold_52 : decode cX5_hold 52 = .ok (.iload_n 3, 1) := by decide +kernel
theorem dX5_hold_53 : decode cX5_hold 53 = .ok (.invokevirtual 101, 3) := by decide +kernel
theorem dX5_hold_56 : decode cX5_hold 56 = .ok (.iload 4, 2) := by decide +kernel
theorem dX5_hold_58 : decode cX5_hold 58 = .ok (.if_icmp .le 14, 3) := by decide +kernel
theorem dX5_hold_61 : decode cX5_hold 61 = .ok (.aload_n 0, 1) := by decide +kernel
theorem dX5_hold_62 : decode cX5_hold 62 = .ok (.iload_n 1, 1) := by decide +kernel
theorem dX5_hold_63 : decode cX5_hold 63 = .ok (.iload 5, 2) := by decide +kernel
theorem dX5_hold_65 : decode cX5_hold 65 = .ok (.iload_n 3, 1) := by decide +kernel
theorem dX5_hold_66 : decode cX5_hold 66 = .ok (.invokevirtual 101, 3) := by decide +kernel
theorem dX5_hold_69 : decode cX5_hold 69 = .ok (.goto 5, 3) := by decide +kernel
theorem dX5_hold_72 : decode cX5_hold 72 = .ok (.iload 4, 2) := by decide +kernel
theorem dX5_hold_74 : decode cX5_hold 74 = .ok (.istore 4, 2) := by decide +kernel
theorem dX5_hold_76 : decode cX5_hold 76 = .ok (.iinc 5 1, 3) := by decide +kernel
theorem dX5_hold_79 : decode cX5_hold 79 = .ok (.goto (-42), 3) := by decide +kernel
theorem dX5_hold_82 : decode cX5_hold 82 = .ok (.iload 4, 2) := by decide +kernel
theorem dX5_hold_84 : decode cX5_hold 84 = .ok (.iload_n 2, 1) := by decide +kernel
theorem dX5_hold_85 : decode cX5_hold 85 = .ok (.if_icmp .ge 8, 3) := by decide +kernel
theorem dX5_hold_88 : decode cX5_hold 88 = .ok (.iload 4, 2) := by decide +kernel
theorem dX5_hold_90 : decode cX5_hold 90 = .ok (.goto 4, 3) := by decide +kernel
theorem dX5_hold_93 : decode cX5_hold 93 = .ok (.iload_n 2, 1) := by decide +kernel
theorem dX5_hold_94 : decode cX5_hold 94 = .ok (.istore_n 2, 1) := by decide +kernel
theorem dX5_hold_95 : decode cX5_hold 95 = .ok (.iinc 3 1, 3) := by decide +kernel
theorem dX5_hold_98 : decode cX5_hold 98 = .ok (.goto (-80), 3) := by decide +kernel
theorem dX5_hold_101 : decode cX5_hold 101 = .ok (.iload_n 2, 1) := by decide +kernel
theorem dX5_hold_102 : decode cX5_hold 102 = .ok (.ireturn, 1) := by decide +kernel
theorem dX5_manyIn_0 : decode cX5_manyIn 0 = .ok (.iload_n 0, 1) := by decide +kernel
theorem dX5_manyIn_1 : decode cX5_manyIn 1 = .ok (.iconst 1, 1) := by decide +kernel
theorem dX5_manyIn_2 : decode cX5_manyIn 2 = .ok (.iand, 1) := by decide +kernel
theorem dX5_manyIn_3 : decode cX5_manyIn 3 = .ok (.iload_n 0, 1) := by decide +kernel
theorem dX5_manyIn_4 : decode cX5_manyIn 4 = .ok (.iconst 1, 1) := by decide +kernel
theorem dX5_manyIn_5 : decode cX5_manyIn 5 = .ok (.ishr, 1) := by decide +kernel
theorem dX5_manyIn_6 : decode cX5_manyIn 6 = .ok (.iconst 1, 1) := by decide +kernel
theorem dX5_manyIn_7 : decode cX5_manyIn 7 = .ok (.iand, 1) := by decide +kernel
theorem dX5_manyIn_8 : decode cX5_manyIn 8 = .ok (.iadd, 1) := by decide +kernel
theorem dX5_manyIn_9 : decode cX5_manyIn 9 = .ok (.iload_n 0, 1) := by decide +kernel
theorem dX5_manyIn_10 : decode cX5_manyIn 10 = .ok (.iconst 2, 1) := by decide +kernel
theorem dX5_manyIn_11 : decode cX5_manyIn 11 = .ok (.ishr, 1) := by decide +kernel
theorem dX5_manyIn_12 : decode cX5_manyIn 12 = .ok (.iconst 1, 1) := by decide +kernel
theorem dX5_manyIn_13 : decode cX5_manyIn 13 = .ok (.iand, 1) := by decide +kernel
theorem dX5_manyIn_14 : decode cX5_manyIn 14 = .ok (.iadd, 1) := by decide +kernel
theorem dX5_manyIn_15 : decode cX5_manyIn 15 = .ok (.iload_n 0, 1) := by decide +kernel
theorem dX5_manyIn_16 : decode cX5_manyIn 16 = .ok (.iconst 3, 1) := by decide +kernel
theorem dX5_manyIn_17 : decode cX5_manyIn 17 = .ok (.ishr, 1) := by decide +kernel
theorem dX5_manyIn_18 : decode cX5_manyIn 18 = .ok (.iconst 1, 1) := by decide +kernel
theorem dX5_manyIn_19 : decode cX5_manyIn 19 = .ok (.iand, 1) := by decide +kernel
theorem dX5_manyIn_20 : decode cX5_manyIn 20 = .ok (.iadd, 1) := by decide +kernel
theorem dX5_manyIn_21 : decode cX5_manyIn 21 = .ok (.ireturn, 1) := by decide +kernel
theorem dX5_listed_0 : decode cX5_listed 0 = .ok (.iconst 0, 1) := by decide +kernel
theorem dX5_listed_1 : decode cX5_listed 1 = .ok (.istore_n 2, 1) := by decide +kernel
theorem dX5_listed_2 : decode cX5_listed 2 = .ok (.iconst 0, 1) := by decide +kernel
theorem dX5_listed_3 : decode cX5_listed 3 = .ok (.istore_n 3, 1) := by decide +kernel
theorem dX5_listed_4 : decode cX5_listed 4 = .ok (.iload_n 3, 1) := by decide +kernel
theorem dX5_listed_5 : decode cX5_listed 5 = .ok (.iconst 4, 1) := by decide +kernel
theorem dX5_listed_6 : decode cX5_listed 6 = .ok (.if_icmp .ge 25, 3) := by decide +kernel
theorem dX5_listed_9 : decode cX5_listed 9 = .ok (.iload_n 0, 1) := by decide +kernel
theorem dX5_listed_10 : decode cX5_listed 10 = .ok (.iload_n 3, 1) := by decide +kernel
theorem dX5_listed_11 : decode cX5_listed 11 = .ok (.ishr, 1) := by decide +kernel
theorem dX5_listed_12 : decode cX5_listed 12 = .ok (.iconst 1, 1) := by decide +kernel
theorem dX5_listed_13 : decode cX5_listed 13 = .ok (.iand, 1) := by decide +kernel
theorem dX5_listed_14 : decode cX5_listed 14 = .ok (.iconst 1, 1) := by decide +kernel
theorem dX5_listed_15 : decode cX5_listed 15 = .ok (.if_icmp .ne 10, 3) := by decide +kernel
theorem dX5_listed_18 : decode cX5_listed 18 = .ok (.aload_n 1, 1) := by decide +kernel
theorem dX5_listed_19 : decode cX5_listed 19 = .ok (.iload_n 2, 1) := by decide +kernel
theorem dX5_listed_20 : decode cX5_listed 20 = .ok (.iload_n 3, 1) := by decide +kernel
theorem dX5_listed_21 : decode cX5_listed 21 = .ok (.iastore, 1) := by decide +kernel
theorem dX5_listed_22 : decode cX5_listed 22 = .ok (.iinc 2 1, 3) := by decide +kernel
theorem dX5_listed_25 : decode cX5_listed 25 = .ok (.iinc 3 1, 3) := by decide +kernel
theorem dX5_listed_28 : decode cX5_listed 28 = .ok (.goto (-24), 3) := by decide +kernel
theorem dX5_listed_31 : decode cX5_listed 31 = .ok (.iload_n 2, 1) := by decide +kernel
theorem dX5_listed_32 : decode cX5_listed 32 = .ok (.ireturn, 1) := by decide +kernel
theorem dX5_without_0 : decode cX5_without 0 = .ok (.iconst 0, 1) := by decide +kernel
theorem dX5_without_1 : decode cX5_without 1 = .ok (.istore 4, 2) := by decide +kernel
theorem dX5_without_3 : decode cX5_without 3 = .ok (.iload 4, 2) := by decide +kernel
theorem dX5_without_5 : decode cX5_without 5 = .ok (.iload_n 3, 1) := by decide +kernel
theorem dX5_without_6 : decode cX5_without 6 = .ok (.iconst 1, 1) := by decide +kernel
theorem dX5_without_7 : decode cX5_without 7 = .ok (.isub, 1) := by decide +kernel
theorem dX5_without_8 : decode cX5_without 8 = .ok (.if_icmp .ge 93, 3) := by decide +kernel
theorem dX5_without_11 : decode cX5_without 11 = .ok (.iconst 0, 1) := by decide +kernel
theorem dX5_without_12 : decode cX5_without 12 = .ok (.istore 5, 2) := by decide +kernel
theorem dX5_without_14 : decode cX5_without 14 = .ok (.iconst 0, 1) := by decide +kernel
theorem dX5_without_15 : decode cX5_without 15 = .ok (.istore 6, 2) := by decide +kernel
theorem dX5_without_17 : decode cX5_without 17 = .ok (.iload 6, 2) := by decide +kernel
theorem dX5_without_19 : decode cX5_without 19 = .ok (.iload_n 3, 1) := by decide +kernel
theorem dX5_without_20 : decode cX5_without 20 = .ok (.if_icmp .ge 75, 3) := by decide +kernel
theorem dX5_without_23 : decode cX5_without 23 = .ok (.iload 6, 2) := by decide +kernel
theorem dX5_without_25 : decode cX5_without 25 = .ok (.iload_n 2, 1) := by decide +kernel
theorem dX5_without_26 : decode cX5_without 26 = .ok (.if_icmp .eq 63, 3) := by decide +kernel
theorem dX5_without_29 : decode cX5_without 29 = .ok (.aload_n 0, 1) := by decide +kernel
theorem dX5_without_30 : decode cX5_without 30 = .ok (.getfield 44, 3) := by decide +kernel
theorem dX5_without_33 : decode cX5_without 33 = .ok (.iconst 3, 1) := by decide +kernel
theorem dX5_without_34 : decode cX5_without 34 = .ok (.iload 4, 2) := by decide +kernel
theorem dX5_without_36 : decode cX5_without 36 = .ok (.imul, 1) := by decide +kernel
theorem dX5_without_37 : decode cX5_without 37 = .ok (.iload 5, 2) := by decide +kernel
theorem dX5_without_39 : decode cX5_without 39 = .ok (.iadd, 1) := by decide +kernel
theorem dX5_without_40 : decode cX5_without 40 = .ok (.aload_n 0, 1) := by decide +kernel
theorem dX5_without_41 : decode cX5_without 41 = .ok (.iconst 1, 1) := by decide +kernel
theorem dX5_without_42 : decode cX5_without 42 = .ok (.iload_n 1, 1) := by decide +kernel
theorem dX5_without_43 : decode cX5_without 43 = .ok (.isub, 1) := by decide +kernel
theorem dX5_without_44 : decode cX5_without 44 = .ok (.aload_n 0, 1) := by decide +kernel
theorem dX5_without_45 : decode cX5_without 45 = .ok (.getfield 50, 3) := by decide +kernel
theorem dX5_without_48 : decode cX5_without 48 = .ok (.iload 4, 2) := by decide +kernel
theorem dX5_without_50 : decode cX5_without 50 = .ok (.iconst 1, 1) := by decide +kernel
theorem dX5_without_51 : decode cX5_without 51 = .ok (.iadd, 1) := by decide +kernel
theorem dX5_without_52 : decode cX5_without 52 = .ok (.iaload, 1) := by decide +kernel
theorem dX5_without_53 : decode cX5_without 53 = .ok (.aload_n 0, 1) := by decide +kernel
theorem dX5_without_54 : decode cX5_without 54 = .ok (.getfield 47, 3) := by decide +kernel
theorem dX5_without_57 : decode cX5_without 57 = .ok (.iload 6, 2) := by decide +kernel
theorem dX5_without_59 : decode cX5_without 59 = .ok (.iaload, 1) := by decide +kernel
theorem dX5_without_60 : decode cX5_without 60 = .ok (.invokevirtual 101, 3) := by decide +kernel
theorem dX5_without_63 : decode cX5_without 63 = .ok (.aload_n 0, 1) := by decide +kernel
theorem dX5_without_64 : decode cX5_without 64 = .ok (.iconst 1, 1) := by decide +kernel
theorem dX5_without_65 : decode cX5_without 65 = .ok (.iload_n 1, 1) := by decide +kernel
theorem dX5_without_66 : decode cX5_without 66 = .ok (.isub, 1) := by decide +kernel
theorem dX5_without_67 : decode cX5_without 67 = .ok (.aload_n 0, 1) := by decide +kernel
theorem dX5_without_68 : decode cX5_without 68 = .ok (.getfield 50, 3) := by decide +kernel
theorem dX5_without_71 : decode cX5_without 71 = .ok (.iconst 0, 1) := by decide +kernel
theorem dX5_without_72 : decode cX5_without 72 = .ok (.iaload, 1) := by decide +kernel
theorem dX5_without_73 : decode cX5_without 73 = .ok (.aload_n 0, 1) := by decide +kernel
theorem dX5_without_74 : decode cX5_without 74 = .ok (.getfield 47, 3) := by decide +kernel
theorem dX5_without_77 : decode cX5_without 77 = .ok (.iload 6, 2) := by decide +kernel
theorem dX5_without_79 : decode cX5_without 79 = .ok (.iaload, 1) := by decide +kernel
theorem dX5_without_80 : decode cX5_without 80 = .ok (.invokevirtual 101, 3) := by decide +kernel
theorem dX5_without_83 : decode cX5_without 83 = .ok (.isub, 1) := by decide +kernel
theorem dX5_without_84 : decode cX5_without 84 = .ok (.i2l, 1) := by decide +kernel
theorem dX5_without_85 : decode cX5_without 85 = .ok (.lastore, 1) := by decide +kernel
theorem dX5_without_86 : decode cX5_without 86 = .ok (.iinc 5 1, 3) := by decide +kernel
theorem dX5_without_89 : decode cX5_without 89 = .ok (.iinc 6 1, 3) := by decide +kernel
theorem dX5_without_92 : decode cX5_without 92 = .ok (.goto (-75), 3) := by decide +kernel
theorem dX5_without_95 : decode cX5_without 95 = .ok (.iinc 4 1, 3) := by decide +kernel
theorem dX5_without_98 : decode cX5_without 98 = .ok (.goto (-95), 3) := by decide +kernel
theorem dX5_without_101 : decode cX5_without 101 = .ok (.iload_n 3, 1) := by decide +kernel
theorem dX5_without_102 : decode cX5_without 102 = .ok (.iconst 1, 1) := by decide +kernel
theorem dX5_without_103 : decode cX5_without 103 = .ok (.if_icmp .ne 5, 3) := by decide +kernel
theorem dX5_without_106 : decode cX5_without 106 = .ok (.lconst 1, 1) := by decide +kernel
theorem dX5_without_107 : decode cX5_without 107 = .ok (.lreturn, 1) := by decide +kernel
theorem dX5_without_108 : decode cX5_without 108 = .ok (.iload_n 3, 1) := by decide +kernel
theorem dX5_without_109 : decode cX5_without 109 = .ok (.iconst 2, 1) := by decide +kernel
theorem dX5_without_110 : decode cX5_without 110 = .ok (.if_icmp .ne 10, 3) := by decide +kernel
theorem dX5_without_113 : decode cX5_without 113 = .ok (.aload_n 0, 1) := by decide +kernel
theorem dX5_without_114 : decode cX5_without 114 = .ok (.getfield 44, 3) := by decide +kernel
theorem dX5_without_117 : decode cX5_without 117 = .ok (.iconst 0, 1) := by decide +kernel
theorem dX5_without_118 : decode cX5_without 118 = .ok (.laload, 1) := by decide +kernel
theorem dX5_without_119 : decode cX5_without 119 = .ok (.lreturn, 1) := by decide +kernel
theorem dX5_without_120 : decode cX5_without 120 = .ok (.iload_n 3, 1) := by decide +kernel
theorem dX5_without_121 : decode cX5_without 121 = .ok (.iconst 3, 1) := by decide +kernel
theorem dX5_without_122 : decode cX5_without 122 = .ok (.if_icmp .ne 31, 3) := by decide +kernel
theorem dX5_without_125 : decode cX5_without 125 = .ok (.aload_n 0, 1) := by decide +kernel
theorem dX5_without_126 : decode cX5_without 126 = .ok (.getfield 44, 3) := by decide +kernel
theorem dX5_without_129 : decode cX5_without 129 = .ok (.iconst 0, 1) := by decide +kernel
theorem dX5_without_130 : decode cX5_without 130 = .ok (.laload, 1) := by decide +kernel
theorem dX5_without_131 : decode cX5_without 131 = .ok (.aload_n 0, 1) := by decide +kernel
theorem dX5_without_132 : decode cX5_without 132 = .ok (.getfield 44, 3) := by decide +kernel
theorem dX5_without_135 : decode cX5_without 135 = .ok (.iconst 4, 1) := by decide +kernel
theorem dX5_without_136 : decode cX5_without 136 = .ok (.laload, 1) := by decide +kernel
theorem dX5_without_137 : decode cX5_without 137 = .ok (.lmul, 1) := by decide +kernel
theorem dX5_without_138 : decode cX5_without 138 = .ok (.aload_n 0, 1) := by decide +kernel
theorem dX5_without_139 : decode cX5_without 139 = .ok (.getfield 44, 3) := by decide +kernel
theorem dX5_without_142 : decode cX5_without 142 = .ok (.iconst 1, 1) := by decide +kernel
theorem dX5_without_143 : decode cX5_without 143 = .ok (.laload, 1) := by decide +kernel
theorem dX5_without_144 : decode cX5_without 144 = .ok (.aload_n 0, 1) := by decide +kernel
theorem dX5_without_145 : decode cX5_without 145 = .ok (.getfield 44, 3) := by decide +kernel
theorem dX5_without_148 : decode cX5_without 148 = .ok (.iconst 3, 1) := by decide +kernel
theorem dX5_without_149 : decode cX5_without 149 = .ok (.laload, 1) := by decide +kernel
theorem dX5_without_150 : decode cX5_without 150 = .ok (.lmul, 1) := by decide +kernel
theorem dX5_without_151 : decode cX5_without 151 = .ok (.lsub, 1) := by decide +kernel
theorem dX5_without_152 : decode cX5_without 152 = .ok (.lreturn, 1) := by decide +kernel
theorem dX5_without_153 : decode cX5_without 153 = .ok (.aload_n 0, 1) := by decide +kernel
theorem dX5_without_154 : decode cX5_without 154 = .ok (.getfield 44, 3) := by decide +kernel
theorem dX5_without_157 : decode cX5_without 157 = .ok (.iconst 0, 1) := by decide +kernel
theorem dX5_without_158 : decode cX5_without 158 = .ok (.laload, 1) := by decide +kernel
theorem dX5_without_159 : decode cX5_without 159 = .ok (.aload_n 0, 1) := by decide +kernel
theorem dX5_without_160 : decode cX5_without 160 = .ok (.getfield 44, 3) := by decide +kernel
theorem dX5_without_163 : decode cX5_without 163 = .ok (.iconst 4, 1) := by decide +kernel
theorem dX5_without_164 : decode cX5_without 164 = .ok (.laload, 1) := by decide +kernel
theorem dX5_without_165 : decode cX5_without 165 = .ok (.aload_n 0, 1) := by decide +kernel
theorem dX5_without_166 : decode cX5_without 166 = .ok (.getfield 44, 3) := by decide +kernel
theorem dX5_without_169 : decode cX5_without 169 = .ok (.bipush 8, 2) := by decide +kernel
theorem dX5_without_171 : decode cX5_without 171 = .ok (.laload, 1) := by decide +kernel
theorem dX5_without_172 : decode cX5_without 172 = .ok (.lmul, 1) := by decide +kernel
theorem dX5_without_173 : decode cX5_without 173 = .ok (.aload_n 0, 1) := by decide +kernel
theorem dX5_without_174 : decode cX5_without 174 = .ok (.getfield 44, 3) := by decide +kernel
theorem dX5_without_177 : decode cX5_without 177 = .ok (.iconst 5, 1) := by decide +kernel
theorem dX5_without_178 : decode cX5_without 178 = .ok (.laload, 1) := by decide +kernel
theorem dX5_without_179 : decode cX5_without 179 = .ok (.aload_n 0, 1) := by decide +kernel
theorem dX5_without_180 : decode cX5_without 180 = .ok (.getfield 44, 3) := by decide +kernel
theorem dX5_without_183 : decode cX5_without 183 = .ok (.bipush 7, 2) := by decide +kernel
theorem dX5_without_185 : decode cX5_without 185 = .ok (.laload, 1) := by decide +kernel
theorem dX5_without_186 : decode cX5_without 186 = .ok (.lmul, 1) := by decide +kernel
theorem dX5_without_187 : decode cX5_without 187 = .ok (.lsub, 1) := by decide +kernel
theorem dX5_without_188 : decode cX5_without 188 = .ok (.lmul, 1) := by decide +kernel
theorem dX5_without_189 : decode cX5_without 189 = .ok (.aload_n 0, 1) := by decide +kernel
theorem dX5_without_190 : decode cX5_without 190 = .ok (.getfield 44, 3) := by decide +kernel
theorem dX5_without_193 : decode cX5_without 193 = .ok (.iconst 1, 1) := by decide +kernel
theorem dX5_without_194 : decode cX5_without 194 = .ok (.laload, 1) := by decide +kernel
theorem dX5_without_195 : decode cX5_without 195 = .ok (.aload_n 0, 1) := by decide +kernel
theorem dX5_without_196 : decode cX5_without 196 = .ok (.getfield 44, 3) := by decide +kernel
theorem dX5_without_199 : decode cX5_without 199 = .ok (.iconst 3, 1) := by decide +kernel
theorem dX5_without_200 : decode cX5_without 200 = .ok (.laload, 1) := by decide +kernel
theorem dX5_without_201 : decode cX5_without 201 = .ok (.aload_n 0, 1) := by decide +kernel
theorem dX5_without_202 : decode cX5_without 202 = .ok (.getfield 44, 3) := by decide +kernel
theorem dX5_without_205 : decode cX5_without 205 = .ok (.bipush 8, 2) := by decide +kernel
theorem dX5_without_207 : decode cX5_without 207 = .ok (.laload, 1) := by decide +kernel
theorem dX5_without_208 : decode cX5_without 208 = .ok (.lmul, 1) := by decide +kernel
theorem dX5_without_209 : decode cX5_without 209 = .ok (.aload_n 0, 1) := by decide +kernel
theorem dX5_without_210 : decode cX5_without 210 = .ok (.getfield 44, 3) := by decide +kernel
theorem dX5_without_213 : decode cX5_without 213 = .ok (.iconst 5, 1) := by decide +kernel
theorem dX5_without_214 : decode cX5_without 214 = .ok (.laload, 1) := by decide +kernel
theorem dX5_without_215 : decode cX5_without 215 = .ok (.aload_n 0, 1) := by decide +kernel
theorem dX5_without_216 : decode cX5_without 216 = .ok (.getfield 44, 3) := by decide +kernel
theorem dX5_without_219 : decode cX5_without 219 = .ok (.bipush 6, 2) := by decide +kernel
theorem dX5_without_221 : decode cX5_without 221 = .ok (.laload, 1) := by decide +kernel
theorem dX5_without_222 : decode cX5_without 222 = .ok (.lmul, 1) := by decide +kernel
theorem dX5_without_223 : decode cX5_without 223 = .ok (.lsub, 1) := by decide +kernel
theorem dX5_without_224 : decode cX5_without 224 = .ok (.lmul, 1) := by decide +kernel
theorem dX5_without_225 : decode cX5_without 225 = .ok (.lsub, 1) := by decide +kernel
theorem dX5_without_226 : decode cX5_without 226 = .ok (.aload_n 0, 1) := by decide +kernel
theorem dX5_without_227 : decode cX5_without 227 = .ok (.getfield 44, 3) := by decide +kernel
theorem dX5_without_230 : decode cX5_without 230 = .ok (.iconst 2, 1) := by decide +kernel
theorem dX5_without_231 : decode cX5_without 231 = .ok (.laload, 1) := by decide +kernel
theorem dX5_without_232 : decode cX5_without 232 = .ok (.aload_n 0, 1) := by decide +kernel
theorem dX5_without_233 : decode cX5_without 233 = .ok (.getfield 44, 3) := by decide +kernel
theorem dX5_without_236 : decode cX5_without 236 = .ok (.iconst 3, 1) := by decide +kernel
theorem dX5_without_237 : decode cX5_without 237 = .ok (.laload, 1) := by decide +kernel
theorem dX5_without_238 : decode cX5_without 238 = .ok (.aload_n 0, 1) := by decide +kernel
theorem dX5_without_239 : decode cX5_without 239 = .ok (.getfield 44, 3) := by decide +kernel
theorem dX5_without_242 : decode cX5_without 242 = .ok (.bipush 7, 2) := by decide +kernel
theorem dX5_without_244 : decode cX5_without 244 = .ok (.laload, 1) := by decide +kernel
theorem dX5_without_245 : decode cX5_without 245 = .ok (.lmul, 1) := by decide +kernel
theorem dX5_without_246 : decode cX5_without 246 = .ok (.aload_n 0, 1) := by decide +kernel
theorem dX5_without_247 : decode cX5_without 247 = .ok (.getfield 44, 3) := by decide +kernel
theorem dX5_without_250 : decode cX5_without 250 = .ok (.iconst 4, 1) := by decide +kernel
theorem dX5_without_251 : decode cX5_without 251 = .ok (.laload, 1) := by decide +kernel
theorem dX5_without_252 : decode cX5_without 252 = .ok (.aload_n 0, 1) := by decide +kernel
theorem dX5_without_253 : decode cX5_without 253 = .ok (.getfield 44, 3) := by decide +kernel
theorem dX5_without_256 : decode cX5_without 256 = .ok (.bipush 6, 2) := by decide +kernel
theorem dX5_without_258 : decode cX5_without 258 = .ok (.laload, 1) := by decide +kernel
theorem dX5_without_259 : decode cX5_without 259 = .ok (.lmul, 1) := by decide +kernel
theorem dX5_without_260 : decode cX5_without 260 = .ok (.lsub, 1) := by decide +kernel
theorem dX5_without_261 : decode cX5_without 261 = .ok (.lmul, 1) := by decide +kernel
theorem dX5_without_262 : decode cX5_without 262 = .ok (.ladd, 1) := by decide +kernel
theorem dX5_without_263 : decode cX5_without 263 = .ok (.lreturn, 1) := by decide +kernel
theorem dX5_solve_0 : decode cX5_solve 0 = .ok (.lconst 0, 1) := by decide +kernel
theorem dX5_solve_1 : decode cX5_solve 1 = .ok (.lstore_n 3, 1) := by decide +kernel
theorem dX5_solve_2 : decode cX5_solve 2 = .ok (.iconst 0, 1) := by decide +kernel
theorem dX5_solve_3 : decode cX5_solve 3 = .ok (.istore 5, 2) := by decide +kernel
theorem dX5_solve_5 : decode cX5_solve 5 = .ok (.iload 5, 2) := by decide +kernel
theorem dX5_solve_7 : decode cX5_solve 7 = .ok (.iconst 4, 1) := by decide +kernel
theorem dX5_solve_8 : decode cX5_solve 8 = .ok (.if_icmp .ge 17, 3) := by decide +kernel
theorem dX5_solve_11 : decode cX5_solve 11 = .ok (.aload_n 0, 1) := by decide +kernel
theorem dX5_solve_12 : decode cX5_solve 12 = .ok (.getfield 53, 3) := by decide +kernel
theorem dX5_solve_15 : decode cX5_solve 15 = .ok (.iload 5, 2) := by decide +kernel
theorem dX5_solve_17 : decode cX5_solve 17 = .ok (.lconst 0, 1) := by decide +kernel
theorem dX5_solve_18 : decode cX5_solve 18 = .ok (.lastore, 1) := by decide +kernel
theorem dX5_solve_19 : decode cX5_solve 19 = .ok (.iinc 5 1, 3) := by decide +kernel
theorem dX5_solve_22 : decode cX5_solve 22 = .ok (.goto (-17), 3) := by decide +kernel
theorem dX5_solve_25 : decode cX5_solve 25 = .ok (.iconst 0, 1) := by decide +kernel
theorem dX5_solve_26 : decode cX5_solve 26 = .ok (.istore 5, 2) := by decide +kernel
theorem dX5_solve_28 : decode cX5_solve 28 = .ok (.iload 5, 2) := by decide +kernel
theorem dX5_solve_30 : decode cX5_solve 30 = .ok (.iload_n 2, 1) := by decide +kernel
theorem dX5_solve_31 : decode cX5_solve 31 = .ok (.if_icmp .ge 61, 3) := by decide +kernel
theorem dX5_solve_34 : decode cX5_solve 34 = .ok (.aload_n 0, 1) := by decide +kernel
theorem dX5_solve_35 : decode cX5_solve 35 = .ok (.iload_n 1, 1) := by decide +kernel
theorem dX5_solve_36 : decode cX5_solve 36 = .ok (.iload 5, 2) := by decide +kernel
theorem dX5_solve_38 : decode cX5_solve 38 = .ok (.iload_n 2, 1) := by decide +kernel
theorem dX5_solve_39 : decode cX5_solve 39 = .ok (.invokevirtual 133, 3) := by decide +kernel
theorem dX5_solve_42 : decode cX5_solve 42 = .ok (.lstore 6, 2) := by decide +kernel
theorem dX5_solve_44 : decode cX5_solve 44 = .ok (.aload_n 0, 1) := by decide +kernel
theorem dX5_solve_45 : decode cX5_solve 45 = .ok (.getfield 53, 3) := by decide +kernel
theorem dX5_solve_48 : decode cX5_solve 48 = .ok (.aload_n 0, 1) := by decide +kernel
theorem dX5_solve_49 : decode cX5_solve 49 = .ok (.getfield 47, 3) := by decide +kernel
theorem dX5_solve_52 : decode cX5_solve 52 = .ok (.iload 5, 2) := by decide +kernel
theorem dX5_solve_54 : decode cX5_solve 54 = .ok (.iaload, 1) := by decide +kernel
theorem dX5_solve_55 : decode cX5_solve 55 = .ok (.iload 5, 2) := by decide +kernel
theorem dX5_solve_57 : decode cX5_solve 57 = .ok (.iconst 2, 1) := by decide +kernel
theorem dX5_solve_58 : decode cX5_solve 58 = .ok (.irem, 1) := by decide +kernel
theorem dX5_solve_59 : decode cX5_solve 59 = .ok (.ifCond .ne 8, 3) := by decide +kernel
theorem dX5_solve_62 : decode cX5_solve 62 = .ok (.lload 6, 2) := by decide +kernel
theorem dX5_solve_64 : decode cX5_solve 64 = .ok (.goto 6, 3) := by decide +kernel
theorem dX5_solve_67 : decode cX5_solve 67 = .ok (.lload 6, 2) := by decide +kernel
theorem dX5_solve_69 : decode cX5_solve 69 = .ok (.lneg, 1) := by decide +kernel
theorem dX5_solve_70 : decode cX5_solve 70 = .ok (.lastore, 1) := by decide +kernel
theorem dX5_solve_71 : decode cX5_solve 71 = .ok (.lload_n 3, 1) := by decide +kernel
theorem dX5_solve_72 : decode cX5_solve 72 = .ok (.aload_n 0, 1) := by decide +kernel
theorem dX5_solve_73 : decode cX5_solve 73 = .ok (.getfield 53, 3) := by decide +kernel
theorem dX5_solve_76 : decode cX5_solve 76 = .ok (.aload_n 0, 1) := by decide +kernel
theorem dX5_solve_77 : decode cX5_solve 77 = .ok (.getfield 47, 3) := by decide +kernel
theorem dX5_solve_80 : decode cX5_solve 80 = .ok (.iload 5, 2) := by decide +kernel
theorem dX5_solve_82 : decode cX5_solve 82 = .ok (.iaload, 1) := by decide +kernel
theorem dX5_solve_83 : decode cX5_solve 83 = .ok (.laload, 1) := by decide +kernel
theorem dX5_solve_84 : decode cX5_solve 84 = .ok (.ladd, 1) := by decide +kernel
theorem dX5_solve_85 : decode cX5_solve 85 = .ok (.lstore_n 3, 1) := by decide +kernel
theorem dX5_solve_86 : decode cX5_solve 86 = .ok (.iinc 5 1, 3) := by decide +kernel
theorem dX5_solve_89 : decode cX5_solve 89 = .ok (.goto (-61), 3) := by decide +kernel
theorem dX5_solve_92 : decode cX5_solve 92 = .ok (.lload_n 3, 1) := by decide +kernel
theorem dX5_solve_93 : decode cX5_solve 93 = .ok (.lconst 0, 1) := by decide +kernel
theorem dX5_solve_94 : decode cX5_solve 94 = .ok (.lcmp, 1) := by decide +kernel
theorem dX5_solve_95 : decode cX5_solve 95 = .ok (.ifCond .eq 7, 3) := by decide +kernel
theorem dX5_solve_98 : decode cX5_solve 98 = .ok (.iconst 1, 1) := by decide +kernel
theorem dX5_solve_99 : decode cX5_solve 99 = .ok (.goto 4, 3) := by decide +kernel
theorem dX5_solve_102 : decode cX5_solve 102 = .ok (.iconst 0, 1) := by decide +kernel
theorem dX5_solve_103 : decode cX5_solve 103 = .ok (.istore 5, 2) := by decide +kernel
theorem dX5_solve_105 : decode cX5_solve 105 = .ok (.iconst 0, 1) := by decide +kernel
theorem dX5_solve_106 : decode cX5_solve 106 = .ok (.istore 6, 2) := by decide +kernel
theorem dX5_solve_108 : decode cX5_solve 108 = .ok (.iload 6, 2) := by decide +kernel
theorem dX5_solve_110 : decode cX5_solve 110 = .ok (.iload_n 2, 1) := by decide +kernel
theorem dX5_solve_111 : decode cX5_solve 111 = .ok (.if_icmp .ge 68, 3) := by decide +kernel
theorem dX5_solve_114 : decode cX5_solve 114 = .ok (.aload_n 0, 1) := by decide +kernel
theorem dX5_solve_115 : decode cX5_solve 115 = .ok (.getfield 53, 3) := by decide +kernel
theorem dX5_solve_118 : decode cX5_solve 118 = .ok (.aload_n 0, 1) := by decide +kernel
theorem dX5_solve_119 : decode cX5_solve 119 = .ok (.getfield 47, 3) := by decide +kernel
theorem dX5_solve_122 : decode cX5_solve 122 = .ok (.iload 6, 2) := by decide +kernel
theorem dX5_solve_124 : decode cX5_solve 124 = .ok (.iaload, 1) := by decide +kernel
theorem dX5_solve_125 : decode cX5_solve 125 = .ok (.laload, 1) := by decide +kernel
theorem dX5_solve_126 : decode cX5_solve 126 = .ok (.lstore 7, 2) := by decide +kernel
theorem dX5_solve_128 : decode cX5_solve 128 = .ok (.iload 5, 2) := by decide +kernel
theorem dX5_solve_130 : decode cX5_solve 130 = .ok (.ifCond .eq 40, 3) := by decide +kernel
theorem dX5_solve_133 : decode cX5_solve 133 = .ok (.lload 7, 2) := by decide +kernel
theorem dX5_solve_135 : decode cX5_solve 135 = .ok (.lconst 0, 1) := by decide +kernel
theorem dX5_solve_136 : decode cX5_solve 136 = .ok (.lcmp, 1) := by decide +kernel
theorem dX5_solve_137 : decode cX5_solve 137 = .ok (.ifCond .eq 33, 3) := by decide +kernel
theorem dX5_solve_140 : decode cX5_solve 140 = .ok (.lload 7, 2) := by decide +kernel
theorem dX5_solve_142 : decode cX5_solve 142 = .ok (.lconst 0, 1) := by decide +kernel
theorem dX5_solve_143 : decode cX5_solve 143 = .ok (.lcmp, 1) := by decide +kernel
theorem dX5_solve_144 : decode cX5_solve 144 = .ok (.ifCond .le 7, 3) := by decide +kernel
theorem dX5_solve_147 : decode cX5_solve 147 = .ok (.iconst 1, 1) := by decide +kernel
theorem dX5_solve_148 : decode cX5_solve 148 = .ok (.goto 4, 3) := by decide +kernel
theorem dX5_solve_151 : decode cX5_solve 151 = .ok (.iconst 0, 1) := by decide +kernel
theorem dX5_solve_152 : decode cX5_solve 152 = .ok (.lload_n 3, 1) := by decide +kernel
theorem dX5_solve_153 : decode cX5_solve 153 = .ok (.lconst 0, 1) := by decide +kernel
theorem dX5_solve_154 : decode cX5_solve 154 = .ok (.lcmp, 1) := by decide +kernel
theorem dX5_solve_155 : decode cX5_solve 155 = .ok (.ifCond .le 7, 3) := by decide +kernel
theorem dX5_solve_158 : decode cX5_solve 158 = .ok (.iconst 1, 1) := by decide +kernel
theorem dX5_solve_159 : decode cX5_solve 159 = .ok (.goto 4, 3) := by decide +kernel
theorem dX5_solve_162 : decode cX5_solve 162 = .ok (.iconst 0, 1) := by decide +kernel
theorem dX5_solve_163 : decode cX5_solve 163 = .ok (.if_icmp .ne 7, 3) := by decide +kernel
theorem dX5_solve_166 : decode cX5_solve 166 = .ok (.iconst 1, 1) := by decide +kernel
theorem dX5_solve_167 : decode cX5_solve 167 = .ok (.goto 4, 3) := by decide +kernel
theorem dX5_solve_170 : decode cX5_solve 170 = .ok (.iconst 0, 1) := by decide +kernel
theorem dX5_solve_171 : decode cX5_solve 171 = .ok (.istore 5, 2) := by decide +kernel
theorem dX5_solve_173 : decode cX5_solve 173 = .ok (.iinc 6 1, 3) := by decide +kernel
theorem dX5_solve_176 : decode cX5_solve 176 = .ok (.goto (-68), 3) := by decide +kernel
theorem dX5_solve_179 : decode cX5_solve 179 = .ok (.iload 5, 2) := by decide +kernel
theorem dX5_solve_181 : decode cX5_solve 181 = .ok (.ifCond .ne 5, 3) := by decide +kernel
theorem dX5_solve_184 : decode cX5_solve 184 = .ok (.iconst 0, 1) := by decide +kernel
theorem dX5_solve_185 : decode cX5_solve 185 = .ok (.ireturn, 1) := by decide +kernel
theorem dX5_solve_186 : decode cX5_solve 186 = .ok (.lconst 0, 1) := by decide +kernel
theorem dX5_solve_187 : decode cX5_solve 187 = .ok (.lstore 6, 2) := by decide +kernel
theorem dX5_solve_189 : decode cX5_solve 189 = .ok (.iconst 0, 1) := by decide +kernel
theorem dX5_solve_190 : decode cX5_solve 190 = .ok (.istore 8, 2) := by decide +kernel
theorem dX5_solve_192 : decode cX5_solve 192 = .ok (.iload 8, 2) := by decide +kernel
theorem dX5_solve_194 : decode cX5_solve 194 = .ok (.iconst 4, 1) := by decide +kernel
theorem dX5_solve_195 : decode cX5_solve 195 = .ok (.if_icmp .ge 54, 3) := by decide +kernel
theorem dX5_solve_198 : decode cX5_solve 198 = .ok (.aload_n 0, 1) := by decide +kernel
theorem dX5_solve_199 : decode cX5_solve 199 = .ok (.getfield 53, 3) := by decide +kernel
theorem dX5_solve_202 : decode cX5_solve 202 = .ok (.iload 8, 2) := by decide +kernel
theorem dX5_solve_204 : decode cX5_solve 204 = .ok (.lload_n 3, 1) := by decide +kernel
theorem dX5_solve_205 : decode cX5_solve 205 = .ok (.lconst 0, 1) := by decide +kernel
theorem dX5_solve_206 : decode cX5_solve 206 = .ok (.lcmp, 1) := by decide +kernel
theorem dX5_solve_207 : decode cX5_solve 207 = .ok (.ifCond .ge 14, 3) := by decide +kernel
theorem dX5_solve_210 : decode cX5_solve 210 = .ok (.aload_n 0, 1) := by decide +kernel
theorem dX5_solve_211 : decode cX5_solve 211 = .ok (.getfield 53, 3) := by decide +kernel
theorem dX5_solve_214 : decode cX5_solve 214 = .ok (.iload 8, 2) := by decide +kernel
theorem dX5_solve_216 : decode cX5_solve 216 = .ok (.laload, 1) := by decide +kernel
theorem dX5_solve_217 : decode cX5_solve 217 = .ok (.lneg, 1) := by decide +kernel
theorem dX5_solve_218 : decode cX5_solve 218 = .ok (.goto 10, 3) := by decide +kernel
theorem dX5_solve_221 : decode cX5_solve 221 = .ok (.aload_n 0, 1) := by decide +kernel
theorem dX5_solve_222 : decode cX5_solve 222 = .ok (.getfield 53, 3) := by decide +kernel
theorem dX5_solve_225 : decode cX5_solve 225 = .ok (.iload 8, 2) := by decide +kernel
theorem dX5_solve_227 : decode cX5_solve 227 = .ok (.laload, 1) := by decide +kernel
theorem dX5_solve_228 : decode cX5_solve 228 = .ok (.lastore, 1) := by decide +kernel
theorem dX5_solve_229 : decode cX5_solve 229 = .ok (.lload 6, 2) := by decide +kernel
theorem dX5_solve_231 : decode cX5_solve 231 = .ok (.aload_n 0, 1) := by decide +kernel
theorem dX5_solve_232 : decode cX5_solve 232 = .ok (.getfield 53, 3) := by decide +kernel
theorem dX5_solve_235 : decode cX5_solve 235 = .ok (.iload 8, 2) := by decide +kernel
theorem dX5_solve_237 : decode cX5_solve 237 = .ok (.laload, 1) := by decide +kernel
theorem dX5_solve_238 : decode cX5_solve 238 = .ok (.invokestatic 97, 3) := by decide +kernel
theorem dX5_solve_241 : decode cX5_solve 241 = .ok (.lstore 6, 2) := by decide +kernel
theorem dX5_solve_243 : decode cX5_solve 243 = .ok (.iinc 8 1, 3) := by decide +kernel
theorem dX5_solve_246 : decode cX5_solve 246 = .ok (.goto (-54), 3) := by decide +kernel
theorem dX5_solve_249 : decode cX5_solve 249 = .ok (.iconst 0, 1) := by decide +kernel
theorem dX5_solve_250 : decode cX5_solve 250 = .ok (.istore 8, 2) := by decide +kernel
theorem dX5_solve_252 : decode cX5_solve 252 = .ok (.iload 8, 2) := by decide +kernel
theorem dX5_solve_254 : decode cX5_solve 254 = .ok (.iconst 4, 1) := by decide +kernel
theorem dX5_solve_255 : decode cX5_solve 255 = .ok (.if_icmp .ge 21, 3) := by decide +kernel
theorem dX5_solve_258 : decode cX5_solve 258 = .ok (.aload_n 0, 1) := by decide +kernel
theorem dX5_solve_259 : decode cX5_solve 259 = .ok (.getfield 53, 3) := by decide +kernel
theorem dX5_solve_262 : decode cX5_solve 262 = .ok (.iload 8, 2) := by decide +kernel
theorem dX5_solve_264 : decode cX5_solve 264 = .ok (.dup2, 1) := by decide +kernel
theorem dX5_solve_265 : decode cX5_solve 265 = .ok (.laload, 1) := by decide +kernel
theorem dX5_solve_266 : decode cX5_solve 266 = .ok (.lload 6, 2) := by decide +kernel
theorem dX5_solve_268 : decode cX5_solve 268 = .ok (.ldiv, 1) := by decide +kernel
theorem dX5_solve_269 : decode cX5_solve 269 = .ok (.lastore, 1) := by decide +kernel
theorem dX5_solve_270 : decode cX5_solve 270 = .ok (.iinc 8 1, 3) := by decide +kernel
theorem dX5_solve_273 : decode cX5_solve 273 = .ok (.goto (-21), 3) := by decide +kernel
theorem dX5_solve_276 : decode cX5_solve 276 = .ok (.iconst 1, 1) := by decide +kernel
theorem dX5_solve_277 : decode cX5_solve 277 = .ok (.ireturn, 1) := by decide +kernel
theorem dX5_ahead_0 : decode cX5_ahead 0 = .ok (.aload_n 0, 1) := by decide +kernel
theorem dX5_ahead_1 : decode cX5_ahead 1 = .ok (.getfield 53, 3) := by decide +kernel
theorem dX5_ahead_4 : decode cX5_ahead 4 = .ok (.iconst 0, 1) := by decide +kernel
theorem dX5_ahead_5 : decode cX5_ahead 5 = .ok (.laload, 1) := by decide +kernel
theorem dX5_ahead_6 : decode cX5_ahead 6 = .ok (.aload_n 0, 1) := by decide +kernel
theorem dX5_ahead_7 : decode cX5_ahead 7 = .ok (.getfield 53, 3) := by decide +kernel
theorem dX5_ahead_10 : decode cX5_ahead 10 = .ok (.iconst 1, 1) := by decide +kernel
theorem dX5_ahead_11 : decode cX5_ahead 11 = .ok (.laload, 1) := by decide +kernel
theorem dX5_ahead_12 : decode cX5_ahead 12 = .ok (.ladd, 1) := by decide +kernel
theorem dX5_ahead_13 : decode cX5_ahead 13 = .ok (.aload_n 0, 1) := by decide +kernel
theorem dX5_ahead_14 : decode cX5_ahead 14 = .ok (.getfield 53, 3) := by decide +kernel
theorem dX5_ahead_17 : decode cX5_ahead 17 = .ok (.iconst 2, 1) := by decide +kernel
theorem dX5_ahead_18 : decode cX5_ahead 18 = .ok (.laload, 1) := by decide +kernel
theorem dX5_ahead_19 : decode cX5_ahead 19 = .ok (.ladd, 1) := by decide +kernel
theorem dX5_ahead_20 : decode cX5_ahead 20 = .ok (.aload_n 0, 1) := by decide +kernel
theorem dX5_ahead_21 : decode cX5_ahead 21 = .ok (.getfield 53, 3) := by decide +kernel
theorem dX5_ahead_24 : decode cX5_ahead 24 = .ok (.iconst 3, 1) := by decide +kernel
theorem dX5_ahead_25 : decode cX5_ahead 25 = .ok (.laload, 1) := by decide +kernel
theorem dX5_ahead_26 : decode cX5_ahead 26 = .ok (.ladd, 1) := by decide +kernel
theorem dX5_ahead_27 : decode cX5_ahead 27 = .ok (.lstore_n 2, 1) := by decide +kernel
theorem dX5_ahead_28 : decode cX5_ahead 28 = .ok (.iconst 0, 1) := by decide +kernel
theorem dX5_ahead_29 : decode cX5_ahead 29 = .ok (.istore 4, 2) := by decide +kernel
theorem dX5_ahead_31 : decode cX5_ahead 31 = .ok (.iload 4, 2) := by decide +kernel
theorem dX5_ahead_33 : decode cX5_ahead 33 = .ok (.iconst 4, 1) := by decide +kernel
theorem dX5_ahead_34 : decode cX5_ahead 34 = .ok (.if_icmp .ge 62, 3) := by decide +kernel
theorem dX5_ahead_37 : decode cX5_ahead 37 = .ok (.aload_n 0, 1) := by decide +kernel
theorem dX5_ahead_38 : decode cX5_ahead 38 = .ok (.getfield 53, 3) := by decide +kernel
theorem dX5_ahead_41 : decode cX5_ahead 41 = .ok (.iload 4, 2) := by decide +kernel
theorem dX5_ahead_43 : decode cX5_ahead 43 = .ok (.laload, 1) := by decide +kernel
theorem dX5_ahead_44 : decode cX5_ahead 44 = .ok (.aload_n 0, 1) := by decide +kernel
theorem dX5_ahead_45 : decode cX5_ahead 45 = .ok (.getfield 35, 3) := by decide +kernel
theorem dX5_ahead_48 : decode cX5_ahead 48 = .ok (.iload_n 1, 1) := by decide +kernel
theorem dX5_ahead_49 : decode cX5_ahead 49 = .ok (.laload, 1) := by decide +kernel
theorem dX5_ahead_50 : decode cX5_ahead 50 = .ok (.lmul, 1) := by decide +kernel
theorem dX5_ahead_51 : decode cX5_ahead 51 = .ok (.lstore 5, 2) := by decide +kernel
theorem dX5_ahead_53 : decode cX5_ahead 53 = .ok (.aload_n 0, 1) := by decide +kernel
theorem dX5_ahead_54 : decode cX5_ahead 54 = .ok (.getfield 32, 3) := by decide +kernel
theorem dX5_ahead_57 : decode cX5_ahead 57 = .ok (.iconst 4, 1) := by decide +kernel
theorem dX5_ahead_58 : decode cX5_ahead 58 = .ok (.iload_n 1, 1) := by decide +kernel
theorem dX5_ahead_59 : decode cX5_ahead 59 = .ok (.imul, 1) := by decide +kernel
theorem dX5_ahead_60 : decode cX5_ahead 60 = .ok (.iload 4, 2) := by decide +kernel
theorem dX5_ahead_62 : decode cX5_ahead 62 = .ok (.iadd, 1) := by decide +kernel
theorem dX5_ahead_63 : decode cX5_ahead 63 = .ok (.laload, 1) := by decide +kernel
theorem dX5_ahead_64 : decode cX5_ahead 64 = .ok (.lload_n 2, 1) := by decide +kernel
theorem dX5_ahead_65 : decode cX5_ahead 65 = .ok (.lmul, 1) := by decide +kernel
theorem dX5_ahead_66 : decode cX5_ahead 66 = .ok (.lstore 7, 2) := by decide +kernel
theorem dX5_ahead_68 : decode cX5_ahead 68 = .ok (.lload 5, 2) := by decide +kernel
theorem dX5_ahead_70 : decode cX5_ahead 70 = .ok (.lload 7, 2) := by decide +kernel
theorem dX5_ahead_72 : decode cX5_ahead 72 = .ok (.lcmp, 1) := by decide +kernel
theorem dX5_ahead_73 : decode cX5_ahead 73 = .ok (.ifCond .eq 17, 3) := by decide +kernel
theorem dX5_ahead_76 : decode cX5_ahead 76 = .ok (.lload 5, 2) := by decide +kernel
theorem dX5_ahead_78 : decode cX5_ahead 78 = .ok (.lload 7, 2) := by decide +kernel
theorem dX5_ahead_80 : decode cX5_ahead 80 = .ok (.lcmp, 1) := by decide +kernel
theorem dX5_ahead_81 : decode cX5_ahead 81 = .ok (.ifCond .le 7, 3) := by decide +kernel
theorem dX5_ahead_84 : decode cX5_ahead 84 = .ok (.iconst 1, 1) := by decide +kernel
theorem dX5_ahead_85 : decode cX5_ahead 85 = .ok (.goto 4, 3) := by decide +kernel
theorem dX5_ahead_88 : decode cX5_ahead 88 = .ok (.iconst (-1), 1) := by decide +kernel
theorem dX5_ahead_89 : decode cX5_ahead 89 = .ok (.ireturn, 1) := by decide +kernel
theorem dX5_ahead_90 : decode cX5_ahead 90 = .ok (.iinc 4 1, 3) := by decide +kernel
theorem dX5_ahead_93 : decode cX5_ahead 93 = .ok (.goto (-62), 3) := by decide +kernel
theorem dX5_ahead_96 : decode cX5_ahead 96 = .ok (.iconst 0, 1) := by decide +kernel
theorem dX5_ahead_97 : decode cX5_ahead 97 = .ok (.ireturn, 1) := by decide +kernel
theorem dX5_put_0 : decode cX5_put 0 = .ok (.bipush 80, 2) := by decide +kernel
theorem dX5_put_2 : decode cX5_put 2 = .ok (.iload_n 1, 1) := by decide +kernel
theorem dX5_put_3 : decode cX5_put 3 = .ok (.imul, 1) := by decide +kernel
theorem dX5_put_4 : decode cX5_put 4 = .ok (.istore 4, 2) := by decide +kernel
theorem dX5_put_6 : decode cX5_put 6 = .ok (.iload 4, 2) := by decide +kernel
theorem dX5_put_8 : decode cX5_put 8 = .ok (.bipush 80, 2) := by decide +kernel
theorem dX5_put_10 : decode cX5_put 10 = .ok (.iload_n 1, 1) := by decide +kernel
theorem dX5_put_11 : decode cX5_put 11 = .ok (.imul, 1) := by decide +kernel
theorem dX5_put_12 : decode cX5_put 12 = .ok (.aload_n 0, 1) := by decide +kernel
theorem dX5_put_13 : decode cX5_put 13 = .ok (.getfield 29, 3) := by decide +kernel
theorem dX5_put_16 : decode cX5_put 16 = .ok (.iload_n 1, 1) := by decide +kernel
theorem dX5_put_17 : decode cX5_put 17 = .ok (.iaload, 1) := by decide +kernel
theorem dX5_put_18 : decode cX5_put 18 = .ok (.iadd, 1) := by decide +kernel
theorem dX5_put_19 : decode cX5_put 19 = .ok (.if_icmp .ge 18, 3) := by decide +kernel
theorem dX5_put_22 : decode cX5_put 22 = .ok (.aload_n 0, 1) := by decide +kernel
theorem dX5_put_23 : decode cX5_put 23 = .ok (.iload 4, 2) := by decide +kernel
theorem dX5_put_25 : decode cX5_put 25 = .ok (.invokevirtual 137, 3) := by decide +kernel
theorem dX5_put_28 : decode cX5_put 28 = .ok (.ifCond .ge 9, 3) := by decide +kernel
theorem dX5_put_31 : decode cX5_put 31 = .ok (.iinc 4 1, 3) := by decide +kernel
theorem dX5_put_34 : decode cX5_put 34 = .ok (.goto (-28), 3) := by decide +kernel
theorem dX5_put_37 : decode cX5_put 37 = .ok (.iload 4, 2) := by decide +kernel
theorem dX5_put_39 : decode cX5_put 39 = .ok (.bipush 80, 2) := by decide +kernel
theorem dX5_put_41 : decode cX5_put 41 = .ok (.iload_n 1, 1) := by decide +kernel
theorem dX5_put_42 : decode cX5_put 42 = .ok (.imul, 1) := by decide +kernel
theorem dX5_put_43 : decode cX5_put 43 = .ok (.aload_n 0, 1) := by decide +kernel
theorem dX5_put_44 : decode cX5_put 44 = .ok (.getfield 29, 3) := by decide +kernel
theorem dX5_put_47 : decode cX5_put 47 = .ok (.iload_n 1, 1) := by decide +kernel
theorem dX5_put_48 : decode cX5_put 48 = .ok (.iaload, 1) := by decide +kernel
theorem dX5_put_49 : decode cX5_put 49 = .ok (.iadd, 1) := by decide +kernel
theorem dX5_put_50 : decode cX5_put 50 = .ok (.if_icmp .ge 13, 3) := by decide +kernel
theorem dX5_put_53 : decode cX5_put 53 = .ok (.aload_n 0, 1) := by decide +kernel
theorem dX5_put_54 : decode cX5_put 54 = .ok (.iload 4, 2) := by decide +kernel
theorem dX5_put_56 : decode cX5_put 56 = .ok (.invokevirtual 137, 3) := by decide +kernel
theorem dX5_put_59 : decode cX5_put 59 = .ok (.ifCond .ne 4, 3) := by decide +kernel
theorem dX5_put_62 : decode cX5_put 62 = .ok (.return_, 1) := by decide +kernel
theorem dX5_put_63 : decode cX5_put 63 = .ok (.bipush 80, 2) := by decide +kernel
theorem dX5_put_65 : decode cX5_put 65 = .ok (.iload_n 1, 1) := by decide +kernel
theorem dX5_put_66 : decode cX5_put 66 = .ok (.imul, 1) := by decide +kernel
theorem dX5_put_67 : decode cX5_put 67 = .ok (.aload_n 0, 1) := by decide +kernel
theorem dX5_put_68 : decode cX5_put 68 = .ok (.getfield 29, 3) := by decide +kernel
theorem dX5_put_71 : decode cX5_put 71 = .ok (.iload_n 1, 1) := by decide +kernel
theorem dX5_put_72 : decode cX5_put 72 = .ok (.iaload, 1) := by decide +kernel
theorem dX5_put_73 : decode cX5_put 73 = .ok (.iadd, 1) := by decide +kernel
theorem dX5_put_74 : decode cX5_put 74 = .ok (.istore 5, 2) := by decide +kernel
theorem dX5_put_76 : decode cX5_put 76 = .ok (.iload 5, 2) := by decide +kernel
theorem dX5_put_78 : decode cX5_put 78 = .ok (.iload 4, 2) := by decide +kernel
theorem dX5_put_80 : decode cX5_put 80 = .ok (.if_icmp .le 98, 3) := by decide +kernel
theorem dX5_put_83 : decode cX5_put 83 = .ok (.aload_n 0, 1) := by decide +kernel
theorem dX5_put_84 : decode cX5_put 84 = .ok (.getfield 35, 3) := by decide +kernel
theorem dX5_put_87 : decode cX5_put 87 = .ok (.iload 5, 2) := by decide +kernel
theorem dX5_put_89 : decode cX5_put 89 = .ok (.aload_n 0, 1) := by decide +kernel
theorem dX5_put_90 : decode cX5_put 90 = .ok (.getfield 35, 3) := by decide +kernel
theorem dX5_put_93 : decode cX5_put 93 = .ok (.iload 5, 2) := by decide +kernel
theorem dX5_put_95 : decode cX5_put 95 = .ok (.iconst 1, 1) := by decide +kernel
theorem dX5_put_96 : decode cX5_put 96 = .ok (.isub, 1) := by decide +kernel
theorem dX5_put_97 : decode cX5_put 97 = .ok (.laload, 1) := by decide +kernel
theorem dX5_put_98 : decode cX5_put 98 = .ok (.lastore, 1) := by decide +kernel
theorem dX5_put_99 : decode cX5_put 99 = .ok (.aload_n 0, 1) := by decide +kernel
theorem dX5_put_100 : decode cX5_put 100 = .ok (.getfield 38, 3) := by decide +kernel
theorem dX5_put_103 : decode cX5_put 103 = .ok (.iload 5, 2) := by decide +kernel
theorem dX5_put_105 : decode cX5_put 105 = .ok (.aload_n 0, 1) := by decide +kernel
theorem dX5_put_106 : decode cX5_put 106 = .ok (.getfield 38, 3) := by decide +kernel
theorem dX5_put_109 : decode cX5_put 109 = .ok (.iload 5, 2) := by decide +kernel
theorem dX5_put_111 : decode cX5_put 111 = .ok (.iconst 1, 1) := by decide +kernel
theorem dX5_put_112 : decode cX5_put 112 = .ok (.isub, 1) := by decide +kernel
theorem dX5_put_113 : decode cX5_put 113 = .ok (.iaload, 1) := by decide +kernel
theorem dX5_put_114 : decode cX5_put 114 = .ok (.iastore, 1) := by decide +kernel
theorem dX5_put_115 : decode cX5_put 115 = .ok (.aload_n 0, 1) := by decide +kernel
theorem dX5_put_116 : decode cX5_put 116 = .ok (.getfield 41, 3) := by decide +kernel
theorem dX5_put_119 : decode cX5_put 119 = .ok (.iload 5, 2) := by decide +kernel
theorem dX5_put_121 : decode cX5_put 121 = .ok (.aload_n 0, 1) := by decide +kernel
theorem dX5_put_122 : decode cX5_put 122 = .ok (.getfield 41, 3) := by decide +kernel
theorem dX5_put_125 : decode cX5_put 125 = .ok (.iload 5, 2) := by decide +kernel
theorem dX5_put_127 : decode cX5_put 127 = .ok (.iconst 1, 1) := by decide +kernel
theorem dX5_put_128 : decode cX5_put 128 = .ok (.isub, 1) := by decide +kernel
theorem dX5_put_129 : decode cX5_put 129 = .ok (.iaload, 1) := by decide +kernel
theorem dX5_put_130 : decode cX5_put 130 = .ok (.iastore, 1) := by decide +kernel
theorem dX5_put_131 : decode cX5_put 131 = .ok (.iconst 0, 1) := by decide +kernel
theorem dX5_put_132 : decode cX5_put 132 = .ok (.istore 6, 2) := by decide +kernel
theorem dX5_put_134 : decode cX5_put 134 = .ok (.iload 6, 2) := by decide +kernel
theorem dX5_put_136 : decode cX5_put 136 = .ok (.iconst 4, 1) := by decide +kernel
theorem dX5_put_137 : decode cX5_put 137 = .ok (.if_icmp .ge 35, 3) := by decide +kernel
theorem dX5_put_140 : decode cX5_put 140 = .ok (.aload_n 0, 1) := by decide +kernel
theorem dX5_put_141 : decode cX5_put 141 = .ok (.getfield 32, 3) := by decide +kernel
theorem dX5_put_144 : decode cX5_put 144 = .ok (.iconst 4, 1) := by decide +kernel
theorem dX5_put_145 : decode cX5_put 145 = .ok (.iload 5, 2) := by decide +kernel
theorem dX5_put_147 : decode cX5_put 147 = .ok (.imul, 1) := by decide +kernel
theorem dX5_put_148 : decode cX5_put 148 = .ok (.iload 6, 2) := by decide +kernel
theorem dX5_put_150 : decode cX5_put 150 = .ok (.iadd, 1) := by decide +kernel
theorem dX5_put_151 : decode cX5_put 151 = .ok (.aload_n 0, 1) := by decide +kernel
theorem dX5_put_152 : decode cX5_put 152 = .ok (.getfield 32, 3) := by decide +kernel
theorem dX5_put_155 : decode cX5_put 155 = .ok (.iconst 4, 1) := by decide +kernel
theorem dX5_put_156 : decode cX5_put 156 = .ok (.iload 5, 2) := by decide +kernel
theorem dX5_put_158 : decode cX5_put 158 = .ok (.imul, 1) := by decide +kernel
theorem dX5_put_159 : decode cX5_put 159 = .ok (.iconst 4, 1) := by decide +kernel
theorem dX5_put_160 : decode cX5_put 160 = .ok (.isub, 1) := by decide +kernel
theorem dX5_put_161 : decode cX5_put 161 = .ok (.iload 6, 2) := by decide +kernel
theorem dX5_put_163 : decode cX5_put 163 = .ok (.iadd, 1) := by decide +kernel
theorem dX5_put_164 : decode cX5_put 164 = .ok (.laload, 1) := by decide +kernel
theorem dX5_put_165 : decode cX5_put 165 = .ok (.lastore, 1) := by decide +kernel
theorem dX5_put_166 : decode cX5_put 166 = .ok (.iinc 6 1, 3) := by decide +kernel
theorem dX5_put_169 : decode cX5_put 169 = .ok (.goto (-35), 3) := by decide +kernel
theorem dX5_put_172 : decode cX5_put 172 = .ok (.iinc 5 (-1), 3) := by decide +kernel
theorem dX5_put_175 : decode cX5_put 175 = .ok (.goto (-99), 3) := by decide +kernel
theorem dX5_put_178 : decode cX5_put 178 = .ok (.aload_n 0, 1) := by decide +kernel
theorem dX5_put_179 : decode cX5_put 179 = .ok (.getfield 29, 3) := by decide +kernel
theorem dX5_put_182 : decode cX5_put 182 = .ok (.iload_n 1, 1) := by decide +kernel
theorem dX5_put_183 : decode cX5_put 183 = .ok (.dup2, 1) := by decide +kernel
theorem dX5_put_184 : decode cX5_put 184 = .ok (.iaload, 1) := by decide +kernel
theorem dX5_put_185 : decode cX5_put 185 = .ok (.iconst 1, 1) := by decide +kernel
theorem dX5_put_186 : decode cX5_put 186 = .ok (.iadd, 1) := by decide +kernel
theorem dX5_put_187 : decode cX5_put 187 = .ok (.iastore, 1) := by decide +kernel
theorem dX5_put_188 : decode cX5_put 188 = .ok (.aload_n 0, 1) := by decide +kernel
theorem dX5_put_189 : decode cX5_put 189 = .ok (.getfield 35, 3) := by decide +kernel
theorem dX5_put_192 : decode cX5_put 192 = .ok (.iload 4, 2) := by decide +kernel
theorem dX5_put_194 : decode cX5_put 194 = .ok (.aload_n 0, 1) := by decide +kernel
theorem dX5_put_195 : decode cX5_put 195 = .ok (.getfield 53, 3) := by decide +kernel
theorem dX5_put_198 : decode cX5_put 198 = .ok (.iconst 0, 1) := by decide +kernel
theorem dX5_put_199 : decode cX5_put 199 = .ok (.laload, 1) := by decide +kernel
theorem dX5_put_200 : decode cX5_put 200 = .ok (.aload_n 0, 1) := by decide +kernel
theorem dX5_put_201 : decode cX5_put 201 = .ok (.getfield 53, 3) := by decide +kernel
theorem dX5_put_204 : decode cX5_put 204 = .ok (.iconst 1, 1) := by decide +kernel
theorem dX5_put_205 : decode cX5_put 205 = .ok (.laload, 1) := by decide +kernel
theorem dX5_put_206 : decode cX5_put 206 = .ok (.ladd, 1) := by decide +kernel
theorem dX5_put_207 : decode cX5_put 207 = .ok (.aload_n 0, 1) := by decide +kernel
theorem dX5_put_208 : decode cX5_put 208 = .ok (.getfield 53, 3) := by decide +kernel
theorem dX5_put_211 : decode cX5_put 211 = .ok (.iconst 2, 1) := by decide +kernel
theorem dX5_put_212 : decode cX5_put 212 = .ok (.laload, 1) := by decide +kernel
theorem dX5_put_213 : decode cX5_put 213 = .ok (.ladd, 1) := by decide +kernel
theorem dX5_put_214 : decode cX5_put 214 = .ok (.aload_n 0, 1) := by decide +kernel
theorem dX5_put_215 : decode cX5_put 215 = .ok (.getfield 53, 3) := by decide +kernel
theorem dX5_put_218 : decode cX5_put 218 = .ok (.iconst 3, 1) := by decide +kernel
theorem dX5_put_219 : decode cX5_put 219 = .ok (.laload, 1) := by decide +kernel
theorem dX5_put_220 : decode cX5_put 220 = .ok (.ladd, 1) := by decide +kernel
theorem dX5_put_221 : decode cX5_put 221 = .ok (.lastore, 1) := by decide +kernel
theorem dX5_put_222 : decode cX5_put 222 = .ok (.aload_n 0, 1) := by decide +kernel
theorem dX5_put_223 : decode cX5_put 223 = .ok (.getfield 38, 3) := by decide +kernel
theorem dX5_put_226 : decode cX5_put 226 = .ok (.iload 4, 2) := by decide +kernel
theorem dX5_put_228 : decode cX5_put 228 = .ok (.iload_n 2, 1) := by decide +kernel
theorem dX5_put_229 : decode cX5_put 229 = .ok (.iastore, 1) := by decide +kernel
theorem dX5_put_230 : decode cX5_put 230 = .ok (.aload_n 0, 1) := by decide +kernel
theorem dX5_put_231 : decode cX5_put 231 = .ok (.getfield 41, 3) := by decide +kernel
theorem dX5_put_234 : decode cX5_put 234 = .ok (.iload 4, 2) := by decide +kernel
theorem dX5_put_236 : decode cX5_put 236 = .ok (.iload_n 3, 1) := by decide +kernel
theorem dX5_put_237 : decode cX5_put 237 = .ok (.iastore, 1) := by decide +kernel
theorem dX5_put_238 : decode cX5_put 238 = .ok (.iconst 0, 1) := by decide +kernel
theorem dX5_put_239 : decode cX5_put 239 = .ok (.istore 5, 2) := by decide +kernel
theorem dX5_put_241 : decode cX5_put 241 = .ok (.iload 5, 2) := by decide +kernel
theorem dX5_put_243 : decode cX5_put 243 = .ok (.iconst 4, 1) := by decide +kernel
theorem dX5_put_244 : decode cX5_put 244 = .ok (.if_icmp .ge 28, 3) := by decide +kernel
theorem dX5_put_247 : decode cX5_put 247 = .ok (.aload_n 0, 1) := by decide +kernel
theorem dX5_put_248 : decode cX5_put 248 = .ok (.getfield 32, 3) := by decide +kernel
theorem dX5_put_251 : decode cX5_put 251 = .ok (.iconst 4, 1) := by decide +kernel
theorem dX5_put_252 : decode cX5_put 252 = .ok (.iload 4, 2) := by decide +kernel
theorem dX5_put_254 : decode cX5_put 254 = .ok (.imul, 1) := by decide +kernel
theorem dX5_put_255 : decode cX5_put 255 = .ok (.iload 5, 2) := by decide +kernel
theorem dX5_put_257 : decode cX5_put 257 = .ok (.iadd, 1) := by decide +kernel
theorem dX5_put_258 : decode cX5_put 258 = .ok (.aload_n 0, 1) := by decide +kernel
theorem dX5_put_259 : decode cX5_put 259 = .ok (.getfield 53, 3) := by decide +kernel
theorem dX5_put_262 : decode cX5_put 262 = .ok (.iload 5, 2) := by decide +kernel
theorem dX5_put_264 : decode cX5_put 264 = .ok (.laload, 1) := by decide +kernel
theorem dX5_put_265 : decode cX5_put 265 = .ok (.lastore, 1) := by decide +kernel
theorem dX5_put_266 : decode cX5_put 266 = .ok (.iinc 5 1, 3) := by decide +kernel
theorem dX5_put_269 : decode cX5_put 269 = .ok (.goto (-28), 3) := by decide +kernel
theorem dX5_put_272 : decode cX5_put 272 = .ok (.return_, 1) := by decide +kernel
theorem dX5_findCorners_0 : decode cX5_findCorners 0 = .ok (.aload_n 0, 1) := by decide +kernel
theorem dX5_findCorners_1 : decode cX5_findCorners 1 = .ok (.getfield 29, 3) := by decide +kernel
theorem dX5_findCorners_4 : decode cX5_findCorners 4 = .ok (.iload_n 1, 1) := by decide +kernel
theorem dX5_findCorners_5 : decode cX5_findCorners 5 = .ok (.iconst 0, 1) := by decide +kernel
theorem dX5_findCorners_6 : decode cX5_findCorners 6 = .ok (.iastore, 1) := by decide +kernel
theorem dX5_findCorners_7 : decode cX5_findCorners 7 = .ok (.iconst 1, 1) := by decide +kernel
theorem dX5_findCorners_8 : decode cX5_findCorners 8 = .ok (.istore_n 2, 1) := by decide +kernel
theorem dX5_findCorners_9 : decode cX5_findCorners 9 = .ok (.iload_n 2, 1) := by decide +kernel
theorem dX5_findCorners_10 : decode cX5_findCorners 10 = .ok (.iconst 1, 1) := by decide +kernel
theorem dX5_findCorners_11 : decode cX5_findCorners 11 = .ok (.aload_n 0, 1) := by decide +kernel
theorem dX5_findCorners_12 : decode cX5_findCorners 12 = .ok (.getfield 7, 3) := by decide +kernel
theorem dX5_findCorners_15 : decode cX5_findCorners 15 = .ok (.iload_n 1, 1) := by decide +kernel
theorem dX5_findCorners_16 : decode cX5_findCorners 16 = .ok (.iaload, 1) := by decide +kernel
theorem dX5_findCorners_17 : decode cX5_findCorners 17 = .ok (.ishl, 1) := by decide +kernel
theorem dX5_findCorners_18 : decode cX5_findCorners 18 = .ok (.if_icmp .ge 105, 3) := by decide +kernel
theorem dX5_findCorners_21 : decode cX5_findCorners 21 = .ok (.iconst 1, 1) := by decide +kernel
theorem dX5_findCorners_22 : decode cX5_findCorners 22 = .ok (.istore_n 3, 1) := by decide +kernel
theorem dX5_findCorners_23 : decode cX5_findCorners 23 = .ok (.iload_n 3, 1) := by decide +kernel
theorem dX5_findCorners_24 : decode cX5_findCorners 24 = .ok (.iconst 1, 1) := by decide +kernel
theorem dX5_findCorners_25 : decode cX5_findCorners 25 = .ok (.aload_n 0, 1) := by decide +kernel
theorem dX5_findCorners_26 : decode cX5_findCorners 26 = .ok (.getfield 7, 3) := by decide +kernel
theorem dX5_findCorners_29 : decode cX5_findCorners 29 = .ok (.iconst 1, 1) := by decide +kernel
theorem dX5_findCorners_30 : decode cX5_findCorners 30 = .ok (.iload_n 1, 1) := by decide +kernel
theorem dX5_findCorners_31 : decode cX5_findCorners 31 = .ok (.isub, 1) := by decide +kernel
theorem dX5_findCorners_32 : decode cX5_findCorners 32 = .ok (.iaload, 1) := by decide +kernel
theorem dX5_findCorners_33 : decode cX5_findCorners 33 = .ok (.ishl, 1) := by decide +kernel
theorem dX5_findCorners_34 : decode cX5_findCorners 34 = .ok (.if_icmp .ge 83, 3) := by decide +kernel
theorem dX5_findCorners_37 : decode cX5_findCorners 37 = .ok (.iload_n 2, 1) := by decide +kernel
theorem dX5_findCorners_38 : decode cX5_findCorners 38 = .ok (.invokestatic 140, 3) := by decide +kernel
theorem dX5_findCorners_41 : decode cX5_findCorners 41 = .ok (.iload_n 3, 1) := by decide +kernel
theorem dX5_findCorners_42 : decode cX5_findCorners 42 = .ok (.invokestatic 140, 3) := by decide +kernel
theorem dX5_findCorners_45 : decode cX5_findCorners 45 = .ok (.if_icmp .eq 6, 3) := by decide +kernel
theorem dX5_findCorners_48 : decode cX5_findCorners 48 = .ok (.goto 63, 3) := by decide +kernel
theorem dX5_findCorners_51 : decode cX5_findCorners 51 = .ok (.iload_n 2, 1) := by decide +kernel
theorem dX5_findCorners_52 : decode cX5_findCorners 52 = .ok (.aload_n 0, 1) := by decide +kernel
theorem dX5_findCorners_53 : decode cX5_findCorners 53 = .ok (.getfield 47, 3) := by decide +kernel
theorem dX5_findCorners_56 : decode cX5_findCorners 56 = .ok (.invokestatic 143, 3) := by decide +kernel
theorem dX5_findCorners_59 : decode cX5_findCorners 59 = .ok (.istore 4, 2) := by decide +kernel
theorem dX5_findCorners_61 : decode cX5_findCorners 61 = .ok (.iload_n 3, 1) := by decide +kernel
theorem dX5_findCorners_62 : decode cX5_findCorners 62 = .ok (.aload_n 0, 1) := by decide +kernel
theorem dX5_findCorners_63 : decode cX5_findCorners 63 = .ok (.getfield 50, 3) := by decide +kernel
theorem dX5_findCorners_66 : decode cX5_findCorners 66 = .ok (.invokestatic 143, 3) := by decide +kernel
theorem dX5_findCorners_69 : decode cX5_findCorners 69 = .ok (.istore 5, 2) := by decide +kernel
theorem dX5_findCorners_71 : decode cX5_findCorners 71 = .ok (.aload_n 0, 1) := by decide +kernel
theorem dX5_findCorners_72 : decode cX5_findCorners 72 = .ok (.iload_n 1, 1) := by decide +kernel
theorem dX5_findCorners_73 : decode cX5_findCorners 73 = .ok (.iload 4, 2) := by decide +kernel
theorem dX5_findCorners_75 : decode cX5_findCorners 75 = .ok (.invokevirtual 147, 3) := by decide +kernel
theorem dX5_findCorners_78 : decode cX5_findCorners 78 = .ok (.ifCond .eq 33, 3) := by decide +kernel
theorem dX5_findCorners_81 : decode cX5_findCorners 81 = .ok (.aload_n 0, 1) := by decide +kernel
theorem dX5_findCorners_82 : decode cX5_findCorners 82 = .ok (.iconst 1, 1) := by decide +kernel
theorem dX5_findCorners_83 : decode cX5_findCorners 83 = .ok (.iload_n 1, 1) := by decide +kernel
theorem dX5_findCorners_84 : decode cX5_findCorners 84 = .ok (.isub, 1) := by decide +kernel
theorem dX5_findCorners_85 : decode cX5_findCorners 85 = .ok (.aload_n 0, 1) := by decide +kernel
theorem dX5_findCorners_86 : decode cX5_findCorners 86 = .ok (.getfield 53, 3) := by decide +kernel
theorem dX5_findCorners_89 : decode cX5_findCorners 89 = .ok (.iconst 0, 1) := by decide +kernel
theorem dX5_findCorners_90 : decode cX5_findCorners 90 = .ok (.invokevirtual 105, 3) := by decide +kernel
theorem dX5_findCorners_93 : decode cX5_findCorners 93 = .ok (.istore 6, 2) := by decide +kernel
theorem dX5_findCorners_95 : decode cX5_findCorners 95 = .ok (.iload 6, 2) := by decide +kernel
theorem dX5_findCorners_97 : decode cX5_findCorners 97 = .ok (.iload_n 3, 1) := by decide +kernel
theorem dX5_findCorners_98 : decode cX5_findCorners 98 = .ok (.iand, 1) := by decide +kernel
theorem dX5_findCorners_99 : decode cX5_findCorners 99 = .ok (.iload_n 3, 1) := by decide +kernel
theorem dX5_findCorners_100 : decode cX5_findCorners 100 = .ok (.if_icmp .ne 11, 3) := by decide +kernel
theorem dX5_findCorners_103 : decode cX5_findCorners 103 = .ok (.aload_n 0, 1) := by decide +kernel
theorem dX5_findCorners_104 : decode cX5_findCorners 104 = .ok (.iload_n 1, 1) := by decide +kernel
theorem dX5_findCorners_105 : decode cX5_findCorners 105 = .ok (.iload_n 2, 1) := by decide +kernel
theorem dX5_findCorners_106 : decode cX5_findCorners 106 = .ok (.iload 6, 2) := by decide +kernel
theorem dX5_findCorners_108 : decode cX5_findCorners 108 = .ok (.invokevirtual 150, 3) := by decide +kernel
theorem dX5_findCorners_111 : decode cX5_findCorners 111 = .ok (.iinc 3 1, 3) := by decide +kernel
theorem dX5_findCorners_114 : decode cX5_findCorners 114 = .ok (.goto (-91), 3) := by decide +kernel
theorem dX5_findCorners_117 : decode cX5_findCorners 117 = .ok (.iinc 2 1, 3) := by decide +kernel
theorem dX5_findCorners_120 : decode cX5_findCorners 120 = .ok (.goto (-111), 3) := by decide +kernel
theorem dX5_findCorners_123 : decode cX5_findCorners 123 = .ok (.return_, 1) := by decide +kernel
theorem dX5_corners_0 : decode cX5_corners 0 = .ok (.iload_n 1, 1) := by decide +kernel
theorem dX5_corners_1 : decode cX5_corners 1 = .ok (.invokestatic 62, 3) := by decide +kernel
theorem dX5_corners_4 : decode cX5_corners 4 = .ok (.ifCond .ne 9, 3) := by decide +kernel
theorem dX5_corners_7 : decode cX5_corners 7 = .ok (.aload_n 0, 1) := by decide +kernel
theorem dX5_corners_8 : decode cX5_corners 8 = .ok (.iconst (-1), 1) := by decide +kernel
theorem dX5_corners_9 : decode cX5_corners 9 = .ok (.invokevirtual 70, 3) := by decide +kernel
theorem dX5_corners_12 : decode cX5_corners 12 = .ok (.ireturn, 1) := by decide +kernel
theorem dX5_corners_13 : decode cX5_corners 13 = .ok (.aload_n 0, 1) := by decide +kernel
theorem dX5_corners_14 : decode cX5_corners 14 = .ok (.iload_n 1, 1) := by decide +kernel
theorem dX5_corners_15 : decode cX5_corners 15 = .ok (.invokevirtual 154, 3) := by decide +kernel
theorem dX5_corners_18 : decode cX5_corners 18 = .ok (.aload_n 0, 1) := by decide +kernel
theorem dX5_corners_19 : decode cX5_corners 19 = .ok (.getfield 29, 3) := by decide +kernel
theorem dX5_corners_22 : decode cX5_corners 22 = .ok (.iload_n 1, 1) := by decide +kernel
theorem dX5_corners_23 : decode cX5_corners 23 = .ok (.iaload, 1) := by decide +kernel
theorem dX5_corners_24 : decode cX5_corners 24 = .ok (.ireturn, 1) := by decide +kernel
theorem dX5_corner_0 : decode cX5_corner 0 = .ok (.aload_n 0, 1) := by decide +kernel
theorem dX5_corner_1 : decode cX5_corner 1 = .ok (.iload_n 1, 1) := by decide +kernel
theorem dX5_corner_2 : decode cX5_corner 2 = .ok (.iload_n 3, 1) := by decide +kernel
theorem dX5_corner_3 : decode cX5_corner 3 = .ok (.invokevirtual 74, 3) := by decide +kernel
theorem dX5_corner_6 : decode cX5_corner 6 = .ok (.ifCond .ne 9, 3) := by decide +kernel
theorem dX5_corner_9 : decode cX5_corner 9 = .ok (.aload_n 0, 1) := by decide +kernel
theorem dX5_corner_10 : decode cX5_corner 10 = .ok (.iconst (-1), 1) := by decide +kernel
theorem dX5_corner_11 : decode cX5_corner 11 = .ok (.invokevirtual 70, 3) := by decide +kernel
theorem dX5_corner_14 : decode cX5_corner 14 = .ok (.ireturn, 1) := by decide +kernel
theorem dX5_corner_15 : decode cX5_corner 15 = .ok (.aload_n 0, 1) := by decide +kernel
theorem dX5_corner_16 : decode cX5_corner 16 = .ok (.iload_n 1, 1) := by decide +kernel
theorem dX5_corner_17 : decode cX5_corner 17 = .ok (.invokevirtual 154, 3) := by decide +kernel
theorem dX5_corner_20 : decode cX5_corner 20 = .ok (.iload_n 2, 1) := by decide +kernel
theorem dX5_corner_21 : decode cX5_corner 21 = .ok (.i2l, 1) := by decide +kernel
theorem dX5_corner_22 : decode cX5_corner 22 = .ok (.lconst 0, 1) := by decide +kernel
theorem dX5_corner_23 : decode cX5_corner 23 = .ok (.aload_n 0, 1) := by decide +kernel
theorem dX5_corner_24 : decode cX5_corner 24 = .ok (.getfield 29, 3) := by decide +kernel
theorem dX5_corner_27 : decode cX5_corner 27 = .ok (.iload_n 1, 1) := by decide +kernel
theorem dX5_corner_28 : decode cX5_corner 28 = .ok (.iaload, 1) := by decide +kernel
theorem dX5_corner_29 : decode cX5_corner 29 = .ok (.iconst 1, 1) := by decide +kernel
theorem dX5_corner_30 : decode cX5_corner 30 = .ok (.isub, 1) := by decide +kernel
theorem dX5_corner_31 : decode cX5_corner 31 = .ok (.i2l, 1) := by decide +kernel
theorem dX5_corner_32 : decode cX5_corner 32 = .ok (.invokestatic 66, 3) := by decide +kernel
theorem dX5_corner_35 : decode cX5_corner 35 = .ok (.ifCond .ne 9, 3) := by decide +kernel
theorem dX5_corner_38 : decode cX5_corner 38 = .ok (.aload_n 0, 1) := by decide +kernel
theorem dX5_corner_39 : decode cX5_corner 39 = .ok (.iconst (-1), 1) := by decide +kernel
theorem dX5_corner_40 : decode cX5_corner 40 = .ok (.invokevirtual 70, 3) := by decide +kernel
theorem dX5_corner_43 : decode cX5_corner 43 = .ok (.ireturn, 1) := by decide +kernel
theorem dX5_corner_44 : decode cX5_corner 44 = .ok (.bipush 80, 2) := by decide +kernel
theorem dX5_corner_46 : decode cX5_corner 46 = .ok (.iload_n 1, 1) := by decide +kernel
theorem dX5_corner_47 : decode cX5_corner 47 = .ok (.imul, 1) := by decide +kernel
theorem dX5_corner_48 : decode cX5_corner 48 = .ok (.iload_n 2, 1) := by decide +kernel
theorem dX5_corner_49 : decode cX5_corner 49 = .ok (.iadd, 1) := by decide +kernel
theorem dX5_corner_50 : decode cX5_corner 50 = .ok (.istore 5, 2) := by decide +kernel
theorem dX5_corner_52 : decode cX5_corner 52 = .ok (.aload_n 0, 1) := by decide +kernel
theorem dX5_corner_53 : decode cX5_corner 53 = .ok (.getfield 32, 3) := by decide +kernel
theorem dX5_corner_56 : decode cX5_corner 56 = .ok (.iconst 4, 1) := by decide +kernel
theorem dX5_corner_57 : decode cX5_corner 57 = .ok (.iload 5, 2) := by decide +kernel
theorem dX5_corner_59 : decode cX5_corner 59 = .ok (.imul, 1) := by decide +kernel
theorem dX5_corner_60 : decode cX5_corner 60 = .ok (.iload_n 3, 1) := by decide +kernel
theorem dX5_corner_61 : decode cX5_corner 61 = .ok (.iadd, 1) := by decide +kernel
theorem dX5_corner_62 : decode cX5_corner 62 = .ok (.laload, 1) := by decide +kernel
theorem dX5_corner_63 : decode cX5_corner 63 = .ok (.aload_n 0, 1) := by decide +kernel
theorem dX5_corner_64 : decode cX5_corner 64 = .ok (.getfield 35, 3) := by decide +kernel
theorem dX5_corner_67 : decode cX5_corner 67 = .ok (.iload 5, 2) := by decide +kernel
theorem dX5_corner_69 : decode cX5_corner 69 = .ok (.laload, 1) := by decide +kernel
theorem dX5_corner_70 : decode cX5_corner 70 = .ok (.invokestatic 97, 3) := by decide +kernel
theorem dX5_corner_73 : decode cX5_corner 73 = .ok (.lstore 6, 2) := by decide +kernel
theorem dX5_corner_75 : decode cX5_corner 75 = .ok (.iload 4, 2) := by decide +kernel
theorem dX5_corner_77 : decode cX5_corner 77 = .ok (.ifCond .ne 21, 3) := by decide +kernel
theorem dX5_corner_80 : decode cX5_corner 80 = .ok (.aload_n 0, 1) := by decide +kernel
theorem dX5_corner_81 : decode cX5_corner 81 = .ok (.getfield 32, 3) := by decide +kernel
theorem dX5_corner_84 : decode cX5_corner 84 = .ok (.iconst 4, 1) := by decide +kernel
theorem dX5_corner_85 : decode cX5_corner 85 = .ok (.iload 5, 2) := by decide +kernel
theorem dX5_corner_87 : decode cX5_corner 87 = .ok (.imul, 1) := by decide +kernel
theorem dX5_corner_88 : decode cX5_corner 88 = .ok (.iload_n 3, 1) := by decide +kernel
theorem dX5_corner_89 : decode cX5_corner 89 = .ok (.iadd, 1) := by decide +kernel
theorem dX5_corner_90 : decode cX5_corner 90 = .ok (.laload, 1) := by decide +kernel
theorem dX5_corner_91 : decode cX5_corner 91 = .ok (.lload 6, 2) := by decide +kernel
theorem dX5_corner_93 : decode cX5_corner 93 = .ok (.ldiv, 1) := by decide +kernel
theorem dX5_corner_94 : decode cX5_corner 94 = .ok (.l2i, 1) := by decide +kernel
theorem dX5_corner_95 : decode cX5_corner 95 = .ok (.goto 45, 3) := by decide +kernel
theorem dX5_corner_98 : decode cX5_corner 98 = .ok (.iload 4, 2) := by decide +kernel
theorem dX5_corner_100 : decode cX5_corner 100 = .ok (.iconst 1, 1) := by decide +kernel
theorem dX5_corner_101 : decode cX5_corner 101 = .ok (.if_icmp .ne 17, 3) := by decide +kernel
theorem dX5_corner_104 : decode cX5_corner 104 = .ok (.aload_n 0, 1) := by decide +kernel
theorem dX5_corner_105 : decode cX5_corner 105 = .ok (.getfield 35, 3) := by decide +kernel
theorem dX5_corner_108 : decode cX5_corner 108 = .ok (.iload 5, 2) := by decide +kernel
theorem dX5_corner_110 : decode cX5_corner 110 = .ok (.laload, 1) := by decide +kernel
theorem dX5_corner_111 : decode cX5_corner 111 = .ok (.lload 6, 2) := by decide +kernel
theorem dX5_corner_113 : decode cX5_corner 113 = .ok (.ldiv, 1) := by decide +kernel
theorem dX5_corner_114 : decode cX5_corner 114 = .ok (.l2i, 1) := by decide +kernel
theorem dX5_corner_115 : decode cX5_corner 115 = .ok (.goto 25, 3) := by decide +kernel
theorem dX5_corner_118 : decode cX5_corner 118 = .ok (.iload 4, 2) := by decide +kernel
theorem dX5_corner_120 : decode cX5_corner 120 = .ok (.iconst 2, 1) := by decide +kernel
theorem dX5_corner_121 : decode cX5_corner 121 = .ok (.if_icmp .ne 13, 3) := by decide +kernel
theorem dX5_corner_124 : decode cX5_corner 124 = .ok (.aload_n 0, 1) := by decide +kernel
theorem dX5_corner_125 : decode cX5_corner 125 = .ok (.getfield 41, 3) := by decide +kernel
theorem dX5_corner_128 : decode cX5_corner 128 = .ok (.iload 5, 2) := by decide +kernel
theorem dX5_corner_130 : decode cX5_corner 130 = .ok (.iaload, 1) := by decide +kernel
theorem dX5_corner_131 : decode cX5_corner 131 = .ok (.goto 9, 3) := by decide +kernel
theorem dX5_corner_134 : decode cX5_corner 134 = .ok (.aload_n 0, 1) := by decide +kernel
theorem dX5_corner_135 : decode cX5_corner 135 = .ok (.bipush (-2), 2) := by decide +kernel
theorem dX5_corner_137 : decode cX5_corner 137 = .ok (.invokevirtual 70, 3) := by decide +kernel
theorem dX5_corner_140 : decode cX5_corner 140 = .ok (.ireturn, 1) := by decide +kernel
theorem dX5_isBalance_0 : decode cX5_isBalance 0 = .ok (.aload_n 0, 1) := by decide +kernel
theorem dX5_isBalance_1 : decode cX5_isBalance 1 = .ok (.getfield 38, 3) := by decide +kernel
theorem dX5_isBalance_4 : decode cX5_isBalance 4 = .ok (.iload_n 1, 1) := by decide +kernel
theorem dX5_isBalance_5 : decode cX5_isBalance 5 = .ok (.iaload, 1) := by decide +kernel
theorem dX5_isBalance_6 : decode cX5_isBalance 6 = .ok (.aload_n 0, 1) := by decide +kernel
theorem dX5_isBalance_7 : decode cX5_isBalance 7 = .ok (.getfield 41, 3) := by decide +kernel
theorem dX5_isBalance_10 : decode cX5_isBalance 10 = .ok (.bipush 80, 2) := by decide +kernel
theorem dX5_isBalance_12 : decode cX5_isBalance 12 = .ok (.iload_n 2, 1) := by decide +kernel
theorem dX5_isBalance_13 : decode cX5_isBalance 13 = .ok (.iadd, 1) := by decide +kernel
theorem dX5_isBalance_14 : decode cX5_isBalance 14 = .ok (.iaload, 1) := by decide +kernel
theorem dX5_isBalance_15 : decode cX5_isBalance 15 = .ok (.iand, 1) := by decide +kernel
theorem dX5_isBalance_16 : decode cX5_isBalance 16 = .ok (.aload_n 0, 1) := by decide +kernel
theorem dX5_isBalance_17 : decode cX5_isBalance 17 = .ok (.getfield 38, 3) := by decide +kernel
theorem dX5_isBalance_20 : decode cX5_isBalance 20 = .ok (.iload_n 1, 1) := by decide +kernel
theorem dX5_isBalance_21 : decode cX5_isBalance 21 = .ok (.iaload, 1) := by decide +kernel
theorem dX5_isBalance_22 : decode cX5_isBalance 22 = .ok (.if_icmp .ne 35, 3) := by decide +kernel
theorem dX5_isBalance_25 : decode cX5_isBalance 25 = .ok (.aload_n 0, 1) := by decide +kernel
theorem dX5_isBalance_26 : decode cX5_isBalance 26 = .ok (.getfield 38, 3) := by decide +kernel
theorem dX5_isBalance_29 : decode cX5_isBalance 29 = .ok (.bipush 80, 2) := by decide +kernel
theorem dX5_isBalance_31 : decode cX5_isBalance 31 = .ok (.iload_n 2, 1) := by decide +kernel
theorem dX5_isBalance_32 : decode cX5_isBalance 32 = .ok (.iadd, 1) := by decide +kernel
theorem dX5_isBalance_33 : decode cX5_isBalance 33 = .ok (.iaload, 1) := by decide +kernel
theorem dX5_isBalance_34 : decode cX5_isBalance 34 = .ok (.aload_n 0, 1) := by decide +kernel
theorem dX5_isBalance_35 : decode cX5_isBalance 35 = .ok (.getfield 41, 3) := by decide +kernel
theorem dX5_isBalance_38 : decode cX5_isBalance 38 = .ok (.iload_n 1, 1) := by decide +kernel
theorem dX5_isBalance_39 : decode cX5_isBalance 39 = .ok (.iaload, 1) := by decide +kernel
theorem dX5_isBalance_40 : decode cX5_isBalance 40 = .ok (.iand, 1) := by decide +kernel
theorem dX5_isBalance_41 : decode cX5_isBalance 41 = .ok (.aload_n 0, 1) := by decide +kernel
theorem dX5_isBalance_42 : decode cX5_isBalance 42 = .ok (.getfield 38, 3) := by decide +kernel
theorem dX5_isBalance_45 : decode cX5_isBalance 45 = .ok (.bipush 80, 2) := by decide +kernel
theorem dX5_isBalance_47 : decode cX5_isBalance 47 = .ok (.iload_n 2, 1) := by decide +kernel
theorem dX5_isBalance_48 : decode cX5_isBalance 48 = .ok (.iadd, 1) := by decide +kernel
theorem dX5_isBalance_49 : decode cX5_isBalance 49 = .ok (.iaload, 1) := by decide +kernel
theorem dX5_isBalance_50 : decode cX5_isBalance 50 = .ok (.if_icmp .ne 7, 3) := by decide +kernel
theorem dX5_isBalance_53 : decode cX5_isBalance 53 = .ok (.iconst 1, 1) := by decide +kernel
theorem dX5_isBalance_54 : decode cX5_isBalance 54 = .ok (.goto 4, 3) := by decide +kernel
theorem dX5_isBalance_57 : decode cX5_isBalance 57 = .ok (.iconst 0, 1) := by decide +kernel
theorem dX5_isBalance_58 : decode cX5_isBalance 58 = .ok (.ireturn, 1) := by decide +kernel
theorem dX5_balances_0 : decode cX5_balances 0 = .ok (.aload_n 0, 1) := by decide +kernel
theorem dX5_balances_1 : decode cX5_balances 1 = .ok (.iconst 0, 1) := by decide +kernel
theorem dX5_balances_2 : decode cX5_balances 2 = .ok (.invokevirtual 154, 3) := by decide +kernel
theorem dX5_balances_5 : decode cX5_balances 5 = .ok (.aload_n 0, 1) := by decide +kernel
theorem dX5_balances_6 : decode cX5_balances 6 = .ok (.iconst 1, 1) := by decide +kernel
theorem dX5_balances_7 : decode cX5_balances 7 = .ok (.invokevirtual 154, 3) := by decide +kernel
theorem dX5_balances_10 : decode cX5_balances 10 = .ok (.iconst 0, 1) := by decide +kernel
theorem dX5_balances_11 : decode cX5_balances 11 = .ok (.istore_n 1, 1) := by decide +kernel
theorem dX5_balances_12 : decode cX5_balances 12 = .ok (.iconst 0, 1) := by decide +kernel
theorem dX5_balances_13 : decode cX5_balances 13 = .ok (.istore_n 2, 1) := by decide +kernel
theorem dX5_balances_14 : decode cX5_balances 14 = .ok (.iload_n 2, 1) := by decide +kernel
theorem dX5_balances_15 : decode cX5_balances 15 = .ok (.aload_n 0, 1) := by decide +kernel
theorem dX5_balances_16 : decode cX5_balances 16 = .ok (.getfield 29, 3) := by decide +kernel
theorem dX5_balances_19 : decode cX5_balances 19 = .ok (.iconst 0, 1) := by decide +kernel
theorem dX5_balances_20 : decode cX5_balances 20 = .ok (.iaload, 1) := by decide +kernel
theorem dX5_balances_21 : decode cX5_balances 21 = .ok (.if_icmp .ge 44, 3) := by decide +kernel
theorem dX5_balances_24 : decode cX5_balances 24 = .ok (.iconst 0, 1) := by decide +kernel
theorem dX5_balances_25 : decode cX5_balances 25 = .ok (.istore_n 3, 1) := by decide +kernel
theorem dX5_balances_26 : decode cX5_balances 26 = .ok (.iload_n 3, 1) := by decide +kernel
theorem dX5_balances_27 : decode cX5_balances 27 = .ok (.aload_n 0, 1) := by decide +kernel
theorem dX5_balances_28 : decode cX5_balances 28 = .ok (.getfield 29, 3) := by decide +kernel
theorem dX5_balances_31 : decode cX5_balances 31 = .ok (.iconst 1, 1) := by decide +kernel
theorem dX5_balances_32 : decode cX5_balances 32 = .ok (.iaload, 1) := by decide +kernel
theorem dX5_balances_33 : decode cX5_balances 33 = .ok (.if_icmp .ge 26, 3) := by decide +kernel
theorem dX5_balances_36 : decode cX5_balances 36 = .ok (.iload_n 1, 1) := by decide +kernel
theorem dX5_balances_37 : decode cX5_balances 37 = .ok (.aload_n 0, 1) := by decide +kernel
theorem dX5_balances_38 : decode cX5_balances 38 = .ok (.iload_n 2, 1) := by decide +kernel
theorem dX5_balances_39 : decode cX5_balances 39 = .ok (.iload_n 3, 1) := by decide +kernel
theorem dX5_balances_40 : decode cX5_balances 40 = .ok (.invokevirtual 158, 3) := by decide +kernel
theorem dX5_balances_43 : decode cX5_balances 43 = .ok (.ifCond .eq 7, 3) := by decide +kernel
theorem dX5_balances_46 : decode cX5_balances 46 = .ok (.iconst 1, 1) := by decide +kernel
theorem dX5_balances_47 : decode cX5_balances 47 = .ok (.goto 4, 3) := by decide +kernel
theorem dX5_balances_50 : decode cX5_balances 50 = .ok (.iconst 0, 1) := by decide +kernel
theorem dX5_balances_51 : decode cX5_balances 51 = .ok (.iadd, 1) := by decide +kernel
theorem dX5_balances_52 : decode cX5_balances 52 = .ok (.istore_n 1, 1) := by decide +kernel
theorem dX5_balances_53 : decode cX5_balances 53 = .ok (.iinc 3 1, 3) := by decide +kernel
theorem dX5_balances_56 : decode cX5_balances 56 = .ok (.goto (-30), 3) := by decide +kernel
theorem dX5_balances_59 : decode cX5_balances 59 = .ok (.iinc 2 1, 3) := by decide +kernel
theorem dX5_balances_62 : decode cX5_balances 62 = .ok (.goto (-48), 3) := by decide +kernel
theorem dX5_balances_65 : decode cX5_balances 65 = .ok (.iload_n 1, 1) := by decide +kernel
theorem dX5_balances_66 : decode cX5_balances 66 = .ok (.ireturn, 1) := by decide +kernel
theorem dX5_kindOf_0 : decode cX5_kindOf 0 = .ok (.aload_n 0, 1) := by decide +kernel
theorem dX5_kindOf_1 : decode cX5_kindOf 1 = .ok (.getfield 38, 3) := by decide +kernel
theorem dX5_kindOf_4 : decode cX5_kindOf 4 = .ok (.iload_n 1, 1) := by decide +kernel
theorem dX5_kindOf_5 : decode cX5_kindOf 5 = .ok (.iaload, 1) := by decide +kernel
theorem dX5_kindOf_6 : decode cX5_kindOf 6 = .ok (.istore_n 3, 1) := by decide +kernel
theorem dX5_kindOf_7 : decode cX5_kindOf 7 = .ok (.aload_n 0, 1) := by decide +kernel
theorem dX5_kindOf_8 : decode cX5_kindOf 8 = .ok (.getfield 38, 3) := by decide +kernel
theorem dX5_kindOf_11 : decode cX5_kindOf 11 = .ok (.bipush 80, 2) := by decide +kernel
theorem dX5_kindOf_13 : decode cX5_kindOf 13 = .ok (.iload_n 2, 1) := by decide +kernel
theorem dX5_kindOf_14 : decode cX5_kindOf 14 = .ok (.iadd, 1) := by decide +kernel
theorem dX5_kindOf_15 : decode cX5_kindOf 15 = .ok (.iaload, 1) := by decide +kernel
theorem dX5_kindOf_16 : decode cX5_kindOf 16 = .ok (.istore 4, 2) := by decide +kernel
theorem dX5_kindOf_18 : decode cX5_kindOf 18 = .ok (.iload_n 3, 1) := by decide +kernel
theorem dX5_kindOf_19 : decode cX5_kindOf 19 = .ok (.invokestatic 140, 3) := by decide +kernel
theorem dX5_kindOf_22 : decode cX5_kindOf 22 = .ok (.iconst 1, 1) := by decide +kernel
theorem dX5_kindOf_23 : decode cX5_kindOf 23 = .ok (.if_icmp .ne 42, 3) := by decide +kernel
theorem dX5_kindOf_26 : decode cX5_kindOf 26 = .ok (.iload 4, 2) := by decide +kernel
theorem dX5_kindOf_28 : decode cX5_kindOf 28 = .ok (.invokestatic 140, 3) := by decide +kernel
theorem dX5_kindOf_31 : decode cX5_kindOf 31 = .ok (.iconst 1, 1) := by decide +kernel
theorem dX5_kindOf_32 : decode cX5_kindOf 32 = .ok (.if_icmp .ne 33, 3) := by decide +kernel
theorem dX5_kindOf_35 : decode cX5_kindOf 35 = .ok (.aload_n 0, 1) := by decide +kernel
theorem dX5_kindOf_36 : decode cX5_kindOf 36 = .ok (.getfield 41, 3) := by decide +kernel
theorem dX5_kindOf_39 : decode cX5_kindOf 39 = .ok (.bipush 80, 2) := by decide +kernel
theorem dX5_kindOf_41 : decode cX5_kindOf 41 = .ok (.iload_n 2, 1) := by decide +kernel
theorem dX5_kindOf_42 : decode cX5_kindOf 42 = .ok (.iadd, 1) := by decide +kernel
theorem dX5_kindOf_43 : decode cX5_kindOf 43 = .ok (.iaload, 1) := by decide +kernel
theorem dX5_kindOf_44 : decode cX5_kindOf 44 = .ok (.iload_n 3, 1) := by decide +kernel
theorem dX5_kindOf_45 : decode cX5_kindOf 45 = .ok (.if_icmp .ne 18, 3) := by decide +kernel
theorem dX5_kindOf_48 : decode cX5_kindOf 48 = .ok (.aload_n 0, 1) := by decide +kernel
theorem dX5_kindOf_49 : decode cX5_kindOf 49 = .ok (.getfield 41, 3) := by decide +kernel
theorem dX5_kindOf_52 : decode cX5_kindOf 52 = .ok (.iload_n 1, 1) := by decide +kernel
theorem dX5_kindOf_53 : decode cX5_kindOf 53 = .ok (.iaload, 1) := by decide +kernel
theorem dX5_kindOf_54 : decode cX5_kindOf 54 = .ok (.iload 4, 2) := by decide +kernel
theorem dX5_kindOf_56 : decode cX5_kindOf 56 = .ok (.if_icmp .ne 7, 3) := by decide +kernel
theorem dX5_kindOf_59 : decode cX5_kindOf 59 = .ok (.iconst 4, 1) := by decide +kernel
theorem dX5_kindOf_60 : decode cX5_kindOf 60 = .ok (.goto 4, 3) := by decide +kernel
theorem dX5_kindOf_63 : decode cX5_kindOf 63 = .ok (.iconst 3, 1) := by decide +kernel
theorem dX5_kindOf_64 : decode cX5_kindOf 64 = .ok (.ireturn, 1) := by decide +kernel
theorem dX5_kindOf_65 : decode cX5_kindOf 65 = .ok (.iload_n 3, 1) := by decide +kernel
theorem dX5_kindOf_66 : decode cX5_kindOf 66 = .ok (.invokestatic 140, 3) := by decide +kernel
theorem dX5_kindOf_69 : decode cX5_kindOf 69 = .ok (.aload_n 0, 1) := by decide +kernel
theorem dX5_kindOf_70 : decode cX5_kindOf 70 = .ok (.getfield 7, 3) := by decide +kernel
theorem dX5_kindOf_73 : decode cX5_kindOf 73 = .ok (.iconst 0, 1) := by decide +kernel
theorem dX5_kindOf_74 : decode cX5_kindOf 74 = .ok (.iaload, 1) := by decide +kernel
theorem dX5_kindOf_75 : decode cX5_kindOf 75 = .ok (.if_icmp .ne 19, 3) := by decide +kernel
theorem dX5_kindOf_78 : decode cX5_kindOf 78 = .ok (.iload 4, 2) := by decide +kernel
theorem dX5_kindOf_80 : decode cX5_kindOf 80 = .ok (.invokestatic 140, 3) := by decide +kernel
theorem dX5_kindOf_83 : decode cX5_kindOf 83 = .ok (.aload_n 0, 1) := by decide +kernel
theorem dX5_kindOf_84 : decode cX5_kindOf 84 = .ok (.getfield 7, 3) := by decide +kernel
theorem dX5_kindOf_87 : decode cX5_kindOf 87 = .ok (.iconst 1, 1) := by decide +kernel
theorem dX5_kindOf_88 : decode cX5_kindOf 88 = .ok (.iaload, 1) := by decide +kernel
theorem dX5_kindOf_89 : decode cX5_kindOf 89 = .ok (.if_icmp .ne 5, 3) := by decide +kernel
theorem dX5_kindOf_92 : decode cX5_kindOf 92 = .ok (.iconst 2, 1) := by decide +kernel
theorem dX5_kindOf_93 : decode cX5_kindOf 93 = .ok (.ireturn, 1) := by decide +kernel
theorem dX5_kindOf_94 : decode cX5_kindOf 94 = .ok (.iload_n 3, 1) := by decide +kernel
theorem dX5_kindOf_95 : decode cX5_kindOf 95 = .ok (.invokestatic 140, 3) := by decide +kernel
theorem dX5_kindOf_98 : decode cX5_kindOf 98 = .ok (.iload 4, 2) := by decide +kernel
theorem dX5_kindOf_100 : decode cX5_kindOf 100 = .ok (.invokestatic 140, 3) := by decide +kernel
theorem dX5_kindOf_103 : decode cX5_kindOf 103 = .ok (.if_icmp .ne 7, 3) := by decide +kernel
theorem dX5_kindOf_106 : decode cX5_kindOf 106 = .ok (.iconst 1, 1) := by decide +kernel
theorem dX5_kindOf_107 : decode cX5_kindOf 107 = .ok (.goto 4, 3) := by decide +kernel
theorem dX5_kindOf_110 : decode cX5_kindOf 110 = .ok (.iconst 0, 1) := by decide +kernel
theorem dX5_kindOf_111 : decode cX5_kindOf 111 = .ok (.ireturn, 1) := by decide +kernel
theorem dX5_told_0 : decode cX5_told 0 = .ok (.iload_n 3, 1) := by decide +kernel
theorem dX5_told_1 : decode cX5_told 1 = .ok (.iconst 3, 1) := by decide +kernel
theorem dX5_told_2 : decode cX5_told 2 = .ok (.if_icmp .ge 30, 3) := by decide +kernel
theorem dX5_told_5 : decode cX5_told 5 = .ok (.iload_n 3, 1) := by decide +kernel
theorem dX5_told_6 : decode cX5_told 6 = .ok (.ifCond .ne 8, 3) := by decide +kernel
theorem dX5_told_9 : decode cX5_told 9 = .ok (.iload_n 1, 1) := by decide +kernel
theorem dX5_told_10 : decode cX5_told 10 = .ok (.i2l, 1) := by decide +kernel
theorem dX5_told_11 : decode cX5_told 11 = .ok (.goto 20, 3) := by decide +kernel
theorem dX5_told_14 : decode cX5_told 14 = .ok (.iload_n 3, 1) := by decide +kernel
theorem dX5_told_15 : decode cX5_told 15 = .ok (.iconst 1, 1) := by decide +kernel
theorem dX5_told_16 : decode cX5_told 16 = .ok (.if_icmp .ne 8, 3) := by decide +kernel
theorem dX5_told_19 : decode cX5_told 19 = .ok (.iload_n 2, 1) := by decide +kernel
theorem dX5_told_20 : decode cX5_told 20 = .ok (.i2l, 1) := by decide +kernel
theorem dX5_told_21 : decode cX5_told 21 = .ok (.goto 10, 3) := by decide +kernel
theorem dX5_told_24 : decode cX5_told 24 = .ok (.aload_n 0, 1) := by decide +kernel
theorem dX5_told_25 : decode cX5_told 25 = .ok (.iload_n 1, 1) := by decide +kernel
theorem dX5_told_26 : decode cX5_told 26 = .ok (.iload_n 2, 1) := by decide +kernel
theorem dX5_told_27 : decode cX5_told 27 = .ok (.invokevirtual 161, 3) := by decide +kernel
theorem dX5_told_30 : decode cX5_told 30 = .ok (.i2l, 1) := by decide +kernel
theorem dX5_told_31 : decode cX5_told 31 = .ok (.lreturn, 1) := by decide +kernel
theorem dX5_told_32 : decode cX5_told 32 = .ok (.aload_n 0, 1) := by decide +kernel
theorem dX5_told_33 : decode cX5_told 33 = .ok (.iload_n 3, 1) := by decide +kernel
theorem dX5_told_34 : decode cX5_told 34 = .ok (.iconst 5, 1) := by decide +kernel
theorem dX5_told_35 : decode cX5_told 35 = .ok (.if_icmp .ge 7, 3) := by decide +kernel
theorem dX5_told_38 : decode cX5_told 38 = .ok (.iconst 0, 1) := by decide +kernel
theorem dX5_told_39 : decode cX5_told 39 = .ok (.goto 4, 3) := by decide +kernel
theorem dX5_told_42 : decode cX5_told 42 = .ok (.iconst 1, 1) := by decide +kernel
theorem dX5_told_43 : decode cX5_told 43 = .ok (.aload_n 0, 1) := by decide +kernel
theorem dX5_told_44 : decode cX5_told 44 = .ok (.getfield 32, 3) := by decide +kernel
theorem dX5_told_47 : decode cX5_told 47 = .ok (.iconst 4, 1) := by decide +kernel
theorem dX5_told_48 : decode cX5_told 48 = .ok (.iload_n 1, 1) := by decide +kernel
theorem dX5_told_49 : decode cX5_told 49 = .ok (.imul, 1) := by decide +kernel
theorem dX5_told_50 : decode cX5_told 50 = .ok (.aload_n 0, 1) := by decide +kernel
theorem dX5_told_51 : decode cX5_told 51 = .ok (.getfield 32, 3) := by decide +kernel
theorem dX5_told_54 : decode cX5_told 54 = .ok (.iconst 4, 1) := by decide +kernel
theorem dX5_told_55 : decode cX5_told 55 = .ok (.bipush 80, 2) := by decide +kernel
theorem dX5_told_57 : decode cX5_told 57 = .ok (.iload_n 2, 1) := by decide +kernel
theorem dX5_told_58 : decode cX5_told 58 = .ok (.iadd, 1) := by decide +kernel
theorem dX5_told_59 : decode cX5_told 59 = .ok (.imul, 1) := by decide +kernel
theorem dX5_told_60 : decode cX5_told 60 = .ok (.invokevirtual 93, 3) := by decide +kernel
theorem dX5_told_63 : decode cX5_told 63 = .ok (.lstore 4, 2) := by decide +kernel
theorem dX5_told_65 : decode cX5_told 65 = .ok (.aload_n 0, 1) := by decide +kernel
theorem dX5_told_66 : decode cX5_told 66 = .ok (.getfield 35, 3) := by decide +kernel
theorem dX5_told_69 : decode cX5_told 69 = .ok (.iload_n 1, 1) := by decide +kernel
theorem dX5_told_70 : decode cX5_told 70 = .ok (.laload, 1) := by decide +kernel
theorem dX5_told_71 : decode cX5_told 71 = .ok (.aload_n 0, 1) := by decide +kernel
theorem dX5_told_72 : decode cX5_told 72 = .ok (.getfield 35, 3) := by decide +kernel
theorem dX5_told_75 : decode cX5_told 75 = .ok (.bipush 80, 2) := by decide +kernel
theorem dX5_told_77 : decode cX5_told 77 = .ok (.iload_n 2, 1) := by decide +kernel
theorem dX5_told_78 : decode cX5_told 78 = .ok (.iadd, 1) := by decide +kernel
theorem dX5_told_79 : decode cX5_told 79 = .ok (.laload, 1) := by decide +kernel
theorem dX5_told_80 : decode cX5_told 80 = .ok (.lmul, 1) := by decide +kernel
theorem dX5_told_81 : decode cX5_told 81 = .ok (.lstore 6, 2) := by decide +kernel
theorem dX5_told_83 : decode cX5_told 83 = .ok (.lload 4, 2) := by decide +kernel
theorem dX5_told_85 : decode cX5_told 85 = .ok (.lload 6, 2) := by decide +kernel
theorem dX5_told_87 : decode cX5_told 87 = .ok (.invokestatic 97, 3) := by decide +kernel
theorem dX5_told_90 : decode cX5_told 90 = .ok (.lstore 8, 2) := by decide +kernel
theorem dX5_told_92 : decode cX5_told 92 = .ok (.iload_n 3, 1) := by decide +kernel
theorem dX5_told_93 : decode cX5_told 93 = .ok (.iconst 2, 1) := by decide +kernel
theorem dX5_told_94 : decode cX5_told 94 = .ok (.irem, 1) := by decide +kernel
theorem dX5_told_95 : decode cX5_told 95 = .ok (.iconst 1, 1) := by decide +kernel
theorem dX5_told_96 : decode cX5_told 96 = .ok (.if_icmp .ne 11, 3) := by decide +kernel
theorem dX5_told_99 : decode cX5_told 99 = .ok (.lload 4, 2) := by decide +kernel
theorem dX5_told_101 : decode cX5_told 101 = .ok (.lload 8, 2) := by decide +kernel
theorem dX5_told_103 : decode cX5_told 103 = .ok (.ldiv, 1) := by decide +kernel
theorem dX5_told_104 : decode cX5_told 104 = .ok (.goto 8, 3) := by decide +kernel
theorem dX5_told_107 : decode cX5_told 107 = .ok (.lload 6, 2) := by decide +kernel
theorem dX5_told_109 : decode cX5_told 109 = .ok (.lload 8, 2) := by decide +kernel
theorem dX5_told_111 : decode cX5_told 111 = .ok (.ldiv, 1) := by decide +kernel
theorem dX5_told_112 : decode cX5_told 112 = .ok (.lreturn, 1) := by decide +kernel
theorem dX5_balance_0 : decode cX5_balance 0 = .ok (.iload_n 1, 1) := by decide +kernel
theorem dX5_balance_1 : decode cX5_balance 1 = .ok (.istore_n 3, 1) := by decide +kernel
theorem dX5_balance_2 : decode cX5_balance 2 = .ok (.aload_n 0, 1) := by decide +kernel
theorem dX5_balance_3 : decode cX5_balance 3 = .ok (.iconst 0, 1) := by decide +kernel
theorem dX5_balance_4 : decode cX5_balance 4 = .ok (.invokevirtual 154, 3) := by decide +kernel
theorem dX5_balance_7 : decode cX5_balance 7 = .ok (.aload_n 0, 1) := by decide +kernel
theorem dX5_balance_8 : decode cX5_balance 8 = .ok (.iconst 1, 1) := by decide +kernel
theorem dX5_balance_9 : decode cX5_balance 9 = .ok (.invokevirtual 154, 3) := by decide +kernel
theorem dX5_balance_12 : decode cX5_balance 12 = .ok (.iconst 0, 1) := by decide +kernel
theorem dX5_balance_13 : decode cX5_balance 13 = .ok (.istore 4, 2) := by decide +kernel
theorem dX5_balance_15 : decode cX5_balance 15 = .ok (.iload 4, 2) := by decide +kernel
theorem dX5_balance_17 : decode cX5_balance 17 = .ok (.aload_n 0, 1) := by decide +kernel
theorem dX5_balance_18 : decode cX5_balance 18 = .ok (.getfield 29, 3) := by decide +kernel
theorem dX5_balance_21 : decode cX5_balance 21 = .ok (.iconst 0, 1) := by decide +kernel
theorem dX5_balance_22 : decode cX5_balance 22 = .ok (.iaload, 1) := by decide +kernel
theorem dX5_balance_23 : decode cX5_balance 23 = .ok (.if_icmp .ge 82, 3) := by decide +kernel
theorem dX5_balance_26 : decode cX5_balance 26 = .ok (.iload_n 1, 1) := by decide +kernel
theorem dX5_balance_27 : decode cX5_balance 27 = .ok (.ifCond .lt 78, 3) := by decide +kernel
theorem dX5_balance_30 : decode cX5_balance 30 = .ok (.iconst 0, 1) := by decide +kernel
theorem dX5_balance_31 : decode cX5_balance 31 = .ok (.istore 5, 2) := by decide +kernel
theorem dX5_balance_33 : decode cX5_balance 33 = .ok (.iload 5, 2) := by decide +kernel
theorem dX5_balance_35 : decode cX5_balance 35 = .ok (.aload_n 0, 1) := by decide +kernel
theorem dX5_balance_36 : decode cX5_balance 36 = .ok (.getfield 29, 3) := by decide +kernel
theorem dX5_balance_39 : decode cX5_balance 39 = .ok (.iconst 1, 1) := by decide +kernel
theorem dX5_balance_40 : decode cX5_balance 40 = .ok (.iaload, 1) := by decide +kernel
theorem dX5_balance_41 : decode cX5_balance 41 = .ok (.if_icmp .ge 58, 3) := by decide +kernel
theorem dX5_balance_44 : decode cX5_balance 44 = .ok (.aload_n 0, 1) := by decide +kernel
theorem dX5_balance_45 : decode cX5_balance 45 = .ok (.iload 4, 2) := by decide +kernel
theorem dX5_balance_47 : decode cX5_balance 47 = .ok (.iload 5, 2) := by decide +kernel
theorem dX5_balance_49 : decode cX5_balance 49 = .ok (.invokevirtual 158, 3) := by decide +kernel
theorem dX5_balance_52 : decode cX5_balance 52 = .ok (.ifCond .eq 41, 3) := by decide +kernel
theorem dX5_balance_55 : decode cX5_balance 55 = .ok (.iload_n 3, 1) := by decide +kernel
theorem dX5_balance_56 : decode cX5_balance 56 = .ok (.ifCond .ne 34, 3) := by decide +kernel
theorem dX5_balance_59 : decode cX5_balance 59 = .ok (.iload_n 2, 1) := by decide +kernel
theorem dX5_balance_60 : decode cX5_balance 60 = .ok (.i2l, 1) := by decide +kernel
theorem dX5_balance_61 : decode cX5_balance 61 = .ok (.lconst 0, 1) := by decide +kernel
theorem dX5_balance_62 : decode cX5_balance 62 = .ok (.ldc2_w 165, 3) := by decide +kernel
theorem dX5_balance_65 : decode cX5_balance 65 = .ok (.invokestatic 66, 3) := by decide +kernel
theorem dX5_balance_68 : decode cX5_balance 68 = .ok (.ifCond .eq 15, 3) := by decide +kernel
theorem dX5_balance_71 : decode cX5_balance 71 = .ok (.aload_n 0, 1) := by decide +kernel
theorem dX5_balance_72 : decode cX5_balance 72 = .ok (.iload 4, 2) := by decide +kernel
theorem dX5_balance_74 : decode cX5_balance 74 = .ok (.iload 5, 2) := by decide +kernel
theorem dX5_balance_76 : decode cX5_balance 76 = .ok (.iload_n 2, 1) := by decide +kernel
theorem dX5_balance_77 : decode cX5_balance 77 = .ok (.invokevirtual 167, 3) := by decide +kernel
theorem dX5_balance_80 : decode cX5_balance 80 = .ok (.goto 9, 3) := by decide +kernel
theorem dX5_balance_83 : decode cX5_balance 83 = .ok (.aload_n 0, 1) := by decide +kernel
theorem dX5_balance_84 : decode cX5_balance 84 = .ok (.bipush (-2), 2) := by decide +kernel
theorem dX5_balance_86 : decode cX5_balance 86 = .ok (.invokevirtual 83, 3) := by decide +kernel
theorem dX5_balance_89 : decode cX5_balance 89 = .ok (.lreturn, 1) := by decide +kernel
theorem dX5_balance_90 : decode cX5_balance 90 = .ok (.iinc 3 (-1), 3) := by decide +kernel
theorem dX5_balance_93 : decode cX5_balance 93 = .ok (.iinc 5 1, 3) := by decide +kernel
theorem dX5_balance_96 : decode cX5_balance 96 = .ok (.goto (-63), 3) := by decide +kernel
theorem dX5_balance_99 : decode cX5_balance 99 = .ok (.iinc 4 1, 3) := by decide +kernel
theorem dX5_balance_102 : decode cX5_balance 102 = .ok (.goto (-87), 3) := by decide +kernel
theorem dX5_balance_105 : decode cX5_balance 105 = .ok (.aload_n 0, 1) := by decide +kernel
theorem dX5_balance_106 : decode cX5_balance 106 = .ok (.iconst (-1), 1) := by decide +kernel
theorem dX5_balance_107 : decode cX5_balance 107 = .ok (.invokevirtual 83, 3) := by decide +kernel
theorem dX5_balance_110 : decode cX5_balance 110 = .ok (.lreturn, 1) := by decide +kernel
theorem dX5_cornerOfTray_0 : decode cX5_cornerOfTray 0 = .ok (.aload_n 0, 1) := by decide +kernel
theorem dX5_cornerOfTray_1 : decode cX5_cornerOfTray 1 = .ok (.invokevirtual 90, 3) := by decide +kernel
theorem dX5_cornerOfTray_4 : decode cX5_cornerOfTray 4 = .ok (.iconst 0, 1) := by decide +kernel
theorem dX5_cornerOfTray_5 : decode cX5_cornerOfTray 5 = .ok (.istore_n 2, 1) := by decide +kernel
theorem dX5_cornerOfTray_6 : decode cX5_cornerOfTray 6 = .ok (.iload_n 2, 1) := by decide +kernel
theorem dX5_cornerOfTray_7 : decode cX5_cornerOfTray 7 = .ok (.iconst 4, 1) := by decide +kernel
theorem dX5_cornerOfTray_8 : decode cX5_cornerOfTray 8 = .ok (.if_icmp .ge 34, 3) := by decide +kernel
theorem dX5_cornerOfTray_11 : decode cX5_cornerOfTray 11 = .ok (.aload_n 0, 1) := by decide +kernel
theorem dX5_cornerOfTray_12 : decode cX5_cornerOfTray 12 = .ok (.getfield 53, 3) := by decide +kernel
theorem dX5_cornerOfTray_15 : decode cX5_cornerOfTray 15 = .ok (.iload_n 2, 1) := by decide +kernel
theorem dX5_cornerOfTray_16 : decode cX5_cornerOfTray 16 = .ok (.iload_n 1, 1) := by decide +kernel
theorem dX5_cornerOfTray_17 : decode cX5_cornerOfTray 17 = .ok (.ifCond .ne 12, 3) := by decide +kernel
theorem dX5_cornerOfTray_20 : decode cX5_cornerOfTray 20 = .ok (.aload_n 0, 1) := by decide +kernel
theorem dX5_cornerOfTray_21 : decode cX5_cornerOfTray 21 = .ok (.getfield 22, 3) := by decide +kernel
theorem dX5_cornerOfTray_24 : decode cX5_cornerOfTray 24 = .ok (.iload_n 2, 1) := by decide +kernel
theorem dX5_cornerOfTray_25 : decode cX5_cornerOfTray 25 = .ok (.laload, 1) := by decide +kernel
theorem dX5_cornerOfTray_26 : decode cX5_cornerOfTray 26 = .ok (.goto 9, 3) := by decide +kernel
theorem dX5_cornerOfTray_29 : decode cX5_cornerOfTray 29 = .ok (.aload_n 0, 1) := by decide +kernel
theorem dX5_cornerOfTray_30 : decode cX5_cornerOfTray 30 = .ok (.getfield 26, 3) := by decide +kernel
theorem dX5_cornerOfTray_33 : decode cX5_cornerOfTray 33 = .ok (.iload_n 2, 1) := by decide +kernel
theorem dX5_cornerOfTray_34 : decode cX5_cornerOfTray 34 = .ok (.laload, 1) := by decide +kernel
theorem dX5_cornerOfTray_35 : decode cX5_cornerOfTray 35 = .ok (.lastore, 1) := by decide +kernel
theorem dX5_cornerOfTray_36 : decode cX5_cornerOfTray 36 = .ok (.iinc 2 1, 3) := by decide +kernel
theorem dX5_cornerOfTray_39 : decode cX5_cornerOfTray 39 = .ok (.goto (-33), 3) := by decide +kernel
theorem dX5_cornerOfTray_42 : decode cX5_cornerOfTray 42 = .ok (.iconst 0, 1) := by decide +kernel
theorem dX5_cornerOfTray_43 : decode cX5_cornerOfTray 43 = .ok (.istore_n 2, 1) := by decide +kernel
theorem dX5_cornerOfTray_44 : decode cX5_cornerOfTray 44 = .ok (.iload_n 2, 1) := by decide +kernel
theorem dX5_cornerOfTray_45 : decode cX5_cornerOfTray 45 = .ok (.aload_n 0, 1) := by decide +kernel
theorem dX5_cornerOfTray_46 : decode cX5_cornerOfTray 46 = .ok (.getfield 29, 3) := by decide +kernel
theorem dX5_cornerOfTray_49 : decode cX5_cornerOfTray 49 = .ok (.iload_n 1, 1) := by decide +kernel
theorem dX5_cornerOfTray_50 : decode cX5_cornerOfTray 50 = .ok (.iaload, 1) := by decide +kernel
theorem dX5_cornerOfTray_51 : decode cX5_cornerOfTray 51 = .ok (.if_icmp .ge 24, 3) := by decide +kernel
theorem dX5_cornerOfTray_54 : decode cX5_cornerOfTray 54 = .ok (.aload_n 0, 1) := by decide +kernel
theorem dX5_cornerOfTray_55 : decode cX5_cornerOfTray 55 = .ok (.bipush 80, 2) := by decide +kernel
theorem dX5_cornerOfTray_57 : decode cX5_cornerOfTray 57 = .ok (.iload_n 1, 1) := by decide +kernel
theorem dX5_cornerOfTray_58 : decode cX5_cornerOfTray 58 = .ok (.imul, 1) := by decide +kernel
theorem dX5_cornerOfTray_59 : decode cX5_cornerOfTray 59 = .ok (.iload_n 2, 1) := by decide +kernel
theorem dX5_cornerOfTray_60 : decode cX5_cornerOfTray 60 = .ok (.iadd, 1) := by decide +kernel
theorem dX5_cornerOfTray_61 : decode cX5_cornerOfTray 61 = .ok (.invokevirtual 137, 3) := by decide +kernel
theorem dX5_cornerOfTray_64 : decode cX5_cornerOfTray 64 = .ok (.ifCond .ne 5, 3) := by decide +kernel
theorem dX5_cornerOfTray_67 : decode cX5_cornerOfTray 67 = .ok (.iload_n 2, 1) := by decide +kernel
theorem dX5_cornerOfTray_68 : decode cX5_cornerOfTray 68 = .ok (.ireturn, 1) := by decide +kernel
theorem dX5_cornerOfTray_69 : decode cX5_cornerOfTray 69 = .ok (.iinc 2 1, 3) := by decide +kernel
theorem dX5_cornerOfTray_72 : decode cX5_cornerOfTray 72 = .ok (.goto (-28), 3) := by decide +kernel
theorem dX5_cornerOfTray_75 : decode cX5_cornerOfTray 75 = .ok (.bipush (-9), 2) := by decide +kernel
theorem dX5_cornerOfTray_77 : decode cX5_cornerOfTray 77 = .ok (.ireturn, 1) := by decide +kernel
theorem dX5_find_0 : decode cX5_find 0 = .ok (.aload_n 0, 1) := by decide +kernel
theorem dX5_find_1 : decode cX5_find 1 = .ok (.iconst 0, 1) := by decide +kernel
theorem dX5_find_2 : decode cX5_find 2 = .ok (.invokevirtual 87, 3) := by decide +kernel
theorem dX5_find_5 : decode cX5_find 5 = .ok (.ifCond .eq 11, 3) := by decide +kernel
theorem dX5_find_8 : decode cX5_find 8 = .ok (.aload_n 0, 1) := by decide +kernel
theorem dX5_find_9 : decode cX5_find 9 = .ok (.iconst 1, 1) := by decide +kernel
theorem dX5_find_10 : decode cX5_find 10 = .ok (.invokevirtual 87, 3) := by decide +kernel
theorem dX5_find_13 : decode cX5_find 13 = .ok (.ifCond .ne 10, 3) := by decide +kernel
theorem dX5_find_16 : decode cX5_find 16 = .ok (.aload_n 0, 1) := by decide +kernel
theorem dX5_find_17 : decode cX5_find 17 = .ok (.bipush (-5), 2) := by decide +kernel
theorem dX5_find_19 : decode cX5_find 19 = .ok (.invokevirtual 70, 3) := by decide +kernel
theorem dX5_find_22 : decode cX5_find 22 = .ok (.ireturn, 1) := by decide +kernel
theorem dX5_find_23 : decode cX5_find 23 = .ok (.aload_n 0, 1) := by decide +kernel
theorem dX5_find_24 : decode cX5_find 24 = .ok (.iconst 0, 1) := by decide +kernel
theorem dX5_find_25 : decode cX5_find 25 = .ok (.invokevirtual 154, 3) := by decide +kernel
theorem dX5_find_28 : decode cX5_find 28 = .ok (.aload_n 0, 1) := by decide +kernel
theorem dX5_find_29 : decode cX5_find 29 = .ok (.iconst 1, 1) := by decide +kernel
theorem dX5_find_30 : decode cX5_find 30 = .ok (.invokevirtual 154, 3) := by decide +kernel
theorem dX5_find_33 : decode cX5_find 33 = .ok (.aload_n 0, 1) := by decide +kernel
theorem dX5_find_34 : decode cX5_find 34 = .ok (.iconst 0, 1) := by decide +kernel
theorem dX5_find_35 : decode cX5_find 35 = .ok (.invokevirtual 170, 3) := by decide +kernel
theorem dX5_find_38 : decode cX5_find 38 = .ok (.istore_n 1, 1) := by decide +kernel
theorem dX5_find_39 : decode cX5_find 39 = .ok (.aload_n 0, 1) := by decide +kernel
theorem dX5_find_40 : decode cX5_find 40 = .ok (.iconst 1, 1) := by decide +kernel
theorem dX5_find_41 : decode cX5_find 41 = .ok (.invokevirtual 170, 3) := by decide +kernel
theorem dX5_find_44 : decode cX5_find 44 = .ok (.istore_n 2, 1) := by decide +kernel
theorem dX5_find_45 : decode cX5_find 45 = .ok (.iconst 0, 1) := by decide +kernel
theorem dX5_find_46 : decode cX5_find 46 = .ok (.istore_n 3, 1) := by decide +kernel
theorem dX5_find_47 : decode cX5_find 47 = .ok (.iconst 0, 1) := by decide +kernel
theorem dX5_find_48 : decode cX5_find 48 = .ok (.istore 4, 2) := by decide +kernel
theorem dX5_find_50 : decode cX5_find 50 = .ok (.iload 4, 2) := by decide +kernel
theorem dX5_find_52 : decode cX5_find 52 = .ok (.aload_n 0, 1) := by decide +kernel
theorem dX5_find_53 : decode cX5_find 53 = .ok (.getfield 29, 3) := by decide +kernel
theorem dX5_find_56 : decode cX5_find 56 = .ok (.iconst 0, 1) := by decide +kernel
theorem dX5_find_57 : decode cX5_find 57 = .ok (.iaload, 1) := by decide +kernel
theorem dX5_find_58 : decode cX5_find 58 = .ok (.if_icmp .ge 57, 3) := by decide +kernel
theorem dX5_find_61 : decode cX5_find 61 = .ok (.iconst 0, 1) := by decide +kernel
theorem dX5_find_62 : decode cX5_find 62 = .ok (.istore 5, 2) := by decide +kernel
theorem dX5_find_64 : decode cX5_find 64 = .ok (.iload 5, 2) := by decide +kernel
theorem dX5_find_66 : decode cX5_find 66 = .ok (.aload_n 0, 1) := by decide +kernel
theorem dX5_find_67 : decode cX5_find 67 = .ok (.getfield 29, 3) := by decide +kernel
theorem dX5_find_70 : decode cX5_find 70 = .ok (.iconst 1, 1) := by decide +kernel
theorem dX5_find_71 : decode cX5_find 71 = .ok (.iaload, 1) := by decide +kernel
theorem dX5_find_72 : decode cX5_find 72 = .ok (.if_icmp .ge 37, 3) := by decide +kernel
theorem dX5_find_75 : decode cX5_find 75 = .ok (.aload_n 0, 1) := by decide +kernel
theorem dX5_find_76 : decode cX5_find 76 = .ok (.iload 4, 2) := by decide +kernel
theorem dX5_find_78 : decode cX5_find 78 = .ok (.iload 5, 2) := by decide +kernel
theorem dX5_find_80 : decode cX5_find 80 = .ok (.invokevirtual 158, 3) := by decide +kernel
theorem dX5_find_83 : decode cX5_find 83 = .ok (.ifCond .eq 20, 3) := by decide +kernel
theorem dX5_find_86 : decode cX5_find 86 = .ok (.iload 4, 2) := by decide +kernel
theorem dX5_find_88 : decode cX5_find 88 = .ok (.iload_n 1, 1) := by decide +kernel
theorem dX5_find_89 : decode cX5_find 89 = .ok (.if_icmp .ne 11, 3) := by decide +kernel
theorem dX5_find_92 : decode cX5_find 92 = .ok (.iload 5, 2) := by decide +kernel
theorem dX5_find_94 : decode cX5_find 94 = .ok (.iload_n 2, 1) := by decide +kernel
theorem dX5_find_95 : decode cX5_find 95 = .ok (.if_icmp .ne 5, 3) := by decide +kernel
theorem dX5_find_98 : decode cX5_find 98 = .ok (.iload_n 3, 1) := by decide +kernel
theorem dX5_find_99 : decode cX5_find 99 = .ok (.ireturn, 1) := by decide +kernel
theorem dX5_find_100 : decode cX5_find 100 = .ok (.iinc 3 1, 3) := by decide +kernel
theorem dX5_find_103 : decode cX5_find 103 = .ok (.iinc 5 1, 3) := by decide +kernel
theorem dX5_find_106 : decode cX5_find 106 = .ok (.goto (-42), 3) := by decide +kernel
theorem dX5_find_109 : decode cX5_find 109 = .ok (.iinc 4 1, 3) := by decide +kernel
theorem dX5_find_112 : decode cX5_find 112 = .ok (.goto (-62), 3) := by decide +kernel
theorem dX5_find_115 : decode cX5_find 115 = .ok (.bipush (-9), 2) := by decide +kernel
theorem dX5_find_117 : decode cX5_find 117 = .ok (.ireturn, 1) := by decide +kernel
theorem dX5_turn_0 : decode cX5_turn 0 = .ok (.iconst 0, 1) := by decide +kernel
theorem dX5_turn_1 : decode cX5_turn 1 = .ok (.istore_n 1, 1) := by decide +kernel
theorem dX5_turn_2 : decode cX5_turn 2 = .ok (.iload_n 1, 1) := by decide +kernel
theorem dX5_turn_3 : decode cX5_turn 3 = .ok (.bipush 32, 2) := by decide +kernel
theorem dX5_turn_5 : decode cX5_turn 5 = .ok (.if_icmp .ge 21, 3) := by decide +kernel
theorem dX5_turn_8 : decode cX5_turn 8 = .ok (.aload_n 0, 1) := by decide +kernel
theorem dX5_turn_9 : decode cX5_turn 9 = .ok (.getfield 56, 3) := by decide +kernel
theorem dX5_turn_12 : decode cX5_turn 12 = .ok (.iload_n 1, 1) := by decide +kernel
theorem dX5_turn_13 : decode cX5_turn 13 = .ok (.aload_n 0, 1) := by decide +kernel
theorem dX5_turn_14 : decode cX5_turn 14 = .ok (.getfield 13, 3) := by decide +kernel
theorem dX5_turn_17 : decode cX5_turn 17 = .ok (.iload_n 1, 1) := by decide +kernel
theorem dX5_turn_18 : decode cX5_turn 18 = .ok (.iaload, 1) := by decide +kernel
theorem dX5_turn_19 : decode cX5_turn 19 = .ok (.iastore, 1) := by decide +kernel
theorem dX5_turn_20 : decode cX5_turn 20 = .ok (.iinc 1 1, 3) := by decide +kernel
theorem dX5_turn_23 : decode cX5_turn 23 = .ok (.goto (-21), 3) := by decide +kernel
theorem dX5_turn_26 : decode cX5_turn 26 = .ok (.iconst 0, 1) := by decide +kernel
theorem dX5_turn_27 : decode cX5_turn 27 = .ok (.istore_n 1, 1) := by decide +kernel
theorem dX5_turn_28 : decode cX5_turn 28 = .ok (.iload_n 1, 1) := by decide +kernel
theorem dX5_turn_29 : decode cX5_turn 29 = .ok (.bipush 8, 2) := by decide +kernel
theorem dX5_turn_31 : decode cX5_turn 31 = .ok (.if_icmp .ge 24, 3) := by decide +kernel
theorem dX5_turn_34 : decode cX5_turn 34 = .ok (.aload_n 0, 1) := by decide +kernel
theorem dX5_turn_35 : decode cX5_turn 35 = .ok (.getfield 56, 3) := by decide +kernel
theorem dX5_turn_38 : decode cX5_turn 38 = .ok (.bipush 32, 2) := by decide +kernel
theorem dX5_turn_40 : decode cX5_turn 40 = .ok (.iload_n 1, 1) := by decide +kernel
theorem dX5_turn_41 : decode cX5_turn 41 = .ok (.iadd, 1) := by decide +kernel
theorem dX5_turn_42 : decode cX5_turn 42 = .ok (.aload_n 0, 1) := by decide +kernel
theorem dX5_turn_43 : decode cX5_turn 43 = .ok (.getfield 16, 3) := by decide +kernel
theorem dX5_turn_46 : decode cX5_turn 46 = .ok (.iload_n 1, 1) := by decide +kernel
theorem dX5_turn_47 : decode cX5_turn 47 = .ok (.iaload, 1) := by decide +kernel
theorem dX5_turn_48 : decode cX5_turn 48 = .ok (.iastore, 1) := by decide +kernel
theorem dX5_turn_49 : decode cX5_turn 49 = .ok (.iinc 1 1, 3) := by decide +kernel
theorem dX5_turn_52 : decode cX5_turn 52 = .ok (.goto (-24), 3) := by decide +kernel
theorem dX5_turn_55 : decode cX5_turn 55 = .ok (.iconst 0, 1) := by decide +kernel
theorem dX5_turn_56 : decode cX5_turn 56 = .ok (.istore_n 1, 1) := by decide +kernel
theorem dX5_turn_57 : decode cX5_turn 57 = .ok (.iload_n 1, 1) := by decide +kernel
theorem dX5_turn_58 : decode cX5_turn 58 = .ok (.iconst 4, 1) := by decide +kernel
theorem dX5_turn_59 : decode cX5_turn 59 = .ok (.if_icmp .ge 100, 3) := by decide +kernel
theorem dX5_turn_62 : decode cX5_turn 62 = .ok (.iconst 0, 1) := by decide +kernel
theorem dX5_turn_63 : decode cX5_turn 63 = .ok (.istore_n 2, 1) := by decide +kernel
theorem dX5_turn_64 : decode cX5_turn 64 = .ok (.iload_n 2, 1) := by decide +kernel
theorem dX5_turn_65 : decode cX5_turn 65 = .ok (.iconst 4, 1) := by decide +kernel
theorem dX5_turn_66 : decode cX5_turn 66 = .ok (.if_icmp .ge 55, 3) := by decide +kernel
theorem dX5_turn_69 : decode cX5_turn 69 = .ok (.aload_n 0, 1) := by decide +kernel
theorem dX5_turn_70 : decode cX5_turn 70 = .ok (.getfield 13, 3) := by decide +kernel
theorem dX5_turn_73 : decode cX5_turn 73 = .ok (.iconst 4, 1) := by decide +kernel
theorem dX5_turn_74 : decode cX5_turn 74 = .ok (.iload_n 1, 1) := by decide +kernel
theorem dX5_turn_75 : decode cX5_turn 75 = .ok (.imul, 1) := by decide +kernel
theorem dX5_turn_76 : decode cX5_turn 76 = .ok (.iload_n 2, 1) := by decide +kernel
theorem dX5_turn_77 : decode cX5_turn 77 = .ok (.iadd, 1) := by decide +kernel
theorem dX5_turn_78 : decode cX5_turn 78 = .ok (.aload_n 0, 1) := by decide +kernel
theorem dX5_turn_79 : decode cX5_turn 79 = .ok (.getfield 56, 3) := by decide +kernel
theorem dX5_turn_82 : decode cX5_turn 82 = .ok (.bipush 16, 2) := by decide +kernel
theorem dX5_turn_84 : decode cX5_turn 84 = .ok (.iconst 4, 1) := by decide +kernel
theorem dX5_turn_85 : decode cX5_turn 85 = .ok (.iload_n 2, 1) := by decide +kernel
theorem dX5_turn_86 : decode cX5_turn 86 = .ok (.imul, 1) := by decide +kernel
theorem dX5_turn_87 : decode cX5_turn 87 = .ok (.iadd, 1) := by decide +kernel
theorem dX5_turn_88 : decode cX5_turn 88 = .ok (.iload_n 1, 1) := by decide +kernel
theorem dX5_turn_89 : decode cX5_turn 89 = .ok (.iadd, 1) := by decide +kernel
theorem dX5_turn_90 : decode cX5_turn 90 = .ok (.iaload, 1) := by decide +kernel
theorem dX5_turn_91 : decode cX5_turn 91 = .ok (.iastore, 1) := by decide +kernel
theorem dX5_turn_92 : decode cX5_turn 92 = .ok (.aload_n 0, 1) := by decide +kernel
theorem dX5_turn_93 : decode cX5_turn 93 = .ok (.getfield 13, 3) := by decide +kernel
theorem dX5_turn_96 : decode cX5_turn 96 = .ok (.bipush 16, 2) := by decide +kernel
theorem dX5_turn_98 : decode cX5_turn 98 = .ok (.iconst 4, 1) := by decide +kernel
theorem dX5_turn_99 : decode cX5_turn 99 = .ok (.iload_n 1, 1) := by decide +kernel
theorem dX5_turn_100 : decode cX5_turn 100 = .ok (.imul, 1) := by decide +kernel
theorem dX5_turn_101 : decode cX5_turn 101 = .ok (.iadd, 1) := by decide +kernel
theorem dX5_turn_102 : decode cX5_turn 102 = .ok (.iload_n 2, 1) := by decide +kernel
theorem dX5_turn_103 : decode cX5_turn 103 = .ok (.iadd, 1) := by decide +kernel
theorem dX5_turn_104 : decode cX5_turn 104 = .ok (.aload_n 0, 1) := by decide +kernel
theorem dX5_turn_105 : decode cX5_turn 105 = .ok (.getfield 56, 3) := by decide +kernel
theorem dX5_turn_108 : decode cX5_turn 108 = .ok (.iconst 4, 1) := by decide +kernel
theorem dX5_turn_109 : decode cX5_turn 109 = .ok (.iload_n 2, 1) := by decide +kernel
theorem dX5_turn_110 : decode cX5_turn 110 = .ok (.imul, 1) := by decide +kernel
theorem dX5_turn_111 : decode cX5_turn 111 = .ok (.iload_n 1, 1) := by decide +kernel
theorem dX5_turn_112 : decode cX5_turn 112 = .ok (.iadd, 1) := by decide +kernel
theorem dX5_turn_113 : decode cX5_turn 113 = .ok (.iaload, 1) := by decide +kernel
theorem dX5_turn_114 : decode cX5_turn 114 = .ok (.iastore, 1) := by decide +kernel
theorem dX5_turn_115 : decode cX5_turn 115 = .ok (.iinc 2 1, 3) := by decide +kernel
theorem dX5_turn_118 : decode cX5_turn 118 = .ok (.goto (-54), 3) := by decide +kernel
theorem dX5_turn_121 : decode cX5_turn 121 = .ok (.aload_n 0, 1) := by decide +kernel
theorem dX5_turn_122 : decode cX5_turn 122 = .ok (.getfield 16, 3) := by decide +kernel
theorem dX5_turn_125 : decode cX5_turn 125 = .ok (.iload_n 1, 1) := by decide +kernel
theorem dX5_turn_126 : decode cX5_turn 126 = .ok (.aload_n 0, 1) := by decide +kernel
theorem dX5_turn_127 : decode cX5_turn 127 = .ok (.getfield 56, 3) := by decide +kernel
theorem dX5_turn_130 : decode cX5_turn 130 = .ok (.bipush 36, 2) := by decide +kernel
theorem dX5_turn_132 : decode cX5_turn 132 = .ok (.iload_n 1, 1) := by decide +kernel
theorem dX5_turn_133 : decode cX5_turn 133 = .ok (.iadd, 1) := by decide +kernel
theorem dX5_turn_134 : decode cX5_turn 134 = .ok (.iaload, 1) := by decide +kernel
theorem dX5_turn_135 : decode cX5_turn 135 = .ok (.iastore, 1) := by decide +kernel
theorem dX5_turn_136 : decode cX5_turn 136 = .ok (.aload_n 0, 1) := by decide +kernel
theorem dX5_turn_137 : decode cX5_turn 137 = .ok (.getfield 16, 3) := by decide +kernel
theorem dX5_turn_140 : decode cX5_turn 140 = .ok (.iconst 4, 1) := by decide +kernel
theorem dX5_turn_141 : decode cX5_turn 141 = .ok (.iload_n 1, 1) := by decide +kernel
theorem dX5_turn_142 : decode cX5_turn 142 = .ok (.iadd, 1) := by decide +kernel
theorem dX5_turn_143 : decode cX5_turn 143 = .ok (.aload_n 0, 1) := by decide +kernel
theorem dX5_turn_144 : decode cX5_turn 144 = .ok (.getfield 56, 3) := by decide +kernel
theorem dX5_turn_147 : decode cX5_turn 147 = .ok (.bipush 32, 2) := by decide +kernel
theorem dX5_turn_149 : decode cX5_turn 149 = .ok (.iload_n 1, 1) := by decide +kernel
theorem dX5_turn_150 : decode cX5_turn 150 = .ok (.iadd, 1) := by decide +kernel
theorem dX5_turn_151 : decode cX5_turn 151 = .ok (.iaload, 1) := by decide +kernel
theorem dX5_turn_152 : decode cX5_turn 152 = .ok (.iastore, 1) := by decide +kernel
theorem dX5_turn_153 : decode cX5_turn 153 = .ok (.iinc 1 1, 3) := by decide +kernel
theorem dX5_turn_156 : decode cX5_turn 156 = .ok (.goto (-99), 3) := by decide +kernel
theorem dX5_turn_159 : decode cX5_turn 159 = .ok (.aload_n 0, 1) := by decide +kernel
theorem dX5_turn_160 : decode cX5_turn 160 = .ok (.getfield 7, 3) := by decide +kernel
theorem dX5_turn_163 : decode cX5_turn 163 = .ok (.iconst 0, 1) := by decide +kernel
theorem dX5_turn_164 : decode cX5_turn 164 = .ok (.iaload, 1) := by decide +kernel
theorem dX5_turn_165 : decode cX5_turn 165 = .ok (.istore_n 1, 1) := by decide +kernel
theorem dX5_turn_166 : decode cX5_turn 166 = .ok (.aload_n 0, 1) := by decide +kernel
theorem dX5_turn_167 : decode cX5_turn 167 = .ok (.getfield 7, 3) := by decide +kernel
theorem dX5_turn_170 : decode cX5_turn 170 = .ok (.iconst 0, 1) := by decide +kernel
theorem dX5_turn_171 : decode cX5_turn 171 = .ok (.aload_n 0, 1) := by decide +kernel
theorem dX5_turn_172 : decode cX5_turn 172 = .ok (.getfield 7, 3) := by decide +kernel
theorem dX5_turn_175 : decode cX5_turn 175 = .ok (.iconst 1, 1) := by decide +kernel
theorem dX5_turn_176 : decode cX5_turn 176 = .ok (.iaload, 1) := by decide +kernel
theorem dX5_turn_177 : decode cX5_turn 177 = .ok (.iastore, 1) := by decide +kernel
theorem dX5_turn_178 : decode cX5_turn 178 = .ok (.aload_n 0, 1) := by decide +kernel
theorem dX5_turn_179 : decode cX5_turn 179 = .ok (.getfield 7, 3) := by decide +kernel
theorem dX5_turn_182 : decode cX5_turn 182 = .ok (.iconst 1, 1) := by decide +kernel
theorem dX5_turn_183 : decode cX5_turn 183 = .ok (.iload_n 1, 1) := by decide +kernel
theorem dX5_turn_184 : decode cX5_turn 184 = .ok (.iastore, 1) := by decide +kernel
theorem dX5_turn_185 : decode cX5_turn 185 = .ok (.iconst 1, 1) := by decide +kernel
theorem dX5_turn_186 : decode cX5_turn 186 = .ok (.ireturn, 1) := by decide +kernel
theorem dX5_placeOf_0 : decode cX5_placeOf 0 = .ok (.iload_n 1, 1) := by decide +kernel
theorem dX5_placeOf_1 : decode cX5_placeOf 1 = .ok (.ifCond .ne 11, 3) := by decide +kernel
theorem dX5_placeOf_4 : decode cX5_placeOf 4 = .ok (.iconst 4, 1) := by decide +kernel
theorem dX5_placeOf_5 : decode cX5_placeOf 5 = .ok (.iload_n 2, 1) := by decide +kernel
theorem dX5_placeOf_6 : decode cX5_placeOf 6 = .ok (.imul, 1) := by decide +kernel
theorem dX5_placeOf_7 : decode cX5_placeOf 7 = .ok (.iload_n 3, 1) := by decide +kernel
theorem dX5_placeOf_8 : decode cX5_placeOf 8 = .ok (.iadd, 1) := by decide +kernel
theorem dX5_placeOf_9 : decode cX5_placeOf 9 = .ok (.goto 11, 3) := by decide +kernel
theorem dX5_placeOf_12 : decode cX5_placeOf 12 = .ok (.bipush 16, 2) := by decide +kernel
theorem dX5_placeOf_14 : decode cX5_placeOf 14 = .ok (.iconst 4, 1) := by decide +kernel
theorem dX5_placeOf_15 : decode cX5_placeOf 15 = .ok (.iload_n 3, 1) := by decide +kernel
theorem dX5_placeOf_16 : decode cX5_placeOf 16 = .ok (.imul, 1) := by decide +kernel
theorem dX5_placeOf_17 : decode cX5_placeOf 17 = .ok (.iadd, 1) := by decide +kernel
theorem dX5_placeOf_18 : decode cX5_placeOf 18 = .ok (.iload_n 2, 1) := by decide +kernel
theorem dX5_placeOf_19 : decode cX5_placeOf 19 = .ok (.iadd, 1) := by decide +kernel
theorem dX5_placeOf_20 : decode cX5_placeOf 20 = .ok (.ireturn, 1) := by decide +kernel
theorem dX5_raise_0 : decode cX5_raise 0 = .ok (.iload_n 1, 1) := by decide +kernel
theorem dX5_raise_1 : decode cX5_raise 1 = .ok (.invokestatic 62, 3) := by decide +kernel
theorem dX5_raise_4 : decode cX5_raise 4 = .ok (.ifCond .eq 14, 3) := by decide +kernel
theorem dX5_raise_7 : decode cX5_raise 7 = .ok (.aload_n 0, 1) := by decide +kernel
theorem dX5_raise_8 : decode cX5_raise 8 = .ok (.iconst 1, 1) := by decide +kernel
theorem dX5_raise_9 : decode cX5_raise 9 = .ok (.iload_n 1, 1) := by decide +kernel
theorem dX5_raise_10 : decode cX5_raise 10 = .ok (.isub, 1) := by decide +kernel
theorem dX5_raise_11 : decode cX5_raise 11 = .ok (.iload_n 2, 1) := by decide +kernel
theorem dX5_raise_12 : decode cX5_raise 12 = .ok (.invokevirtual 74, 3) := by decide +kernel
theorem dX5_raise_15 : decode cX5_raise 15 = .ok (.ifCond .ne 9, 3) := by decide +kernel
theorem dX5_raise_18 : decode cX5_raise 18 = .ok (.aload_n 0, 1) := by decide +kernel
theorem dX5_raise_19 : decode cX5_raise 19 = .ok (.iconst (-1), 1) := by decide +kernel
theorem dX5_raise_20 : decode cX5_raise 20 = .ok (.invokevirtual 70, 3) := by decide +kernel
theorem dX5_raise_23 : decode cX5_raise 23 = .ok (.ireturn, 1) := by decide +kernel
theorem dX5_raise_24 : decode cX5_raise 24 = .ok (.iconst 0, 1) := by decide +kernel
theorem dX5_raise_25 : decode cX5_raise 25 = .ok (.istore 4, 2) := by decide +kernel
theorem dX5_raise_27 : decode cX5_raise 27 = .ok (.iconst 0, 1) := by decide +kernel
theorem dX5_raise_28 : decode cX5_raise 28 = .ok (.istore 5, 2) := by decide +kernel
theorem dX5_raise_30 : decode cX5_raise 30 = .ok (.iconst 0, 1) := by decide +kernel
theorem dX5_raise_31 : decode cX5_raise 31 = .ok (.istore 6, 2) := by decide +kernel
theorem dX5_raise_33 : decode cX5_raise 33 = .ok (.iload 6, 2) := by decide +kernel
theorem dX5_raise_35 : decode cX5_raise 35 = .ok (.aload_n 0, 1) := by decide +kernel
theorem dX5_raise_36 : decode cX5_raise 36 = .ok (.getfield 7, 3) := by decide +kernel
theorem dX5_raise_39 : decode cX5_raise 39 = .ok (.iload_n 1, 1) := by decide +kernel
theorem dX5_raise_40 : decode cX5_raise 40 = .ok (.iaload, 1) := by decide +kernel
theorem dX5_raise_41 : decode cX5_raise 41 = .ok (.if_icmp .ge 65, 3) := by decide +kernel
theorem dX5_raise_44 : decode cX5_raise 44 = .ok (.aload_n 0, 1) := by decide +kernel
theorem dX5_raise_45 : decode cX5_raise 45 = .ok (.iload_n 1, 1) := by decide +kernel
theorem dX5_raise_46 : decode cX5_raise 46 = .ok (.iload 6, 2) := by decide +kernel
theorem dX5_raise_48 : decode cX5_raise 48 = .ok (.iload_n 2, 1) := by decide +kernel
theorem dX5_raise_49 : decode cX5_raise 49 = .ok (.invokevirtual 101, 3) := by decide +kernel
theorem dX5_raise_52 : decode cX5_raise 52 = .ok (.i2l, 1) := by decide +kernel
theorem dX5_raise_53 : decode cX5_raise 53 = .ok (.iload_n 3, 1) := by decide +kernel
theorem dX5_raise_54 : decode cX5_raise 54 = .ok (.i2l, 1) := by decide +kernel
theorem dX5_raise_55 : decode cX5_raise 55 = .ok (.ladd, 1) := by decide +kernel
theorem dX5_raise_56 : decode cX5_raise 56 = .ok (.lstore 7, 2) := by decide +kernel
theorem dX5_raise_58 : decode cX5_raise 58 = .ok (.iload 4, 2) := by decide +kernel
theorem dX5_raise_60 : decode cX5_raise 60 = .ok (.ifCond .ne 12, 3) := by decide +kernel
theorem dX5_raise_63 : decode cX5_raise 63 = .ok (.lload 7, 2) := by decide +kernel
theorem dX5_raise_65 : decode cX5_raise 65 = .ok (.ldc2_w 173, 3) := by decide +kernel
theorem dX5_raise_68 : decode cX5_raise 68 = .ok (.lcmp, 1) := by decide +kernel
theorem dX5_raise_69 : decode cX5_raise 69 = .ok (.ifCond .ge 7, 3) := by decide +kernel
theorem dX5_raise_72 : decode cX5_raise 72 = .ok (.iconst 1, 1) := by decide +kernel
theorem dX5_raise_73 : decode cX5_raise 73 = .ok (.goto 4, 3) := by decide +kernel
theorem dX5_raise_76 : decode cX5_raise 76 = .ok (.iconst 0, 1) := by decide +kernel
theorem dX5_raise_77 : decode cX5_raise 77 = .ok (.istore 4, 2) := by decide +kernel
theorem dX5_raise_79 : decode cX5_raise 79 = .ok (.iload 5, 2) := by decide +kernel
theorem dX5_raise_81 : decode cX5_raise 81 = .ok (.ifCond .ne 12, 3) := by decide +kernel
theorem dX5_raise_84 : decode cX5_raise 84 = .ok (.lload 7, 2) := by decide +kernel
theorem dX5_raise_86 : decode cX5_raise 86 = .ok (.ldc2_w 175, 3) := by decide +kernel
theorem dX5_raise_89 : decode cX5_raise 89 = .ok (.lcmp, 1) := by decide +kernel
theorem dX5_raise_90 : decode cX5_raise 90 = .ok (.ifCond .le 7, 3) := by decide +kernel
theorem dX5_raise_93 : decode cX5_raise 93 = .ok (.iconst 1, 1) := by decide +kernel
theorem dX5_raise_94 : decode cX5_raise 94 = .ok (.goto 4, 3) := by decide +kernel
theorem dX5_raise_97 : decode cX5_raise 97 = .ok (.iconst 0, 1) := by decide +kernel
theorem dX5_raise_98 : decode cX5_raise 98 = .ok (.istore 5, 2) := by decide +kernel
theorem dX5_raise_100 : decode cX5_raise 100 = .ok (.iinc 6 1, 3) := by decide +kernel
theorem dX5_raise_103 : decode cX5_raise 103 = .ok (.goto (-70), 3) := by decide +kernel
theorem dX5_raise_106 : decode cX5_raise 106 = .ok (.iload 4, 2) := by decide +kernel
theorem dX5_raise_108 : decode cX5_raise 108 = .ok (.ifCond .eq 10, 3) := by decide +kernel
theorem dX5_raise_111 : decode cX5_raise 111 = .ok (.aload_n 0, 1) := by decide +kernel
theorem dX5_raise_112 : decode cX5_raise 112 = .ok (.bipush (-4), 2) := by decide +kernel
theorem dX5_raise_114 : decode cX5_raise 114 = .ok (.invokevirtual 70, 3) := by decide +kernel
theorem dX5_raise_117 : decode cX5_raise 117 = .ok (.ireturn, 1) := by decide +kernel
theorem dX5_raise_118 : decode cX5_raise 118 = .ok (.iload 5, 2) := by decide +kernel
theorem dX5_raise_120 : decode cX5_raise 120 = .ok (.ifCond .eq 10, 3) := by decide +kernel
theorem dX5_raise_123 : decode cX5_raise 123 = .ok (.aload_n 0, 1) := by decide +kernel
theorem dX5_raise_124 : decode cX5_raise 124 = .ok (.bipush (-6), 2) := by decide +kernel
theorem dX5_raise_126 : decode cX5_raise 126 = .ok (.invokevirtual 70, 3) := by decide +kernel
theorem dX5_raise_129 : decode cX5_raise 129 = .ok (.ireturn, 1) := by decide +kernel
theorem dX5_raise_130 : decode cX5_raise 130 = .ok (.iconst 0, 1) := by decide +kernel
theorem dX5_raise_131 : decode cX5_raise 131 = .ok (.istore 6, 2) := by decide +kernel
theorem dX5_raise_133 : decode cX5_raise 133 = .ok (.iload 6, 2) := by decide +kernel
theorem dX5_raise_135 : decode cX5_raise 135 = .ok (.aload_n 0, 1) := by decide +kernel
theorem dX5_raise_136 : decode cX5_raise 136 = .ok (.getfield 7, 3) := by decide +kernel
theorem dX5_raise_139 : decode cX5_raise 139 = .ok (.iload_n 1, 1) := by decide +kernel
theorem dX5_raise_140 : decode cX5_raise 140 = .ok (.iaload, 1) := by decide +kernel
theorem dX5_raise_141 : decode cX5_raise 141 = .ok (.if_icmp .ge 26, 3) := by decide +kernel
theorem dX5_raise_144 : decode cX5_raise 144 = .ok (.aload_n 0, 1) := by decide +kernel
theorem dX5_raise_145 : decode cX5_raise 145 = .ok (.getfield 13, 3) := by decide +kernel
theorem dX5_raise_148 : decode cX5_raise 148 = .ok (.aload_n 0, 1) := by decide +kernel
theorem dX5_raise_149 : decode cX5_raise 149 = .ok (.iload_n 1, 1) := by decide +kernel
theorem dX5_raise_150 : decode cX5_raise 150 = .ok (.iload 6, 2) := by decide +kernel
theorem dX5_raise_152 : decode cX5_raise 152 = .ok (.iload_n 2, 1) := by decide +kernel
theorem dX5_raise_153 : decode cX5_raise 153 = .ok (.invokevirtual 177, 3) := by decide +kernel
theorem dX5_raise_156 : decode cX5_raise 156 = .ok (.dup2, 1) := by decide +kernel
theorem dX5_raise_157 : decode cX5_raise 157 = .ok (.iaload, 1) := by decide +kernel
theorem dX5_raise_158 : decode cX5_raise 158 = .ok (.iload_n 3, 1) := by decide +kernel
theorem dX5_raise_159 : decode cX5_raise 159 = .ok (.iadd, 1) := by decide +kernel
theorem dX5_raise_160 : decode cX5_raise 160 = .ok (.iastore, 1) := by decide +kernel
theorem dX5_raise_161 : decode cX5_raise 161 = .ok (.iinc 6 1, 3) := by decide +kernel
theorem dX5_raise_164 : decode cX5_raise 164 = .ok (.goto (-31), 3) := by decide +kernel
theorem dX5_raise_167 : decode cX5_raise 167 = .ok (.iconst 1, 1) := by decide +kernel
theorem dX5_raise_168 : decode cX5_raise 168 = .ok (.ireturn, 1) := by decide +kernel
theorem dX5_scale_0 : decode cX5_scale 0 = .ok (.iload_n 1, 1) := by decide +kernel
theorem dX5_scale_1 : decode cX5_scale 1 = .ok (.invokestatic 62, 3) := by decide +kernel
theorem dX5_scale_4 : decode cX5_scale 4 = .ok (.ifCond .ne 9, 3) := by decide +kernel
theorem dX5_scale_7 : decode cX5_scale 7 = .ok (.aload_n 0, 1) := by decide +kernel
theorem dX5_scale_8 : decode cX5_scale 8 = .ok (.iconst (-1), 1) := by decide +kernel
theorem dX5_scale_9 : decode cX5_scale 9 = .ok (.invokevirtual 70, 3) := by decide +kernel
theorem dX5_scale_12 : decode cX5_scale 12 = .ok (.ireturn, 1) := by decide +kernel
theorem dX5_scale_13 : decode cX5_scale 13 = .ok (.iload_n 2, 1) := by decide +kernel
theorem dX5_scale_14 : decode cX5_scale 14 = .ok (.iconst 1, 1) := by decide +kernel
theorem dX5_scale_15 : decode cX5_scale 15 = .ok (.if_icmp .ge 10, 3) := by decide +kernel
theorem dX5_scale_18 : decode cX5_scale 18 = .ok (.aload_n 0, 1) := by decide +kernel
theorem dX5_scale_19 : decode cX5_scale 19 = .ok (.bipush (-4), 2) := by decide +kernel
theorem dX5_scale_21 : decode cX5_scale 21 = .ok (.invokevirtual 70, 3) := by decide +kernel
theorem dX5_scale_24 : decode cX5_scale 24 = .ok (.ireturn, 1) := by decide +kernel
theorem dX5_scale_25 : decode cX5_scale 25 = .ok (.bipush 16, 2) := by decide +kernel
theorem dX5_scale_27 : decode cX5_scale 27 = .ok (.iload_n 1, 1) := by decide +kernel
theorem dX5_scale_28 : decode cX5_scale 28 = .ok (.imul, 1) := by decide +kernel
theorem dX5_scale_29 : decode cX5_scale 29 = .ok (.istore_n 3, 1) := by decide +kernel
theorem dX5_scale_30 : decode cX5_scale 30 = .ok (.iload_n 3, 1) := by decide +kernel
theorem dX5_scale_31 : decode cX5_scale 31 = .ok (.bipush 16, 2) := by decide +kernel
theorem dX5_scale_33 : decode cX5_scale 33 = .ok (.iload_n 1, 1) := by decide +kernel
theorem dX5_scale_34 : decode cX5_scale 34 = .ok (.imul, 1) := by decide +kernel
theorem dX5_scale_35 : decode cX5_scale 35 = .ok (.bipush 16, 2) := by decide +kernel
theorem dX5_scale_37 : decode cX5_scale 37 = .ok (.iadd, 1) := by decide +kernel
theorem dX5_scale_38 : decode cX5_scale 38 = .ok (.if_icmp .ge 38, 3) := by decide +kernel
theorem dX5_scale_41 : decode cX5_scale 41 = .ok (.aload_n 0, 1) := by decide +kernel
theorem dX5_scale_42 : decode cX5_scale 42 = .ok (.getfield 13, 3) := by decide +kernel
theorem dX5_scale_45 : decode cX5_scale 45 = .ok (.iload_n 3, 1) := by decide +kernel
theorem dX5_scale_46 : decode cX5_scale 46 = .ok (.iaload, 1) := by decide +kernel
theorem dX5_scale_47 : decode cX5_scale 47 = .ok (.i2l, 1) := by decide +kernel
theorem dX5_scale_48 : decode cX5_scale 48 = .ok (.iload_n 2, 1) := by decide +kernel
theorem dX5_scale_49 : decode cX5_scale 49 = .ok (.i2l, 1) := by decide +kernel
theorem dX5_scale_50 : decode cX5_scale 50 = .ok (.lmul, 1) := by decide +kernel
theorem dX5_scale_51 : decode cX5_scale 51 = .ok (.ldc2_w 173, 3) := by decide +kernel
theorem dX5_scale_54 : decode cX5_scale 54 = .ok (.ldc2_w 175, 3) := by decide +kernel
theorem dX5_scale_57 : decode cX5_scale 57 = .ok (.invokestatic 66, 3) := by decide +kernel
theorem dX5_scale_60 : decode cX5_scale 60 = .ok (.ifCond .ne 10, 3) := by decide +kernel
theorem dX5_scale_63 : decode cX5_scale 63 = .ok (.aload_n 0, 1) := by decide +kernel
theorem dX5_scale_64 : decode cX5_scale 64 = .ok (.bipush (-6), 2) := by decide +kernel
theorem dX5_scale_66 : decode cX5_scale 66 = .ok (.invokevirtual 70, 3) := by decide +kernel
theorem dX5_scale_69 : decode cX5_scale 69 = .ok (.ireturn, 1) := by decide +kernel
theorem dX5_scale_70 : decode cX5_scale 70 = .ok (.iinc 3 1, 3) := by decide +kernel
theorem dX5_scale_73 : decode cX5_scale 73 = .ok (.goto (-43), 3) := by decide +kernel
theorem dX5_scale_76 : decode cX5_scale 76 = .ok (.bipush 16, 2) := by decide +kernel
theorem dX5_scale_78 : decode cX5_scale 78 = .ok (.iload_n 1, 1) := by decide +kernel
theorem dX5_scale_79 : decode cX5_scale 79 = .ok (.imul, 1) := by decide +kernel
theorem dX5_scale_80 : decode cX5_scale 80 = .ok (.istore_n 3, 1) := by decide +kernel
theorem dX5_scale_81 : decode cX5_scale 81 = .ok (.iload_n 3, 1) := by decide +kernel
theorem dX5_scale_82 : decode cX5_scale 82 = .ok (.bipush 16, 2) := by decide +kernel
theorem dX5_scale_84 : decode cX5_scale 84 = .ok (.iload_n 1, 1) := by decide +kernel
theorem dX5_scale_85 : decode cX5_scale 85 = .ok (.imul, 1) := by decide +kernel
theorem dX5_scale_86 : decode cX5_scale 86 = .ok (.bipush 16, 2) := by decide +kernel
theorem dX5_scale_88 : decode cX5_scale 88 = .ok (.iadd, 1) := by decide +kernel
theorem dX5_scale_89 : decode cX5_scale 89 = .ok (.if_icmp .ge 19, 3) := by decide +kernel
theorem dX5_scale_92 : decode cX5_scale 92 = .ok (.aload_n 0, 1) := by decide +kernel
theorem dX5_scale_93 : decode cX5_scale 93 = .ok (.getfield 13, 3) := by decide +kernel
theorem dX5_scale_96 : decode cX5_scale 96 = .ok (.iload_n 3, 1) := by decide +kernel
theorem dX5_scale_97 : decode cX5_scale 97 = .ok (.dup2, 1) := by decide +kernel
theorem dX5_scale_98 : decode cX5_scale 98 = .ok (.iaload, 1) := by decide +kernel
theorem dX5_scale_99 : decode cX5_scale 99 = .ok (.iload_n 2, 1) := by decide +kernel
theorem dX5_scale_100 : decode cX5_scale 100 = .ok (.imul, 1) := by decide +kernel
theorem dX5_scale_101 : decode cX5_scale 101 = .ok (.iastore, 1) := by decide +kernel
theorem dX5_scale_102 : decode cX5_scale 102 = .ok (.iinc 3 1, 3) := by decide +kernel
theorem dX5_scale_105 : decode cX5_scale 105 = .ok (.goto (-24), 3) := by decide +kernel
theorem dX5_scale_108 : decode cX5_scale 108 = .ok (.iconst 1, 1) := by decide +kernel
theorem dX5_scale_109 : decode cX5_scale 109 = .ok (.ireturn, 1) := by decide +kernel
theorem dX5_status_0 : decode cX5_status 0 = .ok (.iconst 1, 1) := by decide +kernel
theorem dX5_status_1 : decode cX5_status 1 = .ok (.istore_n 2, 1) := by decide +kernel
theorem dX5_status_2 : decode cX5_status 2 = .ok (.aload_n 0, 1) := by decide +kernel
theorem dX5_status_3 : decode cX5_status 3 = .ok (.getfield 7, 3) := by decide +kernel
theorem dX5_status_6 : decode cX5_status 6 = .ok (.iconst 0, 1) := by decide +kernel
theorem dX5_status_7 : decode cX5_status 7 = .ok (.iaload, 1) := by decide +kernel
theorem dX5_status_8 : decode cX5_status 8 = .ok (.aload_n 0, 1) := by decide +kernel
theorem dX5_status_9 : decode cX5_status 9 = .ok (.getfield 7, 3) := by decide +kernel
theorem dX5_status_12 : decode cX5_status 12 = .ok (.iconst 1, 1) := by decide +kernel
theorem dX5_status_13 : decode cX5_status 13 = .ok (.iaload, 1) := by decide +kernel
theorem dX5_status_14 : decode cX5_status 14 = .ok (.if_icmp .ne 7, 3) := by decide +kernel
theorem dX5_status_17 : decode cX5_status 17 = .ok (.iconst 1, 1) := by decide +kernel
theorem dX5_status_18 : decode cX5_status 18 = .ok (.goto 4, 3) := by decide +kernel
theorem dX5_status_21 : decode cX5_status 21 = .ok (.iconst 0, 1) := by decide +kernel
theorem dX5_status_22 : decode cX5_status 22 = .ok (.istore_n 3, 1) := by decide +kernel
theorem dX5_status_23 : decode cX5_status 23 = .ok (.iconst 0, 1) := by decide +kernel
theorem dX5_status_24 : decode cX5_status 24 = .ok (.istore 4, 2) := by decide +kernel
theorem dX5_status_26 : decode cX5_status 26 = .ok (.iload 4, 2) := by decide +kernel
theorem dX5_status_28 : decode cX5_status 28 = .ok (.iconst 4, 1) := by decide +kernel
theorem dX5_status_29 : decode cX5_status 29 = .ok (.if_icmp .ge 105, 3) := by decide +kernel
theorem dX5_status_32 : decode cX5_status 32 = .ok (.iconst 0, 1) := by decide +kernel
theorem dX5_status_33 : decode cX5_status 33 = .ok (.istore 5, 2) := by decide +kernel
theorem dX5_status_35 : decode cX5_status 35 = .ok (.iload 5, 2) := by decide +kernel
theorem dX5_status_37 : decode cX5_status 37 = .ok (.iconst 4, 1) := by decide +kernel
theorem dX5_status_38 : decode cX5_status 38 = .ok (.if_icmp .ge 90, 3) := by decide +kernel
theorem dX5_status_41 : decode cX5_status 41 = .ok (.iload_n 2, 1) := by decide +kernel
theorem dX5_status_42 : decode cX5_status 42 = .ok (.ifCond .eq 38, 3) := by decide +kernel
theorem dX5_status_45 : decode cX5_status 45 = .ok (.aload_n 0, 1) := by decide +kernel
theorem dX5_status_46 : decode cX5_status 46 = .ok (.getfield 13, 3) := by decide +kernel
theorem dX5_status_49 : decode cX5_status 49 = .ok (.iconst 4, 1) := by decide +kernel
theorem dX5_status_50 : decode cX5_status 50 = .ok (.iload 4, 2) := by decide +kernel
theorem dX5_status_52 : decode cX5_status 52 = .ok (.imul, 1) := by decide +kernel
theorem dX5_status_53 : decode cX5_status 53 = .ok (.iload 5, 2) := by decide +kernel
theorem dX5_status_55 : decode cX5_status 55 = .ok (.iadd, 1) := by decide +kernel
theorem dX5_status_56 : decode cX5_status 56 = .ok (.iaload, 1) := by decide +kernel
theorem dX5_status_57 : decode cX5_status 57 = .ok (.aload_n 0, 1) := by decide +kernel
theorem dX5_status_58 : decode cX5_status 58 = .ok (.getfield 13, 3) := by decide +kernel
theorem dX5_status_61 : decode cX5_status 61 = .ok (.bipush 16, 2) := by decide +kernel
theorem dX5_status_63 : decode cX5_status 63 = .ok (.iconst 4, 1) := by decide +kernel
theorem dX5_status_64 : decode cX5_status 64 = .ok (.iload 4, 2) := by decide +kernel
theorem dX5_status_66 : decode cX5_status 66 = .ok (.imul, 1) := by decide +kernel
theorem dX5_status_67 : decode cX5_status 67 = .ok (.iadd, 1) := by decide +kernel
theorem dX5_status_68 : decode cX5_status 68 = .ok (.iload 5, 2) := by decide +kernel
theorem dX5_status_70 : decode cX5_status 70 = .ok (.iadd, 1) := by decide +kernel
theorem dX5_status_71 : decode cX5_status 71 = .ok (.iaload, 1) := by decide +kernel
theorem dX5_status_72 : decode cX5_status 72 = .ok (.iadd, 1) := by decide +kernel
theorem dX5_status_73 : decode cX5_status 73 = .ok (.ifCond .ne 7, 3) := by decide +kernel
theorem dX5_status_76 : decode cX5_status 76 = .ok (.iconst 1, 1) := by decide +kernel
theorem dX5_status_77 : decode cX5_status 77 = .ok (.goto 4, 3) := by decide +kernel
theorem dX5_status_80 : decode cX5_status 80 = .ok (.iconst 0, 1) := by decide +kernel
theorem dX5_status_81 : decode cX5_status 81 = .ok (.istore_n 2, 1) := by decide +kernel
theorem dX5_status_82 : decode cX5_status 82 = .ok (.iload_n 3, 1) := by decide +kernel
theorem dX5_status_83 : decode cX5_status 83 = .ok (.ifCond .eq 37, 3) := by decide +kernel
theorem dX5_status_86 : decode cX5_status 86 = .ok (.aload_n 0, 1) := by decide +kernel
theorem dX5_status_87 : decode cX5_status 87 = .ok (.getfield 13, 3) := by decide +kernel
theorem dX5_status_90 : decode cX5_status 90 = .ok (.bipush 16, 2) := by decide +kernel
theorem dX5_status_92 : decode cX5_status 92 = .ok (.iconst 4, 1) := by decide +kernel
theorem dX5_status_93 : decode cX5_status 93 = .ok (.iload 4, 2) := by decide +kernel
theorem dX5_status_95 : decode cX5_status 95 = .ok (.imul, 1) := by decide +kernel
theorem dX5_status_96 : decode cX5_status 96 = .ok (.iadd, 1) := by decide +kernel
theorem dX5_status_97 : decode cX5_status 97 = .ok (.iload 5, 2) := by decide +kernel
theorem dX5_status_99 : decode cX5_status 99 = .ok (.iadd, 1) := by decide +kernel
theorem dX5_status_100 : decode cX5_status 100 = .ok (.iaload, 1) := by decide +kernel
theorem dX5_status_101 : decode cX5_status 101 = .ok (.aload_n 0, 1) := by decide +kernel
theorem dX5_status_102 : decode cX5_status 102 = .ok (.getfield 13, 3) := by decide +kernel
theorem dX5_status_105 : decode cX5_status 105 = .ok (.iconst 4, 1) := by decide +kernel
theorem dX5_status_106 : decode cX5_status 106 = .ok (.iload 5, 2) := by decide +kernel
theorem dX5_status_108 : decode cX5_status 108 = .ok (.imul, 1) := by decide +kernel
theorem dX5_status_109 : decode cX5_status 109 = .ok (.iload 4, 2) := by decide +kernel
theorem dX5_status_111 : decode cX5_status 111 = .ok (.iadd, 1) := by decide +kernel
theorem dX5_status_112 : decode cX5_status 112 = .ok (.iaload, 1) := by decide +kernel
theorem dX5_status_113 : decode cX5_status 113 = .ok (.if_icmp .ne 7, 3) := by decide +kernel
theorem dX5_status_116 : decode cX5_status 116 = .ok (.iconst 1, 1) := by decide +kernel
theorem dX5_status_117 : decode cX5_status 117 = .ok (.goto 4, 3) := by decide +kernel
theorem dX5_status_120 : decode cX5_status 120 = .ok (.iconst 0, 1) := by decide +kernel
theorem dX5_status_121 : decode cX5_status 121 = .ok (.istore_n 3, 1) := by decide +kernel
theorem dX5_status_122 : decode cX5_status 122 = .ok (.iinc 5 1, 3) := by decide +kernel
theorem dX5_status_125 : decode cX5_status 125 = .ok (.goto (-90), 3) := by decide +kernel
theorem dX5_status_128 : decode cX5_status 128 = .ok (.iinc 4 1, 3) := by decide +kernel
theorem dX5_status_131 : decode cX5_status 131 = .ok (.goto (-105), 3) := by decide +kernel
theorem dX5_status_134 : decode cX5_status 134 = .ok (.iload_n 1, 1) := by decide +kernel
theorem dX5_status_135 : decode cX5_status 135 = .ok (.tableswitch 91 0 4 #[33, 40, 47, 57, 67], 33) := by decide +kernel
theorem dX5_status_168 : decode cX5_status 168 = .ok (.aload_n 0, 1) := by decide +kernel
theorem dX5_status_169 : decode cX5_status 169 = .ok (.getfield 7, 3) := by decide +kernel
theorem dX5_status_172 : decode cX5_status 172 = .ok (.iconst 0, 1) := by decide +kernel
theorem dX5_status_173 : decode cX5_status 173 = .ok (.iaload, 1) := by decide +kernel
theorem dX5_status_174 : decode cX5_status 174 = .ok (.ireturn, 1) := by decide +kernel
theorem dX5_status_175 : decode cX5_status 175 = .ok (.aload_n 0, 1) := by decide +kernel
theorem dX5_status_176 : decode cX5_status 176 = .ok (.getfield 7, 3) := by decide +kernel
theorem dX5_status_179 : decode cX5_status 179 = .ok (.iconst 1, 1) := by decide +kernel
theorem dX5_status_180 : decode cX5_status 180 = .ok (.iaload, 1) := by decide +kernel
theorem dX5_status_181 : decode cX5_status 181 = .ok (.ireturn, 1) := by decide +kernel
theorem dX5_status_182 : decode cX5_status 182 = .ok (.iload_n 2, 1) := by decide +kernel
theorem dX5_status_183 : decode cX5_status 183 = .ok (.ifCond .eq 7, 3) := by decide +kernel
theorem dX5_status_186 : decode cX5_status 186 = .ok (.iconst 1, 1) := by decide +kernel
theorem dX5_status_187 : decode cX5_status 187 = .ok (.goto 4, 3) := by decide +kernel
theorem dX5_status_190 : decode cX5_status 190 = .ok (.iconst 0, 1) := by decide +kernel
theorem dX5_status_191 : decode cX5_status 191 = .ok (.ireturn, 1) := by decide +kernel
theorem dX5_status_192 : decode cX5_status 192 = .ok (.iload_n 3, 1) := by decide +kernel
theorem dX5_status_193 : decode cX5_status 193 = .ok (.ifCond .eq 7, 3) := by decide +kernel
theorem dX5_status_196 : decode cX5_status 196 = .ok (.iconst 1, 1) := by decide +kernel
theorem dX5_status_197 : decode cX5_status 197 = .ok (.goto 4, 3) := by decide +kernel
theorem dX5_status_200 : decode cX5_status 200 = .ok (.iconst 0, 1) := by decide +kernel
theorem dX5_status_201 : decode cX5_status 201 = .ok (.ireturn, 1) := by decide +kernel
theorem dX5_status_202 : decode cX5_status 202 = .ok (.aload_n 0, 1) := by decide +kernel
theorem dX5_status_203 : decode cX5_status 203 = .ok (.iconst 0, 1) := by decide +kernel
theorem dX5_status_204 : decode cX5_status 204 = .ok (.invokevirtual 154, 3) := by decide +kernel
theorem dX5_status_207 : decode cX5_status 207 = .ok (.aload_n 0, 1) := by decide +kernel
theorem dX5_status_208 : decode cX5_status 208 = .ok (.iconst 1, 1) := by decide +kernel
theorem dX5_status_209 : decode cX5_status 209 = .ok (.invokevirtual 154, 3) := by decide +kernel
theorem dX5_status_212 : decode cX5_status 212 = .ok (.aload_n 0, 1) := by decide +kernel
theorem dX5_status_213 : decode cX5_status 213 = .ok (.getfield 29, 3) := by decide +kernel
theorem dX5_status_216 : decode cX5_status 216 = .ok (.iconst 0, 1) := by decide +kernel
theorem dX5_status_217 : decode cX5_status 217 = .ok (.iaload, 1) := by decide +kernel
theorem dX5_status_218 : decode cX5_status 218 = .ok (.aload_n 0, 1) := by decide +kernel
theorem dX5_status_219 : decode cX5_status 219 = .ok (.getfield 29, 3) := by decide +kernel
theorem dX5_status_222 : decode cX5_status 222 = .ok (.iconst 1, 1) := by decide +kernel
theorem dX5_status_223 : decode cX5_status 223 = .ok (.iaload, 1) := by decide +kernel
theorem dX5_status_224 : decode cX5_status 224 = .ok (.iadd, 1) := by decide +kernel
theorem dX5_status_225 : decode cX5_status 225 = .ok (.ireturn, 1) := by decide +kernel
theorem dX5_status_226 : decode cX5_status 226 = .ok (.iload_n 1, 1) := by decide +kernel
theorem dX5_status_227 : decode cX5_status 227 = .ok (.i2l, 1) := by decide +kernel
theorem dX5_status_228 : decode cX5_status 228 = .ok (.ldc2_w 180, 3) := by decide +kernel
theorem dX5_status_231 : decode cX5_status 231 = .ok (.ldc2_w 182, 3) := by decide +kernel
theorem dX5_status_234 : decode cX5_status 234 = .ok (.invokestatic 66, 3) := by decide +kernel
theorem dX5_status_237 : decode cX5_status 237 = .ok (.ifCond .eq 15, 3) := by decide +kernel
theorem dX5_status_240 : decode cX5_status 240 = .ok (.aload_n 0, 1) := by decide +kernel
theorem dX5_status_241 : decode cX5_status 241 = .ok (.getfield 19, 3) := by decide +kernel
theorem dX5_status_244 : decode cX5_status 244 = .ok (.iload_n 1, 1) := by decide +kernel
theorem dX5_status_245 : decode cX5_status 245 = .ok (.bipush 10, 2) := by decide +kernel
theorem dX5_status_247 : decode cX5_status 247 = .ok (.isub, 1) := by decide +kernel
theorem dX5_status_248 : decode cX5_status 248 = .ok (.iaload, 1) := by decide +kernel
theorem dX5_status_249 : decode cX5_status 249 = .ok (.goto 5, 3) := by decide +kernel
theorem dX5_status_252 : decode cX5_status 252 = .ok (.bipush (-9), 2) := by decide +kernel
theorem dX5_status_254 : decode cX5_status 254 = .ok (.ireturn, 1) := by decide +kernel
