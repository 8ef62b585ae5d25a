theorem dX11_init_0 : decode cX11_init 0 = .ok (.aload_n 0, 1) := by decide +kernel
theorem dX11_init_1 : decode cX11_init 1 = .ok (.invokespecial 3, 3) := by decide +kernel
theorem dX11_init_4 : decode cX11_init 4 = .ok (.aload_n 0, 1) := by decide +kernel
theorem dX11_init_5 : decode cX11_init 5 = .ok (.bipush 8, 2) := by decide +kernel
theorem dX11_init_7 : decode cX11_init 7 = .ok (.newarray .long, 2) := by decide +kernel
theorem dX11_init_9 : decode cX11_init 9 = .ok (.putfield 9, 3) := by decide +kernel
theorem dX11_init_12 : decode cX11_init 12 = .ok (.aload_n 0, 1) := by decide +kernel
theorem dX11_init_13 : decode cX11_init 13 = .ok (.bipush 8, 2) := by decide +kernel
theorem dX11_init_15 : decode cX11_init 15 = .ok (.newarray .int, 2) := by decide +kernel
theorem dX11_init_17 : decode cX11_init 17 = .ok (.putfield 15, 3) := by decide +kernel
theorem dX11_init_20 : decode cX11_init 20 = .ok (.aload_n 0, 1) := by decide +kernel
theorem dX11_init_21 : decode cX11_init 21 = .ok (.bipush 80, 2) := by decide +kernel
theorem dX11_init_23 : decode cX11_init 23 = .ok (.newarray .int, 2) := by decide +kernel
theorem dX11_init_25 : decode cX11_init 25 = .ok (.putfield 19, 3) := by decide +kernel
theorem dX11_init_28 : decode cX11_init 28 = .ok (.aload_n 0, 1) := by decide +kernel
theorem dX11_init_29 : decode cX11_init 29 = .ok (.bipush 16, 2) := by decide +kernel
theorem dX11_init_31 : decode cX11_init 31 = .ok (.newarray .int, 2) := by decide +kernel
theorem dX11_init_33 : decode cX11_init 33 = .ok (.putfield 22, 3) := by decide +kernel
theorem dX11_init_36 : decode cX11_init 36 = .ok (.aload_n 0, 1) := by decide +kernel
theorem dX11_init_37 : decode cX11_init 37 = .ok (.bipush 16, 2) := by decide +kernel
theorem dX11_init_39 : decode cX11_init 39 = .ok (.newarray .int, 2) := by decide +kernel
theorem dX11_init_41 : decode cX11_init 41 = .ok (.putfield 25, 3) := by decide +kernel
theorem dX11_init_44 : decode cX11_init 44 = .ok (.aload_n 0, 1) := by decide +kernel
theorem dX11_init_45 : decode cX11_init 45 = .ok (.bipush 16, 2) := by decide +kernel
theorem dX11_init_47 : decode cX11_init 47 = .ok (.newarray .long, 2) := by decide +kernel
theorem dX11_init_49 : decode cX11_init 49 = .ok (.putfield 28, 3) := by decide +kernel
theorem dX11_init_52 : decode cX11_init 52 = .ok (.aload_n 0, 1) := by decide +kernel
theorem dX11_init_53 : decode cX11_init 53 = .ok (.bipush 16, 2) := by decide +kernel
theorem dX11_init_55 : decode cX11_init 55 = .ok (.newarray .int, 2) := by decide +kernel
theorem dX11_init_57 : decode cX11_init 57 = .ok (.putfield 31, 3) := by decide +kernel
theorem dX11_init_60 : decode cX11_init 60 = .ok (.aload_n 0, 1) := by decide +kernel
theorem dX11_init_61 : decode cX11_init 61 = .ok (.bipush 16, 2) := by decide +kernel
theorem dX11_init_63 : decode cX11_init 63 = .ok (.newarray .int, 2) := by decide +kernel
theorem dX11_init_65 : decode cX11_init 65 = .ok (.putfield 34, 3) := by decide +kernel
theorem dX11_init_68 : decode cX11_init 68 = .ok (.aload_n 0, 1) := by decide +kernel
theorem dX11_init_69 : decode cX11_init 69 = .ok (.bipush 16, 2) := by decide +kernel
theorem dX11_init_71 : decode cX11_init 71 = .ok (.newarray .int, 2) := by decide +kernel
theorem dX11_init_73 : decode cX11_init 73 = .ok (.putfield 37, 3) := by decide +kernel
theorem dX11_init_76 : decode cX11_init 76 = .ok (.aload_n 0, 1) := by decide +kernel
theorem dX11_init_77 : decode cX11_init 77 = .ok (.sipush 800, 3) := by decide +kernel
theorem dX11_init_80 : decode cX11_init 80 = .ok (.newarray .int, 2) := by decide +kernel
theorem dX11_init_82 : decode cX11_init 82 = .ok (.putfield 40, 3) := by decide +kernel
theorem dX11_init_85 : decode cX11_init 85 = .ok (.aload_n 0, 1) := by decide +kernel
theorem dX11_init_86 : decode cX11_init 86 = .ok (.sipush 800, 3) := by decide +kernel
theorem dX11_init_89 : decode cX11_init 89 = .ok (.newarray .int, 2) := by decide +kernel
theorem dX11_init_91 : decode cX11_init 91 = .ok (.putfield 43, 3) := by decide +kernel
theorem dX11_init_94 : decode cX11_init 94 = .ok (.return_, 1) := by decide +kernel
theorem dX12_init_0 : decode cX12_init 0 = .ok (.aload_n 0, 1) := by decide +kernel
theorem dX12_init_1 : decode cX12_init 1 = .ok (.invokespecial 1, 3) := by decide +kernel
theorem dX12_init_4 : decode cX12_init 4 = .ok (.aload_n 0, 1) := by decide +kernel
theorem dX12_init_5 : decode cX12_init 5 = .ok (.sipush 2000, 3) := by decide +kernel
theorem dX12_init_8 : decode cX12_init 8 = .ok (.newarray .int, 2) := by decide +kernel
theorem dX12_init_10 : decode cX12_init 10 = .ok (.putfield 9, 3) := by decide +kernel
theorem dX12_init_13 : decode cX12_init 13 = .ok (.aload_n 0, 1) := by decide +kernel
theorem dX12_init_14 : decode cX12_init 14 = .ok (.iconst (-1), 1) := by decide +kernel
theorem dX12_init_15 : decode cX12_init 15 = .ok (.putfield 13, 3) := by decide +kernel
theorem dX12_init_18 : decode cX12_init 18 = .ok (.aload_n 0, 1) := by decide +kernel
theorem dX12_init_19 : decode cX12_init 19 = .ok (.new 17, 3) := by decide +kernel
theorem dX12_init_22 : decode cX12_init 22 = .ok (.dup, 1) := by decide +kernel
theorem dX12_init_23 : decode cX12_init 23 = .ok (.invokespecial 19, 3) := by decide +kernel
theorem dX12_init_26 : decode cX12_init 26 = .ok (.putfield 20, 3) := by decide +kernel
theorem dX12_init_29 : decode cX12_init 29 = .ok (.aload_n 0, 1) := by decide +kernel
theorem dX12_init_30 : decode cX12_init 30 = .ok (.sipush 401, 3) := by decide +kernel
theorem dX12_init_33 : decode cX12_init 33 = .ok (.newarray .int, 2) := by decide +kernel
theorem dX12_init_35 : decode cX12_init 35 = .ok (.putfield 24, 3) := by decide +kernel
theorem dX12_init_38 : decode cX12_init 38 = .ok (.aload_n 0, 1) := by decide +kernel
theorem dX12_init_39 : decode cX12_init 39 = .ok (.sipush 401, 3) := by decide +kernel
theorem dX12_init_42 : decode cX12_init 42 = .ok (.newarray .int, 2) := by decide +kernel
theorem dX12_init_44 : decode cX12_init 44 = .ok (.putfield 27, 3) := by decide +kernel
theorem dX12_init_47 : decode cX12_init 47 = .ok (.aload_n 0, 1) := by decide +kernel
theorem dX12_init_48 : decode cX12_init 48 = .ok (.sipush 401, 3) := by decide +kernel
theorem dX12_init_51 : decode cX12_init 51 = .ok (.newarray .int, 2) := by decide +kernel
theorem dX12_init_53 : decode cX12_init 53 = .ok (.putfield 30, 3) := by decide +kernel
theorem dX12_init_56 : decode cX12_init 56 = .ok (.aload_n 0, 1) := by decide +kernel
theorem dX12_init_57 : decode cX12_init 57 = .ok (.sipush 401, 3) := by decide +kernel
theorem dX12_init_60 : decode cX12_init 60 = .ok (.newarray .long, 2) := by decide +kernel
theorem dX12_init_62 : decode cX12_init 62 = .ok (.putfield 33, 3) := by decide +kernel
theorem dX12_init_65 : decode cX12_init 65 = .ok (.aload_n 0, 1) := by decide +kernel
theorem dX12_init_66 : decode cX12_init 66 = .ok (.sipush 401, 3) := by decide +kernel
theorem dX12_init_69 : decode cX12_init 69 = .ok (.newarray .int, 2) := by decide +kernel
theorem dX12_init_71 : decode cX12_init 71 = .ok (.putfield 37, 3) := by decide +kernel
theorem dX12_init_74 : decode cX12_init 74 = .ok (.aload_n 0, 1) := by decide +kernel
theorem dX12_init_75 : decode cX12_init 75 = .ok (.bipush 40, 2) := by decide +kernel
theorem dX12_init_77 : decode cX12_init 77 = .ok (.newarray .int, 2) := by decide +kernel
theorem dX12_init_79 : decode cX12_init 79 = .ok (.putfield 40, 3) := by decide +kernel
theorem dX12_init_82 : decode cX12_init 82 = .ok (.aload_n 0, 1) := by decide +kernel
theorem dX12_init_83 : decode cX12_init 83 = .ok (.bipush 40, 2) := by decide +kernel
theorem dX12_init_85 : decode cX12_init 85 = .ok (.newarray .int, 2) := by decide +kernel
theorem dX12_init_87 : decode cX12_init 87 = .ok (.putfield 43, 3) := by decide +kernel
theorem dX12_init_90 : decode cX12_init 90 = .ok (.aload_n 0, 1) := by decide +kernel
theorem dX12_init_91 : decode cX12_init 91 = .ok (.bipush 40, 2) := by decide +kernel
theorem dX12_init_93 : decode cX12_init 93 = .ok (.newarray .int, 2) := by decide +kernel
theorem dX12_init_95 : decode cX12_init 95 = .ok (.putfield 46, 3) := by decide +kernel
theorem dX12_init_98 : decode cX12_init 98 = .ok (.aload_n 0, 1) := by decide +kernel
theorem dX12_init_99 : decode cX12_init 99 = .ok (.bipush 40, 2) := by decide +kernel
theorem dX12_init_101 : decode cX12_init 101 = .ok (.newarray .int, 2) := by decide +kernel
theorem dX12_init_103 : decode cX12_init 103 = .ok (.putfield 49, 3) := by decide +kernel
theorem dX12_init_106 : decode cX12_init 106 = .ok (.aload_n 0, 1) := by decide +kernel
theorem dX12_init_107 : decode cX12_init 107 = .ok (.sipush 800, 3) := by decide +kernel
theorem dX12_init_110 : decode cX12_init 110 = .ok (.newarray .int, 2) := by decide +kernel
theorem dX12_init_112 : decode cX12_init 112 = .ok (.putfield 52, 3) := by decide +kernel
theorem dX12_init_115 : decode cX12_init 115 = .ok (.aload_n 0, 1) := by decide +kernel
theorem dX12_init_116 : decode cX12_init 116 = .ok (.bipush 40, 2) := by decide +kernel
theorem dX12_init_118 : decode cX12_init 118 = .ok (.newarray .int, 2) := by decide +kernel
theorem dX12_init_120 : decode cX12_init 120 = .ok (.putfield 55, 3) := by decide +kernel
theorem dX12_init_123 : decode cX12_init 123 = .ok (.return_, 1) := by decide +kernel
theorem dX12_thrown_0 : decode cX12_thrown 0 = .ok (.aload_n 0, 1) := by decide +kernel
theorem dX12_thrown_1 : decode cX12_thrown 1 = .ok (.getfield 58, 3) := by decide +kernel
theorem dX12_thrown_4 : decode cX12_thrown 4 = .ok (.ireturn, 1) := by decide +kernel
theorem dX12_no_0 : decode cX12_no 0 = .ok (.aload_n 0, 1) := by decide +kernel
theorem dX12_no_1 : decode cX12_no 1 = .ok (.iload_n 1, 1) := by decide +kernel
theorem dX12_no_2 : decode cX12_no 2 = .ok (.putfield 58, 3) := by decide +kernel
theorem dX12_no_5 : decode cX12_no 5 = .ok (.iconst 0, 1) := by decide +kernel
theorem dX12_no_6 : decode cX12_no 6 = .ok (.ireturn, 1) := by decide +kernel
theorem dX12_isNot_0 : decode cX12_isNot 0 = .ok (.aload_n 0, 1) := by decide +kernel
theorem dX12_isNot_1 : decode cX12_isNot 1 = .ok (.iload_n 1, 1) := by decide +kernel
theorem dX12_isNot_2 : decode cX12_isNot 2 = .ok (.putfield 58, 3) := by decide +kernel
theorem dX12_isNot_5 : decode cX12_isNot 5 = .ok (.iconst 0, 1) := by decide +kernel
theorem dX12_isNot_6 : decode cX12_isNot 6 = .ok (.ireturn, 1) := by decide +kernel
theorem dX12_ok_0 : decode cX12_ok 0 = .ok (.aload_n 0, 1) := by decide +kernel
theorem dX12_ok_1 : decode cX12_ok 1 = .ok (.iconst 0, 1) := by decide +kernel
theorem dX12_ok_2 : decode cX12_ok 2 = .ok (.putfield 58, 3) := by decide +kernel
theorem dX12_ok_5 : decode cX12_ok 5 = .ok (.iload_n 1, 1) := by decide +kernel
theorem dX12_ok_6 : decode cX12_ok 6 = .ok (.ireturn, 1) := by decide +kernel
theorem dX12_isIn_0 : decode cX12_isIn 0 = .ok (.iload_n 0, 1) := by decide +kernel
theorem dX12_isIn_1 : decode cX12_isIn 1 = .ok (.iload_n 1, 1) := by decide +kernel
theorem dX12_isIn_2 : decode cX12_isIn 2 = .ok (.if_icmp .lt 12, 3) := by decide +kernel
theorem dX12_isIn_5 : decode cX12_isIn 5 = .ok (.iload_n 0, 1) := by decide +kernel
theorem dX12_isIn_6 : decode cX12_isIn 6 = .ok (.iload_n 2, 1) := by decide +kernel
theorem dX12_isIn_7 : decode cX12_isIn 7 = .ok (.if_icmp .gt 7, 3) := by decide +kernel
theorem dX12_isIn_10 : decode cX12_isIn 10 = .ok (.iconst 1, 1) := by decide +kernel
theorem dX12_isIn_11 : decode cX12_isIn 11 = .ok (.goto 4, 3) := by decide +kernel
theorem dX12_isIn_14 : decode cX12_isIn 14 = .ok (.iconst 0, 1) := by decide +kernel
theorem dX12_isIn_15 : decode cX12_isIn 15 = .ok (.ireturn, 1) := by decide +kernel
theorem dX12_isPlace_0 : decode cX12_isPlace 0 = .ok (.iload_n 1, 1) := by decide +kernel
theorem dX12_isPlace_1 : decode cX12_isPlace 1 = .ok (.iconst 0, 1) := by decide +kernel
theorem dX12_isPlace_2 : decode cX12_isPlace 2 = .ok (.aload_n 0, 1) := by decide +kernel
theorem dX12_isPlace_3 : decode cX12_isPlace 3 = .ok (.getfield 61, 3) := by decide +kernel
theorem dX12_isPlace_6 : decode cX12_isPlace 6 = .ok (.iconst 1, 1) := by decide +kernel
theorem dX12_isPlace_7 : decode cX12_isPlace 7 = .ok (.isub, 1) := by decide +kernel
theorem dX12_isPlace_8 : decode cX12_isPlace 8 = .ok (.invokestatic 64, 3) := by decide +kernel
theorem dX12_isPlace_11 : decode cX12_isPlace 11 = .ok (.ireturn, 1) := by decide +kernel
theorem dX12_isInsult_0 : decode cX12_isInsult 0 = .ok (.iload_n 1, 1) := by decide +kernel
theorem dX12_isInsult_1 : decode cX12_isInsult 1 = .ok (.iconst 0, 1) := by decide +kernel
theorem dX12_isInsult_2 : decode cX12_isInsult 2 = .ok (.aload_n 0, 1) := by decide +kernel
theorem dX12_isInsult_3 : decode cX12_isInsult 3 = .ok (.getfield 20, 3) := by decide +kernel
theorem dX12_isInsult_6 : decode cX12_isInsult 6 = .ok (.getfield 68, 3) := by decide +kernel
theorem dX12_isInsult_9 : decode cX12_isInsult 9 = .ok (.iconst 1, 1) := by decide +kernel
theorem dX12_isInsult_10 : decode cX12_isInsult 10 = .ok (.isub, 1) := by decide +kernel
theorem dX12_isInsult_11 : decode cX12_isInsult 11 = .ok (.invokestatic 64, 3) := by decide +kernel
theorem dX12_isInsult_14 : decode cX12_isInsult 14 = .ok (.ireturn, 1) := by decide +kernel
theorem dX12_hears_0 : decode cX12_hears 0 = .ok (.aload_n 0, 1) := by decide +kernel
theorem dX12_hears_1 : decode cX12_hears 1 = .ok (.iconst 0, 1) := by decide +kernel
theorem dX12_hears_2 : decode cX12_hears 2 = .ok (.putfield 71, 3) := by decide +kernel
theorem dX12_hears_5 : decode cX12_hears 5 = .ok (.aload_n 0, 1) := by decide +kernel
theorem dX12_hears_6 : decode cX12_hears 6 = .ok (.getfield 61, 3) := by decide +kernel
theorem dX12_hears_9 : decode cX12_hears 9 = .ok (.bipush 40, 2) := by decide +kernel
theorem dX12_hears_11 : decode cX12_hears 11 = .ok (.if_icmp .ne 8, 3) := by decide +kernel
theorem dX12_hears_14 : decode cX12_hears 14 = .ok (.aload_n 0, 1) := by decide +kernel
theorem dX12_hears_15 : decode cX12_hears 15 = .ok (.iconst 1, 1) := by decide +kernel
theorem dX12_hears_16 : decode cX12_hears 16 = .ok (.invokevirtual 75, 3) := by decide +kernel
theorem dX12_hears_19 : decode cX12_hears 19 = .ok (.aload_n 0, 1) := by decide +kernel
theorem dX12_hears_20 : decode cX12_hears 20 = .ok (.getfield 40, 3) := by decide +kernel
theorem dX12_hears_23 : decode cX12_hears 23 = .ok (.aload_n 0, 1) := by decide +kernel
theorem dX12_hears_24 : decode cX12_hears 24 = .ok (.getfield 61, 3) := by decide +kernel
theorem dX12_hears_27 : decode cX12_hears 27 = .ok (.iload_n 1, 1) := by decide +kernel
theorem dX12_hears_28 : decode cX12_hears 28 = .ok (.iastore, 1) := by decide +kernel
theorem dX12_hears_29 : decode cX12_hears 29 = .ok (.aload_n 0, 1) := by decide +kernel
theorem dX12_hears_30 : decode cX12_hears 30 = .ok (.dup, 1) := by decide +kernel
theorem dX12_hears_31 : decode cX12_hears 31 = .ok (.getfield 61, 3) := by decide +kernel
theorem dX12_hears_34 : decode cX12_hears 34 = .ok (.iconst 1, 1) := by decide +kernel
theorem dX12_hears_35 : decode cX12_hears 35 = .ok (.iadd, 1) := by decide +kernel
theorem dX12_hears_36 : decode cX12_hears 36 = .ok (.putfield 61, 3) := by decide +kernel
theorem dX12_hears_39 : decode cX12_hears 39 = .ok (.return_, 1) := by decide +kernel
theorem dX12_forgets_0 : decode cX12_forgets 0 = .ok (.aload_n 0, 1) := by decide +kernel
theorem dX12_forgets_1 : decode cX12_forgets 1 = .ok (.iconst 0, 1) := by decide +kernel
theorem dX12_forgets_2 : decode cX12_forgets 2 = .ok (.putfield 71, 3) := by decide +kernel
theorem dX12_forgets_5 : decode cX12_forgets 5 = .ok (.aload_n 0, 1) := by decide +kernel
theorem dX12_forgets_6 : decode cX12_forgets 6 = .ok (.dup, 1) := by decide +kernel
theorem dX12_forgets_7 : decode cX12_forgets 7 = .ok (.getfield 61, 3) := by decide +kernel
theorem dX12_forgets_10 : decode cX12_forgets 10 = .ok (.iload_n 1, 1) := by decide +kernel
theorem dX12_forgets_11 : decode cX12_forgets 11 = .ok (.isub, 1) := by decide +kernel
theorem dX12_forgets_12 : decode cX12_forgets 12 = .ok (.putfield 61, 3) := by decide +kernel
theorem dX12_forgets_15 : decode cX12_forgets 15 = .ok (.iconst 0, 1) := by decide +kernel
theorem dX12_forgets_16 : decode cX12_forgets 16 = .ok (.istore_n 2, 1) := by decide +kernel
theorem dX12_forgets_17 : decode cX12_forgets 17 = .ok (.iload_n 2, 1) := by decide +kernel
theorem dX12_forgets_18 : decode cX12_forgets 18 = .ok (.aload_n 0, 1) := by decide +kernel
theorem dX12_forgets_19 : decode cX12_forgets 19 = .ok (.getfield 61, 3) := by decide +kernel
theorem dX12_forgets_22 : decode cX12_forgets 22 = .ok (.if_icmp .ge 23, 3) := by decide +kernel
theorem dX12_forgets_25 : decode cX12_forgets 25 = .ok (.aload_n 0, 1) := by decide +kernel
theorem dX12_forgets_26 : decode cX12_forgets 26 = .ok (.getfield 40, 3) := by decide +kernel
theorem dX12_forgets_29 : decode cX12_forgets 29 = .ok (.iload_n 2, 1) := by decide +kernel
theorem dX12_forgets_30 : decode cX12_forgets 30 = .ok (.aload_n 0, 1) := by decide +kernel
theorem dX12_forgets_31 : decode cX12_forgets 31 = .ok (.getfield 40, 3) := by decide +kernel
theorem dX12_forgets_34 : decode cX12_forgets 34 = .ok (.iload_n 2, 1) := by decide +kernel
theorem dX12_forgets_35 : decode cX12_forgets 35 = .ok (.iload_n 1, 1) := by decide +kernel
theorem dX12_forgets_36 : decode cX12_forgets 36 = .ok (.iadd, 1) := by decide +kernel
theorem dX12_forgets_37 : decode cX12_forgets 37 = .ok (.iaload, 1) := by decide +kernel
theorem dX12_forgets_38 : decode cX12_forgets 38 = .ok (.iastore, 1) := by decide +kernel
theorem dX12_forgets_39 : decode cX12_forgets 39 = .ok (.iinc 2 1, 3) := by decide +kernel
theorem dX12_forgets_42 : decode cX12_forgets 42 = .ok (.goto (-25), 3) := by decide +kernel
theorem dX12_forgets_45 : decode cX12_forgets 45 = .ok (.return_, 1) := by decide +kernel
theorem dX12_echoes_0 : decode cX12_echoes 0 = .ok (.iconst 0, 1) := by decide +kernel
theorem dX12_echoes_1 : decode cX12_echoes 1 = .ok (.istore_n 2, 1) := by decide +kernel
theorem dX12_echoes_2 : decode cX12_echoes 2 = .ok (.iload_n 2, 1) := by decide +kernel
theorem dX12_echoes_3 : decode cX12_echoes 3 = .ok (.iload_n 1, 1) := by decide +kernel
theorem dX12_echoes_4 : decode cX12_echoes 4 = .ok (.if_icmp .ge 28, 3) := by decide +kernel
theorem dX12_echoes_7 : decode cX12_echoes 7 = .ok (.aload_n 0, 1) := by decide +kernel
theorem dX12_echoes_8 : decode cX12_echoes 8 = .ok (.getfield 55, 3) := by decide +kernel
theorem dX12_echoes_11 : decode cX12_echoes 11 = .ok (.iload_n 2, 1) := by decide +kernel
theorem dX12_echoes_12 : decode cX12_echoes 12 = .ok (.aload_n 0, 1) := by decide +kernel
theorem dX12_echoes_13 : decode cX12_echoes 13 = .ok (.getfield 40, 3) := by decide +kernel
theorem dX12_echoes_16 : decode cX12_echoes 16 = .ok (.aload_n 0, 1) := by decide +kernel
theorem dX12_echoes_17 : decode cX12_echoes 17 = .ok (.getfield 61, 3) := by decide +kernel
theorem dX12_echoes_20 : decode cX12_echoes 20 = .ok (.iload_n 1, 1) := by decide +kernel
theorem dX12_echoes_21 : decode cX12_echoes 21 = .ok (.isub, 1) := by decide +kernel
theorem dX12_echoes_22 : decode cX12_echoes 22 = .ok (.iload_n 2, 1) := by decide +kernel
theorem dX12_echoes_23 : decode cX12_echoes 23 = .ok (.iadd, 1) := by decide +kernel
theorem dX12_echoes_24 : decode cX12_echoes 24 = .ok (.iaload, 1) := by decide +kernel
theorem dX12_echoes_25 : decode cX12_echoes 25 = .ok (.iastore, 1) := by decide +kernel
theorem dX12_echoes_26 : decode cX12_echoes 26 = .ok (.iinc 2 1, 3) := by decide +kernel
theorem dX12_echoes_29 : decode cX12_echoes 29 = .ok (.goto (-27), 3) := by decide +kernel
theorem dX12_echoes_32 : decode cX12_echoes 32 = .ok (.iconst 0, 1) := by decide +kernel
theorem dX12_echoes_33 : decode cX12_echoes 33 = .ok (.istore_n 2, 1) := by decide +kernel
theorem dX12_echoes_34 : decode cX12_echoes 34 = .ok (.iload_n 2, 1) := by decide +kernel
theorem dX12_echoes_35 : decode cX12_echoes 35 = .ok (.iload_n 1, 1) := by decide +kernel
theorem dX12_echoes_36 : decode cX12_echoes 36 = .ok (.if_icmp .ge 19, 3) := by decide +kernel
theorem dX12_echoes_39 : decode cX12_echoes 39 = .ok (.aload_n 0, 1) := by decide +kernel
theorem dX12_echoes_40 : decode cX12_echoes 40 = .ok (.aload_n 0, 1) := by decide +kernel
theorem dX12_echoes_41 : decode cX12_echoes 41 = .ok (.getfield 55, 3) := by decide +kernel
theorem dX12_echoes_44 : decode cX12_echoes 44 = .ok (.iload_n 2, 1) := by decide +kernel
theorem dX12_echoes_45 : decode cX12_echoes 45 = .ok (.iaload, 1) := by decide +kernel
theorem dX12_echoes_46 : decode cX12_echoes 46 = .ok (.invokevirtual 79, 3) := by decide +kernel
theorem dX12_echoes_49 : decode cX12_echoes 49 = .ok (.iinc 2 1, 3) := by decide +kernel
theorem dX12_echoes_52 : decode cX12_echoes 52 = .ok (.goto (-18), 3) := by decide +kernel
theorem dX12_echoes_55 : decode cX12_echoes 55 = .ok (.return_, 1) := by decide +kernel
theorem dX12_mocks_0 : decode cX12_mocks 0 = .ok (.iconst 0, 1) := by decide +kernel
theorem dX12_mocks_1 : decode cX12_mocks 1 = .ok (.istore_n 2, 1) := by decide +kernel
theorem dX12_mocks_2 : decode cX12_mocks 2 = .ok (.iload_n 2, 1) := by decide +kernel
theorem dX12_mocks_3 : decode cX12_mocks 3 = .ok (.aload_n 0, 1) := by decide +kernel
theorem dX12_mocks_4 : decode cX12_mocks 4 = .ok (.getfield 20, 3) := by decide +kernel
theorem dX12_mocks_7 : decode cX12_mocks 7 = .ok (.getfield 82, 3) := by decide +kernel
theorem dX12_mocks_10 : decode cX12_mocks 10 = .ok (.iload_n 1, 1) := by decide +kernel
theorem dX12_mocks_11 : decode cX12_mocks 11 = .ok (.iaload, 1) := by decide +kernel
theorem dX12_mocks_12 : decode cX12_mocks 12 = .ok (.if_icmp .ge 27, 3) := by decide +kernel
theorem dX12_mocks_15 : decode cX12_mocks 15 = .ok (.aload_n 0, 1) := by decide +kernel
theorem dX12_mocks_16 : decode cX12_mocks 16 = .ok (.aload_n 0, 1) := by decide +kernel
theorem dX12_mocks_17 : decode cX12_mocks 17 = .ok (.getfield 20, 3) := by decide +kernel
theorem dX12_mocks_20 : decode cX12_mocks 20 = .ok (.getfield 85, 3) := by decide +kernel
theorem dX12_mocks_23 : decode cX12_mocks 23 = .ok (.bipush 10, 2) := by decide +kernel
theorem dX12_mocks_25 : decode cX12_mocks 25 = .ok (.iload_n 1, 1) := by decide +kernel
theorem dX12_mocks_26 : decode cX12_mocks 26 = .ok (.imul, 1) := by decide +kernel
theorem dX12_mocks_27 : decode cX12_mocks 27 = .ok (.iload_n 2, 1) := by decide +kernel
theorem dX12_mocks_28 : decode cX12_mocks 28 = .ok (.iadd, 1) := by decide +kernel
theorem dX12_mocks_29 : decode cX12_mocks 29 = .ok (.iaload, 1) := by decide +kernel
theorem dX12_mocks_30 : decode cX12_mocks 30 = .ok (.invokevirtual 79, 3) := by decide +kernel
theorem dX12_mocks_33 : decode cX12_mocks 33 = .ok (.iinc 2 1, 3) := by decide +kernel
theorem dX12_mocks_36 : decode cX12_mocks 36 = .ok (.goto (-34), 3) := by decide +kernel
theorem dX12_mocks_39 : decode cX12_mocks 39 = .ok (.return_, 1) := by decide +kernel
theorem dX12_hearsWord_0 : decode cX12_hearsWord 0 = .ok (.lconst 1, 1) := by decide +kernel
theorem dX12_hearsWord_1 : decode cX12_hearsWord 1 = .ok (.lstore_n 3, 1) := by decide +kernel
theorem dX12_hearsWord_2 : decode cX12_hearsWord 2 = .ok (.lload_n 3, 1) := by decide +kernel
theorem dX12_hearsWord_3 : decode cX12_hearsWord 3 = .ok (.ldc2_w 86, 3) := by decide +kernel
theorem dX12_hearsWord_6 : decode cX12_hearsWord 6 = .ok (.lmul, 1) := by decide +kernel
theorem dX12_hearsWord_7 : decode cX12_hearsWord 7 = .ok (.lload_n 1, 1) := by decide +kernel
theorem dX12_hearsWord_8 : decode cX12_hearsWord 8 = .ok (.lcmp, 1) := by decide +kernel
theorem dX12_hearsWord_9 : decode cX12_hearsWord 9 = .ok (.ifCond .gt 12, 3) := by decide +kernel
theorem dX12_hearsWord_12 : decode cX12_hearsWord 12 = .ok (.lload_n 3, 1) := by decide +kernel
theorem dX12_hearsWord_13 : decode cX12_hearsWord 13 = .ok (.ldc2_w 86, 3) := by decide +kernel
theorem dX12_hearsWord_16 : decode cX12_hearsWord 16 = .ok (.lmul, 1) := by decide +kernel
theorem dX12_hearsWord_17 : decode cX12_hearsWord 17 = .ok (.lstore_n 3, 1) := by decide +kernel
theorem dX12_hearsWord_18 : decode cX12_hearsWord 18 = .ok (.goto (-16), 3) := by decide +kernel
theorem dX12_hearsWord_21 : decode cX12_hearsWord 21 = .ok (.lload_n 1, 1) := by decide +kernel
theorem dX12_hearsWord_22 : decode cX12_hearsWord 22 = .ok (.lstore 5, 2) := by decide +kernel
theorem dX12_hearsWord_24 : decode cX12_hearsWord 24 = .ok (.lload_n 3, 1) := by decide +kernel
theorem dX12_hearsWord_25 : decode cX12_hearsWord 25 = .ok (.lconst 0, 1) := by decide +kernel
theorem dX12_hearsWord_26 : decode cX12_hearsWord 26 = .ok (.lcmp, 1) := by decide +kernel
theorem dX12_hearsWord_27 : decode cX12_hearsWord 27 = .ok (.ifCond .le 27, 3) := by decide +kernel
theorem dX12_hearsWord_30 : decode cX12_hearsWord 30 = .ok (.aload_n 0, 1) := by decide +kernel
theorem dX12_hearsWord_31 : decode cX12_hearsWord 31 = .ok (.lload 5, 2) := by decide +kernel
theorem dX12_hearsWord_33 : decode cX12_hearsWord 33 = .ok (.lload_n 3, 1) := by decide +kernel
theorem dX12_hearsWord_34 : decode cX12_hearsWord 34 = .ok (.ldiv, 1) := by decide +kernel
theorem dX12_hearsWord_35 : decode cX12_hearsWord 35 = .ok (.l2i, 1) := by decide +kernel
theorem dX12_hearsWord_36 : decode cX12_hearsWord 36 = .ok (.invokevirtual 79, 3) := by decide +kernel
theorem dX12_hearsWord_39 : decode cX12_hearsWord 39 = .ok (.lload 5, 2) := by decide +kernel
theorem dX12_hearsWord_41 : decode cX12_hearsWord 41 = .ok (.lload_n 3, 1) := by decide +kernel
theorem dX12_hearsWord_42 : decode cX12_hearsWord 42 = .ok (.lrem, 1) := by decide +kernel
theorem dX12_hearsWord_43 : decode cX12_hearsWord 43 = .ok (.lstore 5, 2) := by decide +kernel
theorem dX12_hearsWord_45 : decode cX12_hearsWord 45 = .ok (.lload_n 3, 1) := by decide +kernel
theorem dX12_hearsWord_46 : decode cX12_hearsWord 46 = .ok (.ldc2_w 86, 3) := by decide +kernel
theorem dX12_hearsWord_49 : decode cX12_hearsWord 49 = .ok (.ldiv, 1) := by decide +kernel
theorem dX12_hearsWord_50 : decode cX12_hearsWord 50 = .ok (.lstore_n 3, 1) := by decide +kernel
theorem dX12_hearsWord_51 : decode cX12_hearsWord 51 = .ok (.goto (-27), 3) := by decide +kernel
theorem dX12_hearsWord_54 : decode cX12_hearsWord 54 = .ok (.return_, 1) := by decide +kernel
theorem dX12_keep_0 : decode cX12_keep 0 = .ok (.aload_n 0, 1) := by decide +kernel
theorem dX12_keep_1 : decode cX12_keep 1 = .ok (.getfield 40, 3) := by decide +kernel
theorem dX12_keep_4 : decode cX12_keep 4 = .ok (.iconst 0, 1) := by decide +kernel
theorem dX12_keep_5 : decode cX12_keep 5 = .ok (.aload_n 0, 1) := by decide +kernel
theorem dX12_keep_6 : decode cX12_keep 6 = .ok (.getfield 43, 3) := by decide +kernel
theorem dX12_keep_9 : decode cX12_keep 9 = .ok (.iconst 0, 1) := by decide +kernel
theorem dX12_keep_10 : decode cX12_keep 10 = .ok (.bipush 40, 2) := by decide +kernel
theorem dX12_keep_12 : decode cX12_keep 12 = .ok (.invokestatic 88, 3) := by decide +kernel
theorem dX12_keep_15 : decode cX12_keep 15 = .ok (.aload_n 0, 1) := by decide +kernel
theorem dX12_keep_16 : decode cX12_keep 16 = .ok (.aload_n 0, 1) := by decide +kernel
theorem dX12_keep_17 : decode cX12_keep 17 = .ok (.getfield 61, 3) := by decide +kernel
theorem dX12_keep_20 : decode cX12_keep 20 = .ok (.putfield 94, 3) := by decide +kernel
theorem dX12_keep_23 : decode cX12_keep 23 = .ok (.aload_n 0, 1) := by decide +kernel
theorem dX12_keep_24 : decode cX12_keep 24 = .ok (.aload_n 0, 1) := by decide +kernel
theorem dX12_keep_25 : decode cX12_keep 25 = .ok (.getfield 97, 3) := by decide +kernel
theorem dX12_keep_28 : decode cX12_keep 28 = .ok (.putfield 100, 3) := by decide +kernel
theorem dX12_keep_31 : decode cX12_keep 31 = .ok (.aload_n 0, 1) := by decide +kernel
theorem dX12_keep_32 : decode cX12_keep 32 = .ok (.aload_n 0, 1) := by decide +kernel
theorem dX12_keep_33 : decode cX12_keep 33 = .ok (.getfield 103, 3) := by decide +kernel
theorem dX12_keep_36 : decode cX12_keep 36 = .ok (.putfield 106, 3) := by decide +kernel
theorem dX12_keep_39 : decode cX12_keep 39 = .ok (.return_, 1) := by decide +kernel
theorem dX12_bringBack_0 : decode cX12_bringBack 0 = .ok (.aload_n 0, 1) := by decide +kernel
theorem dX12_bringBack_1 : decode cX12_bringBack 1 = .ok (.iconst 0, 1) := by decide +kernel
theorem dX12_bringBack_2 : decode cX12_bringBack 2 = .ok (.putfield 71, 3) := by decide +kernel
theorem dX12_bringBack_5 : decode cX12_bringBack 5 = .ok (.aload_n 0, 1) := by decide +kernel
theorem dX12_bringBack_6 : decode cX12_bringBack 6 = .ok (.getfield 43, 3) := by decide +kernel
theorem dX12_bringBack_9 : decode cX12_bringBack 9 = .ok (.iconst 0, 1) := by decide +kernel
theorem dX12_bringBack_10 : decode cX12_bringBack 10 = .ok (.aload_n 0, 1) := by decide +kernel
theorem dX12_bringBack_11 : decode cX12_bringBack 11 = .ok (.getfield 40, 3) := by decide +kernel
theorem dX12_bringBack_14 : decode cX12_bringBack 14 = .ok (.iconst 0, 1) := by decide +kernel
theorem dX12_bringBack_15 : decode cX12_bringBack 15 = .ok (.bipush 40, 2) := by decide +kernel
theorem dX12_bringBack_17 : decode cX12_bringBack 17 = .ok (.invokestatic 88, 3) := by decide +kernel
theorem dX12_bringBack_20 : decode cX12_bringBack 20 = .ok (.aload_n 0, 1) := by decide +kernel
theorem dX12_bringBack_21 : decode cX12_bringBack 21 = .ok (.aload_n 0, 1) := by decide +kernel
theorem dX12_bringBack_22 : decode cX12_bringBack 22 = .ok (.getfield 94, 3) := by decide +kernel
theorem dX12_bringBack_25 : decode cX12_bringBack 25 = .ok (.putfield 61, 3) := by decide +kernel
theorem dX12_bringBack_28 : decode cX12_bringBack 28 = .ok (.aload_n 0, 1) := by decide +kernel
theorem dX12_bringBack_29 : decode cX12_bringBack 29 = .ok (.aload_n 0, 1) := by decide +kernel
theorem dX12_bringBack_30 : decode cX12_bringBack 30 = .ok (.getfield 100, 3) := by decide +kernel
theorem dX12_bringBack_33 : decode cX12_bringBack 33 = .ok (.putfield 97, 3) := by decide +kernel
theorem dX12_bringBack_36 : decode cX12_bringBack 36 = .ok (.aload_n 0, 1) := by decide +kernel
theorem dX12_bringBack_37 : decode cX12_bringBack 37 = .ok (.aload_n 0, 1) := by decide +kernel
theorem dX12_bringBack_38 : decode cX12_bringBack 38 = .ok (.getfield 106, 3) := by decide +kernel
theorem dX12_bringBack_41 : decode cX12_bringBack 41 = .ok (.putfield 103, 3) := by decide +kernel
theorem dX12_bringBack_44 : decode cX12_bringBack 44 = .ok (.return_, 1) := by decide +kernel
theorem dX12_same_0 : decode cX12_same 0 = .ok (.iconst 0, 1) := by decide +kernel
theorem dX12_same_1 : decode cX12_same 1 = .ok (.istore_n 3, 1) := by decide +kernel
theorem dX12_same_2 : decode cX12_same 2 = .ok (.iload_n 1, 1) := by decide +kernel
theorem dX12_same_3 : decode cX12_same 3 = .ok (.iload_n 3, 1) := by decide +kernel
theorem dX12_same_4 : decode cX12_same 4 = .ok (.iadd, 1) := by decide +kernel
theorem dX12_same_5 : decode cX12_same 5 = .ok (.aload_n 0, 1) := by decide +kernel
theorem dX12_same_6 : decode cX12_same 6 = .ok (.getfield 61, 3) := by decide +kernel
theorem dX12_same_9 : decode cX12_same 9 = .ok (.if_icmp .ge 38, 3) := by decide +kernel
theorem dX12_same_12 : decode cX12_same 12 = .ok (.iload_n 2, 1) := by decide +kernel
theorem dX12_same_13 : decode cX12_same 13 = .ok (.iload_n 3, 1) := by decide +kernel
theorem dX12_same_14 : decode cX12_same 14 = .ok (.iadd, 1) := by decide +kernel
theorem dX12_same_15 : decode cX12_same 15 = .ok (.aload_n 0, 1) := by decide +kernel
theorem dX12_same_16 : decode cX12_same 16 = .ok (.getfield 61, 3) := by decide +kernel
theorem dX12_same_19 : decode cX12_same 19 = .ok (.if_icmp .ge 28, 3) := by decide +kernel
theorem dX12_same_22 : decode cX12_same 22 = .ok (.aload_n 0, 1) := by decide +kernel
theorem dX12_same_23 : decode cX12_same 23 = .ok (.getfield 40, 3) := by decide +kernel
theorem dX12_same_26 : decode cX12_same 26 = .ok (.iload_n 1, 1) := by decide +kernel
theorem dX12_same_27 : decode cX12_same 27 = .ok (.iload_n 3, 1) := by decide +kernel
theorem dX12_same_28 : decode cX12_same 28 = .ok (.iadd, 1) := by decide +kernel
theorem dX12_same_29 : decode cX12_same 29 = .ok (.iaload, 1) := by decide +kernel
theorem dX12_same_30 : decode cX12_same 30 = .ok (.aload_n 0, 1) := by decide +kernel
theorem dX12_same_31 : decode cX12_same 31 = .ok (.getfield 40, 3) := by decide +kernel
theorem dX12_same_34 : decode cX12_same 34 = .ok (.iload_n 2, 1) := by decide +kernel
theorem dX12_same_35 : decode cX12_same 35 = .ok (.iload_n 3, 1) := by decide +kernel
theorem dX12_same_36 : decode cX12_same 36 = .ok (.iadd, 1) := by decide +kernel
theorem dX12_same_37 : decode cX12_same 37 = .ok (.iaload, 1) := by decide +kernel
theorem dX12_same_38 : decode cX12_same 38 = .ok (.if_icmp .ne 9, 3) := by decide +kernel
theorem dX12_same_41 : decode cX12_same 41 = .ok (.iinc 3 1, 3) := by decide +kernel
theorem dX12_same_44 : decode cX12_same 44 = .ok (.goto (-42), 3) := by decide +kernel
theorem dX12_same_47 : decode cX12_same 47 = .ok (.iload_n 3, 1) := by decide +kernel
theorem dX12_same_48 : decode cX12_same 48 = .ok (.ireturn, 1) := by decide +kernel
theorem dX12_goesAhead_0 : decode cX12_goesAhead 0 = .ok (.aload_n 0, 1) := by decide +kernel
theorem dX12_goesAhead_1 : decode cX12_goesAhead 1 = .ok (.iload_n 1, 1) := by decide +kernel
theorem dX12_goesAhead_2 : decode cX12_goesAhead 2 = .ok (.iload_n 2, 1) := by decide +kernel
theorem dX12_goesAhead_3 : decode cX12_goesAhead 3 = .ok (.invokevirtual 109, 3) := by decide +kernel
theorem dX12_goesAhead_6 : decode cX12_goesAhead 6 = .ok (.istore_n 3, 1) := by decide +kernel
theorem dX12_goesAhead_7 : decode cX12_goesAhead 7 = .ok (.iload_n 1, 1) := by decide +kernel
theorem dX12_goesAhead_8 : decode cX12_goesAhead 8 = .ok (.iload_n 3, 1) := by decide +kernel
theorem dX12_goesAhead_9 : decode cX12_goesAhead 9 = .ok (.iadd, 1) := by decide +kernel
theorem dX12_goesAhead_10 : decode cX12_goesAhead 10 = .ok (.aload_n 0, 1) := by decide +kernel
theorem dX12_goesAhead_11 : decode cX12_goesAhead 11 = .ok (.getfield 61, 3) := by decide +kernel
theorem dX12_goesAhead_14 : decode cX12_goesAhead 14 = .ok (.if_icmp .eq 13, 3) := by decide +kernel
theorem dX12_goesAhead_17 : decode cX12_goesAhead 17 = .ok (.iload_n 2, 1) := by decide +kernel
theorem dX12_goesAhead_18 : decode cX12_goesAhead 18 = .ok (.iload_n 3, 1) := by decide +kernel
theorem dX12_goesAhead_19 : decode cX12_goesAhead 19 = .ok (.iadd, 1) := by decide +kernel
theorem dX12_goesAhead_20 : decode cX12_goesAhead 20 = .ok (.aload_n 0, 1) := by decide +kernel
theorem dX12_goesAhead_21 : decode cX12_goesAhead 21 = .ok (.getfield 61, 3) := by decide +kernel
theorem dX12_goesAhead_24 : decode cX12_goesAhead 24 = .ok (.if_icmp .ne 14, 3) := by decide +kernel
theorem dX12_goesAhead_27 : decode cX12_goesAhead 27 = .ok (.iload_n 1, 1) := by decide +kernel
theorem dX12_goesAhead_28 : decode cX12_goesAhead 28 = .ok (.iload_n 2, 1) := by decide +kernel
theorem dX12_goesAhead_29 : decode cX12_goesAhead 29 = .ok (.if_icmp .le 7, 3) := by decide +kernel
theorem dX12_goesAhead_32 : decode cX12_goesAhead 32 = .ok (.iconst 1, 1) := by decide +kernel
theorem dX12_goesAhead_33 : decode cX12_goesAhead 33 = .ok (.goto 4, 3) := by decide +kernel
theorem dX12_goesAhead_36 : decode cX12_goesAhead 36 = .ok (.iconst 0, 1) := by decide +kernel
theorem dX12_goesAhead_37 : decode cX12_goesAhead 37 = .ok (.ireturn, 1) := by decide +kernel
theorem dX12_goesAhead_38 : decode cX12_goesAhead 38 = .ok (.aload_n 0, 1) := by decide +kernel
theorem dX12_goesAhead_39 : decode cX12_goesAhead 39 = .ok (.getfield 40, 3) := by decide +kernel
theorem dX12_goesAhead_42 : decode cX12_goesAhead 42 = .ok (.iload_n 1, 1) := by decide +kernel
theorem dX12_goesAhead_43 : decode cX12_goesAhead 43 = .ok (.iload_n 3, 1) := by decide +kernel
theorem dX12_goesAhead_44 : decode cX12_goesAhead 44 = .ok (.iadd, 1) := by decide +kernel
theorem dX12_goesAhead_45 : decode cX12_goesAhead 45 = .ok (.iaload, 1) := by decide +kernel
theorem dX12_goesAhead_46 : decode cX12_goesAhead 46 = .ok (.aload_n 0, 1) := by decide +kernel
theorem dX12_goesAhead_47 : decode cX12_goesAhead 47 = .ok (.getfield 40, 3) := by decide +kernel
theorem dX12_goesAhead_50 : decode cX12_goesAhead 50 = .ok (.iload_n 2, 1) := by decide +kernel
theorem dX12_goesAhead_51 : decode cX12_goesAhead 51 = .ok (.iload_n 3, 1) := by decide +kernel
theorem dX12_goesAhead_52 : decode cX12_goesAhead 52 = .ok (.iadd, 1) := by decide +kernel
theorem dX12_goesAhead_53 : decode cX12_goesAhead 53 = .ok (.iaload, 1) := by decide +kernel
theorem dX12_goesAhead_54 : decode cX12_goesAhead 54 = .ok (.if_icmp .ge 7, 3) := by decide +kernel
theorem dX12_goesAhead_57 : decode cX12_goesAhead 57 = .ok (.iconst 1, 1) := by decide +kernel
theorem dX12_goesAhead_58 : decode cX12_goesAhead 58 = .ok (.goto 4, 3) := by decide +kernel
theorem dX12_goesAhead_61 : decode cX12_goesAhead 61 = .ok (.iconst 0, 1) := by decide +kernel
theorem dX12_goesAhead_62 : decode cX12_goesAhead 62 = .ok (.ireturn, 1) := by decide +kernel
theorem dX12_sort_0 : decode cX12_sort 0 = .ok (.aload_n 0, 1) := by decide +kernel
theorem dX12_sort_1 : decode cX12_sort 1 = .ok (.getfield 71, 3) := by decide +kernel
theorem dX12_sort_4 : decode cX12_sort 4 = .ok (.ifCond .eq 4, 3) := by decide +kernel
theorem dX12_sort_7 : decode cX12_sort 7 = .ok (.return_, 1) := by decide +kernel
theorem dX12_sort_8 : decode cX12_sort 8 = .ok (.aload_n 0, 1) := by decide +kernel
theorem dX12_sort_9 : decode cX12_sort 9 = .ok (.iconst 1, 1) := by decide +kernel
theorem dX12_sort_10 : decode cX12_sort 10 = .ok (.putfield 71, 3) := by decide +kernel
theorem dX12_sort_13 : decode cX12_sort 13 = .ok (.iconst 0, 1) := by decide +kernel
theorem dX12_sort_14 : decode cX12_sort 14 = .ok (.istore_n 1, 1) := by decide +kernel
theorem dX12_sort_15 : decode cX12_sort 15 = .ok (.iload_n 1, 1) := by decide +kernel
theorem dX12_sort_16 : decode cX12_sort 16 = .ok (.aload_n 0, 1) := by decide +kernel
theorem dX12_sort_17 : decode cX12_sort 17 = .ok (.getfield 61, 3) := by decide +kernel
theorem dX12_sort_20 : decode cX12_sort 20 = .ok (.if_icmp .ge 63, 3) := by decide +kernel
theorem dX12_sort_23 : decode cX12_sort 23 = .ok (.iconst 0, 1) := by decide +kernel
theorem dX12_sort_24 : decode cX12_sort 24 = .ok (.istore_n 2, 1) := by decide +kernel
theorem dX12_sort_25 : decode cX12_sort 25 = .ok (.iconst 0, 1) := by decide +kernel
theorem dX12_sort_26 : decode cX12_sort 26 = .ok (.istore_n 3, 1) := by decide +kernel
theorem dX12_sort_27 : decode cX12_sort 27 = .ok (.iload_n 3, 1) := by decide +kernel
theorem dX12_sort_28 : decode cX12_sort 28 = .ok (.aload_n 0, 1) := by decide +kernel
theorem dX12_sort_29 : decode cX12_sort 29 = .ok (.getfield 61, 3) := by decide +kernel
theorem dX12_sort_32 : decode cX12_sort 32 = .ok (.if_icmp .ge 31, 3) := by decide +kernel
theorem dX12_sort_35 : decode cX12_sort 35 = .ok (.iload_n 2, 1) := by decide +kernel
theorem dX12_sort_36 : decode cX12_sort 36 = .ok (.iload_n 3, 1) := by decide +kernel
theorem dX12_sort_37 : decode cX12_sort 37 = .ok (.iload_n 1, 1) := by decide +kernel
theorem dX12_sort_38 : decode cX12_sort 38 = .ok (.if_icmp .eq 16, 3) := by decide +kernel
theorem dX12_sort_41 : decode cX12_sort 41 = .ok (.aload_n 0, 1) := by decide +kernel
theorem dX12_sort_42 : decode cX12_sort 42 = .ok (.iload_n 3, 1) := by decide +kernel
theorem dX12_sort_43 : decode cX12_sort 43 = .ok (.iload_n 1, 1) := by decide +kernel
theorem dX12_sort_44 : decode cX12_sort 44 = .ok (.invokevirtual 113, 3) := by decide +kernel
theorem dX12_sort_47 : decode cX12_sort 47 = .ok (.ifCond .eq 7, 3) := by decide +kernel
theorem dX12_sort_50 : decode cX12_sort 50 = .ok (.iconst 1, 1) := by decide +kernel
theorem dX12_sort_51 : decode cX12_sort 51 = .ok (.goto 4, 3) := by decide +kernel
theorem dX12_sort_54 : decode cX12_sort 54 = .ok (.iconst 0, 1) := by decide +kernel
theorem dX12_sort_55 : decode cX12_sort 55 = .ok (.iadd, 1) := by decide +kernel
theorem dX12_sort_56 : decode cX12_sort 56 = .ok (.istore_n 2, 1) := by decide +kernel
theorem dX12_sort_57 : decode cX12_sort 57 = .ok (.iinc 3 1, 3) := by decide +kernel
theorem dX12_sort_60 : decode cX12_sort 60 = .ok (.goto (-33), 3) := by decide +kernel
theorem dX12_sort_63 : decode cX12_sort 63 = .ok (.aload_n 0, 1) := by decide +kernel
theorem dX12_sort_64 : decode cX12_sort 64 = .ok (.getfield 46, 3) := by decide +kernel
theorem dX12_sort_67 : decode cX12_sort 67 = .ok (.iload_n 1, 1) := by decide +kernel
theorem dX12_sort_68 : decode cX12_sort 68 = .ok (.iload_n 2, 1) := by decide +kernel
theorem dX12_sort_69 : decode cX12_sort 69 = .ok (.iastore, 1) := by decide +kernel
theorem dX12_sort_70 : decode cX12_sort 70 = .ok (.aload_n 0, 1) := by decide +kernel
theorem dX12_sort_71 : decode cX12_sort 71 = .ok (.getfield 49, 3) := by decide +kernel
theorem dX12_sort_74 : decode cX12_sort 74 = .ok (.iload_n 2, 1) := by decide +kernel
theorem dX12_sort_75 : decode cX12_sort 75 = .ok (.iload_n 1, 1) := by decide +kernel
theorem dX12_sort_76 : decode cX12_sort 76 = .ok (.iastore, 1) := by decide +kernel
theorem dX12_sort_77 : decode cX12_sort 77 = .ok (.iinc 1 1, 3) := by decide +kernel
theorem dX12_sort_80 : decode cX12_sort 80 = .ok (.goto (-65), 3) := by decide +kernel
theorem dX12_sort_83 : decode cX12_sort 83 = .ok (.return_, 1) := by decide +kernel
theorem dX12_rankNow_0 : decode cX12_rankNow 0 = .ok (.aload_n 0, 1) := by decide +kernel
theorem dX12_rankNow_1 : decode cX12_rankNow 1 = .ok (.invokevirtual 117, 3) := by decide +kernel
theorem dX12_rankNow_4 : decode cX12_rankNow 4 = .ok (.aload_n 0, 1) := by decide +kernel
theorem dX12_rankNow_5 : decode cX12_rankNow 5 = .ok (.getfield 46, 3) := by decide +kernel
theorem dX12_rankNow_8 : decode cX12_rankNow 8 = .ok (.iload_n 1, 1) := by decide +kernel
theorem dX12_rankNow_9 : decode cX12_rankNow 9 = .ok (.iaload, 1) := by decide +kernel
theorem dX12_rankNow_10 : decode cX12_rankNow 10 = .ok (.ireturn, 1) := by decide +kernel
theorem dX12_placeNow_0 : decode cX12_placeNow 0 = .ok (.aload_n 0, 1) := by decide +kernel
theorem dX12_placeNow_1 : decode cX12_placeNow 1 = .ok (.invokevirtual 117, 3) := by decide +kernel
theorem dX12_placeNow_4 : decode cX12_placeNow 4 = .ok (.aload_n 0, 1) := by decide +kernel
theorem dX12_placeNow_5 : decode cX12_placeNow 5 = .ok (.getfield 49, 3) := by decide +kernel
theorem dX12_placeNow_8 : decode cX12_placeNow 8 = .ok (.iload_n 1, 1) := by decide +kernel
theorem dX12_placeNow_9 : decode cX12_placeNow 9 = .ok (.iaload, 1) := by decide +kernel
theorem dX12_placeNow_10 : decode cX12_placeNow 10 = .ok (.ireturn, 1) := by decide +kernel
theorem dX12_sharedNow_0 : decode cX12_sharedNow 0 = .ok (.aload_n 0, 1) := by decide +kernel
theorem dX12_sharedNow_1 : decode cX12_sharedNow 1 = .ok (.invokevirtual 117, 3) := by decide +kernel
theorem dX12_sharedNow_4 : decode cX12_sharedNow 4 = .ok (.iload_n 1, 1) := by decide +kernel
theorem dX12_sharedNow_5 : decode cX12_sharedNow 5 = .ok (.ifCond .ne 7, 3) := by decide +kernel
theorem dX12_sharedNow_8 : decode cX12_sharedNow 8 = .ok (.iconst 0, 1) := by decide +kernel
theorem dX12_sharedNow_9 : decode cX12_sharedNow 9 = .ok (.goto 21, 3) := by decide +kernel
theorem dX12_sharedNow_12 : decode cX12_sharedNow 12 = .ok (.aload_n 0, 1) := by decide +kernel
theorem dX12_sharedNow_13 : decode cX12_sharedNow 13 = .ok (.aload_n 0, 1) := by decide +kernel
theorem dX12_sharedNow_14 : decode cX12_sharedNow 14 = .ok (.getfield 49, 3) := by decide +kernel
theorem dX12_sharedNow_17 : decode cX12_sharedNow 17 = .ok (.iload_n 1, 1) := by decide +kernel
theorem dX12_sharedNow_18 : decode cX12_sharedNow 18 = .ok (.iaload, 1) := by decide +kernel
theorem dX12_sharedNow_19 : decode cX12_sharedNow 19 = .ok (.aload_n 0, 1) := by decide +kernel
theorem dX12_sharedNow_20 : decode cX12_sharedNow 20 = .ok (.getfield 49, 3) := by decide +kernel
theorem dX12_sharedNow_23 : decode cX12_sharedNow 23 = .ok (.iload_n 1, 1) := by decide +kernel
theorem dX12_sharedNow_24 : decode cX12_sharedNow 24 = .ok (.iconst 1, 1) := by decide +kernel
theorem dX12_sharedNow_25 : decode cX12_sharedNow 25 = .ok (.isub, 1) := by decide +kernel
theorem dX12_sharedNow_26 : decode cX12_sharedNow 26 = .ok (.iaload, 1) := by decide +kernel
theorem dX12_sharedNow_27 : decode cX12_sharedNow 27 = .ok (.invokevirtual 109, 3) := by decide +kernel
theorem dX12_sharedNow_30 : decode cX12_sharedNow 30 = .ok (.ireturn, 1) := by decide +kernel
theorem dX12_allKinds_0 : decode cX12_allKinds 0 = .ok (.iconst 0, 1) := by decide +kernel
theorem dX12_allKinds_1 : decode cX12_allKinds 1 = .ok (.istore_n 1, 1) := by decide +kernel
theorem dX12_allKinds_2 : decode cX12_allKinds 2 = .ok (.iconst 0, 1) := by decide +kernel
theorem dX12_allKinds_3 : decode cX12_allKinds 3 = .ok (.istore_n 2, 1) := by decide +kernel
theorem dX12_allKinds_4 : decode cX12_allKinds 4 = .ok (.iload_n 2, 1) := by decide +kernel
theorem dX12_allKinds_5 : decode cX12_allKinds 5 = .ok (.aload_n 0, 1) := by decide +kernel
theorem dX12_allKinds_6 : decode cX12_allKinds 6 = .ok (.getfield 61, 3) := by decide +kernel
theorem dX12_allKinds_9 : decode cX12_allKinds 9 = .ok (.if_icmp .ge 49, 3) := by decide +kernel
theorem dX12_allKinds_12 : decode cX12_allKinds 12 = .ok (.iconst 0, 1) := by decide +kernel
theorem dX12_allKinds_13 : decode cX12_allKinds 13 = .ok (.istore_n 3, 1) := by decide +kernel
theorem dX12_allKinds_14 : decode cX12_allKinds 14 = .ok (.iconst 0, 1) := by decide +kernel
theorem dX12_allKinds_15 : decode cX12_allKinds 15 = .ok (.istore 4, 2) := by decide +kernel
theorem dX12_allKinds_17 : decode cX12_allKinds 17 = .ok (.iload 4, 2) := by decide +kernel
theorem dX12_allKinds_19 : decode cX12_allKinds 19 = .ok (.iload_n 2, 1) := by decide +kernel
theorem dX12_allKinds_20 : decode cX12_allKinds 20 = .ok (.if_icmp .ge 21, 3) := by decide +kernel
theorem dX12_allKinds_23 : decode cX12_allKinds 23 = .ok (.iload_n 3, 1) := by decide +kernel
theorem dX12_allKinds_24 : decode cX12_allKinds 24 = .ok (.aload_n 0, 1) := by decide +kernel
theorem dX12_allKinds_25 : decode cX12_allKinds 25 = .ok (.iload 4, 2) := by decide +kernel
theorem dX12_allKinds_27 : decode cX12_allKinds 27 = .ok (.iload_n 2, 1) := by decide +kernel
theorem dX12_allKinds_28 : decode cX12_allKinds 28 = .ok (.invokevirtual 109, 3) := by decide +kernel
theorem dX12_allKinds_31 : decode cX12_allKinds 31 = .ok (.invokestatic 120, 3) := by decide +kernel
theorem dX12_allKinds_34 : decode cX12_allKinds 34 = .ok (.istore_n 3, 1) := by decide +kernel
theorem dX12_allKinds_35 : decode cX12_allKinds 35 = .ok (.iinc 4 1, 3) := by decide +kernel
theorem dX12_allKinds_38 : decode cX12_allKinds 38 = .ok (.goto (-21), 3) := by decide +kernel
theorem dX12_allKinds_41 : decode cX12_allKinds 41 = .ok (.iload_n 1, 1) := by decide +kernel
theorem dX12_allKinds_42 : decode cX12_allKinds 42 = .ok (.aload_n 0, 1) := by decide +kernel
theorem dX12_allKinds_43 : decode cX12_allKinds 43 = .ok (.getfield 61, 3) := by decide +kernel
theorem dX12_allKinds_46 : decode cX12_allKinds 46 = .ok (.iload_n 2, 1) := by decide +kernel
theorem dX12_allKinds_47 : decode cX12_allKinds 47 = .ok (.isub, 1) := by decide +kernel
theorem dX12_allKinds_48 : decode cX12_allKinds 48 = .ok (.iload_n 3, 1) := by decide +kernel
theorem dX12_allKinds_49 : decode cX12_allKinds 49 = .ok (.isub, 1) := by decide +kernel
theorem dX12_allKinds_50 : decode cX12_allKinds 50 = .ok (.iadd, 1) := by decide +kernel
theorem dX12_allKinds_51 : decode cX12_allKinds 51 = .ok (.istore_n 1, 1) := by decide +kernel
theorem dX12_allKinds_52 : decode cX12_allKinds 52 = .ok (.iinc 2 1, 3) := by decide +kernel
theorem dX12_allKinds_55 : decode cX12_allKinds 55 = .ok (.goto (-51), 3) := by decide +kernel
theorem dX12_allKinds_58 : decode cX12_allKinds 58 = .ok (.iload_n 1, 1) := by decide +kernel
theorem dX12_allKinds_59 : decode cX12_allKinds 59 = .ok (.ireturn, 1) := by decide +kernel
theorem dX12_longest_0 : decode cX12_longest 0 = .ok (.iconst 0, 1) := by decide +kernel
theorem dX12_longest_1 : decode cX12_longest 1 = .ok (.istore_n 1, 1) := by decide +kernel
theorem dX12_longest_2 : decode cX12_longest 2 = .ok (.iconst 0, 1) := by decide +kernel
theorem dX12_longest_3 : decode cX12_longest 3 = .ok (.istore_n 2, 1) := by decide +kernel
theorem dX12_longest_4 : decode cX12_longest 4 = .ok (.iload_n 2, 1) := by decide +kernel
theorem dX12_longest_5 : decode cX12_longest 5 = .ok (.aload_n 0, 1) := by decide +kernel
theorem dX12_longest_6 : decode cX12_longest 6 = .ok (.getfield 61, 3) := by decide +kernel
theorem dX12_longest_9 : decode cX12_longest 9 = .ok (.if_icmp .ge 33, 3) := by decide +kernel
theorem dX12_longest_12 : decode cX12_longest 12 = .ok (.iconst 0, 1) := by decide +kernel
theorem dX12_longest_13 : decode cX12_longest 13 = .ok (.istore_n 3, 1) := by decide +kernel
theorem dX12_longest_14 : decode cX12_longest 14 = .ok (.iload_n 3, 1) := by decide +kernel
theorem dX12_longest_15 : decode cX12_longest 15 = .ok (.iload_n 2, 1) := by decide +kernel
theorem dX12_longest_16 : decode cX12_longest 16 = .ok (.if_icmp .ge 20, 3) := by decide +kernel
theorem dX12_longest_19 : decode cX12_longest 19 = .ok (.iload_n 1, 1) := by decide +kernel
theorem dX12_longest_20 : decode cX12_longest 20 = .ok (.aload_n 0, 1) := by decide +kernel
theorem dX12_longest_21 : decode cX12_longest 21 = .ok (.iload_n 3, 1) := by decide +kernel
theorem dX12_longest_22 : decode cX12_longest 22 = .ok (.iload_n 2, 1) := by decide +kernel
theorem dX12_longest_23 : decode cX12_longest 23 = .ok (.invokevirtual 109, 3) := by decide +kernel
theorem dX12_longest_26 : decode cX12_longest 26 = .ok (.invokestatic 120, 3) := by decide +kernel
theorem dX12_longest_29 : decode cX12_longest 29 = .ok (.istore_n 1, 1) := by decide +kernel
theorem dX12_longest_30 : decode cX12_longest 30 = .ok (.iinc 3 1, 3) := by decide +kernel
theorem dX12_longest_33 : decode cX12_longest 33 = .ok (.goto (-19), 3) := by decide +kernel
theorem dX12_longest_36 : decode cX12_longest 36 = .ok (.iinc 2 1, 3) := by decide +kernel
theorem dX12_longest_39 : decode cX12_longest 39 = .ok (.goto (-35), 3) := by decide +kernel
theorem dX12_longest_42 : decode cX12_longest 42 = .ok (.iload_n 1, 1) := by decide +kernel
theorem dX12_longest_43 : decode cX12_longest 43 = .ok (.ireturn, 1) := by decide +kernel
theorem dX12_standing_0 : decode cX12_standing 0 = .ok (.iconst 0, 1) := by decide +kernel
theorem dX12_standing_1 : decode cX12_standing 1 = .ok (.istore_n 3, 1) := by decide +kernel
theorem dX12_standing_2 : decode cX12_standing 2 = .ok (.iconst 0, 1) := by decide +kernel
theorem dX12_standing_3 : decode cX12_standing 3 = .ok (.istore 4, 2) := by decide +kernel
theorem dX12_standing_5 : decode cX12_standing 5 = .ok (.iload 4, 2) := by decide +kernel
theorem dX12_standing_7 : decode cX12_standing 7 = .ok (.aload_n 0, 1) := by decide +kernel
theorem dX12_standing_8 : decode cX12_standing 8 = .ok (.getfield 61, 3) := by decide +kernel
theorem dX12_standing_11 : decode cX12_standing 11 = .ok (.if_icmp .ge 28, 3) := by decide +kernel
theorem dX12_standing_14 : decode cX12_standing 14 = .ok (.iload_n 3, 1) := by decide +kernel
theorem dX12_standing_15 : decode cX12_standing 15 = .ok (.aload_n 0, 1) := by decide +kernel
theorem dX12_standing_16 : decode cX12_standing 16 = .ok (.iload 4, 2) := by decide +kernel
theorem dX12_standing_18 : decode cX12_standing 18 = .ok (.iload_n 1, 1) := by decide +kernel
theorem dX12_standing_19 : decode cX12_standing 19 = .ok (.invokevirtual 109, 3) := by decide +kernel
theorem dX12_standing_22 : decode cX12_standing 22 = .ok (.iload_n 2, 1) := by decide +kernel
theorem dX12_standing_23 : decode cX12_standing 23 = .ok (.if_icmp .lt 7, 3) := by decide +kernel
theorem dX12_standing_26 : decode cX12_standing 26 = .ok (.iconst 1, 1) := by decide +kernel
theorem dX12_standing_27 : decode cX12_standing 27 = .ok (.goto 4, 3) := by decide +kernel
theorem dX12_standing_30 : decode cX12_standing 30 = .ok (.iconst 0, 1) := by decide +kernel
theorem dX12_standing_31 : decode cX12_standing 31 = .ok (.iadd, 1) := by decide +kernel
theorem dX12_standing_32 : decode cX12_standing 32 = .ok (.istore_n 3, 1) := by decide +kernel
theorem dX12_standing_33 : decode cX12_standing 33 = .ok (.iinc 4 1, 3) := by decide +kernel
theorem dX12_standing_36 : decode cX12_standing 36 = .ok (.goto (-31), 3) := by decide +kernel
theorem dX12_standing_39 : decode cX12_standing 39 = .ok (.iload_n 3, 1) := by decide +kernel
theorem dX12_standing_40 : decode cX12_standing 40 = .ok (.ireturn, 1) := by decide +kernel
theorem dX12_isFirst_0 : decode cX12_isFirst 0 = .ok (.iconst 0, 1) := by decide +kernel
theorem dX12_isFirst_1 : decode cX12_isFirst 1 = .ok (.istore_n 3, 1) := by decide +kernel
theorem dX12_isFirst_2 : decode cX12_isFirst 2 = .ok (.iload_n 3, 1) := by decide +kernel
theorem dX12_isFirst_3 : decode cX12_isFirst 3 = .ok (.iload_n 1, 1) := by decide +kernel
theorem dX12_isFirst_4 : decode cX12_isFirst 4 = .ok (.if_icmp .ge 21, 3) := by decide +kernel
theorem dX12_isFirst_7 : decode cX12_isFirst 7 = .ok (.aload_n 0, 1) := by decide +kernel
theorem dX12_isFirst_8 : decode cX12_isFirst 8 = .ok (.iload_n 3, 1) := by decide +kernel
theorem dX12_isFirst_9 : decode cX12_isFirst 9 = .ok (.iload_n 1, 1) := by decide +kernel
theorem dX12_isFirst_10 : decode cX12_isFirst 10 = .ok (.invokevirtual 109, 3) := by decide +kernel
theorem dX12_isFirst_13 : decode cX12_isFirst 13 = .ok (.iload_n 2, 1) := by decide +kernel
theorem dX12_isFirst_14 : decode cX12_isFirst 14 = .ok (.if_icmp .lt 5, 3) := by decide +kernel
theorem dX12_isFirst_17 : decode cX12_isFirst 17 = .ok (.iconst 0, 1) := by decide +kernel
theorem dX12_isFirst_18 : decode cX12_isFirst 18 = .ok (.ireturn, 1) := by decide +kernel
theorem dX12_isFirst_19 : decode cX12_isFirst 19 = .ok (.iinc 3 1, 3) := by decide +kernel
theorem dX12_isFirst_22 : decode cX12_isFirst 22 = .ok (.goto (-20), 3) := by decide +kernel
theorem dX12_isFirst_25 : decode cX12_isFirst 25 = .ok (.iconst 1, 1) := by decide +kernel
theorem dX12_isFirst_26 : decode cX12_isFirst 26 = .ok (.ireturn, 1) := by decide +kernel
theorem dX12_repeat_0 : decode cX12_repeat 0 = .ok (.aload_n 0, 1) := by decide +kernel
theorem dX12_repeat_1 : decode cX12_repeat 1 = .ok (.invokevirtual 125, 3) := by decide +kernel
theorem dX12_repeat_4 : decode cX12_repeat 4 = .ok (.istore_n 1, 1) := by decide +kernel
theorem dX12_repeat_5 : decode cX12_repeat 5 = .ok (.iconst (-1), 1) := by decide +kernel
theorem dX12_repeat_6 : decode cX12_repeat 6 = .ok (.istore_n 2, 1) := by decide +kernel
theorem dX12_repeat_7 : decode cX12_repeat 7 = .ok (.iconst 0, 1) := by decide +kernel
theorem dX12_repeat_8 : decode cX12_repeat 8 = .ok (.istore_n 3, 1) := by decide +kernel
theorem dX12_repeat_9 : decode cX12_repeat 9 = .ok (.iload_n 3, 1) := by decide +kernel
theorem dX12_repeat_10 : decode cX12_repeat 10 = .ok (.aload_n 0, 1) := by decide +kernel
theorem dX12_repeat_11 : decode cX12_repeat 11 = .ok (.getfield 61, 3) := by decide +kernel
theorem dX12_repeat_14 : decode cX12_repeat 14 = .ok (.if_icmp .ge 48, 3) := by decide +kernel
theorem dX12_repeat_17 : decode cX12_repeat 17 = .ok (.iload_n 1, 1) := by decide +kernel
theorem dX12_repeat_18 : decode cX12_repeat 18 = .ok (.ifCond .le 44, 3) := by decide +kernel
theorem dX12_repeat_21 : decode cX12_repeat 21 = .ok (.aload_n 0, 1) := by decide +kernel
theorem dX12_repeat_22 : decode cX12_repeat 22 = .ok (.iload_n 3, 1) := by decide +kernel
theorem dX12_repeat_23 : decode cX12_repeat 23 = .ok (.iload_n 1, 1) := by decide +kernel
theorem dX12_repeat_24 : decode cX12_repeat 24 = .ok (.invokevirtual 129, 3) := by decide +kernel
theorem dX12_repeat_27 : decode cX12_repeat 27 = .ok (.ifCond .eq 29, 3) := by decide +kernel
theorem dX12_repeat_30 : decode cX12_repeat 30 = .ok (.aload_n 0, 1) := by decide +kernel
theorem dX12_repeat_31 : decode cX12_repeat 31 = .ok (.iload_n 3, 1) := by decide +kernel
theorem dX12_repeat_32 : decode cX12_repeat 32 = .ok (.iload_n 1, 1) := by decide +kernel
theorem dX12_repeat_33 : decode cX12_repeat 33 = .ok (.invokevirtual 132, 3) := by decide +kernel
theorem dX12_repeat_36 : decode cX12_repeat 36 = .ok (.iconst 1, 1) := by decide +kernel
theorem dX12_repeat_37 : decode cX12_repeat 37 = .ok (.if_icmp .le 19, 3) := by decide +kernel
theorem dX12_repeat_40 : decode cX12_repeat 40 = .ok (.iload_n 2, 1) := by decide +kernel
theorem dX12_repeat_41 : decode cX12_repeat 41 = .ok (.iconst (-1), 1) := by decide +kernel
theorem dX12_repeat_42 : decode cX12_repeat 42 = .ok (.if_icmp .eq 12, 3) := by decide +kernel
theorem dX12_repeat_45 : decode cX12_repeat 45 = .ok (.aload_n 0, 1) := by decide +kernel
theorem dX12_repeat_46 : decode cX12_repeat 46 = .ok (.iload_n 3, 1) := by decide +kernel
theorem dX12_repeat_47 : decode cX12_repeat 47 = .ok (.iload_n 2, 1) := by decide +kernel
theorem dX12_repeat_48 : decode cX12_repeat 48 = .ok (.invokevirtual 113, 3) := by decide +kernel
theorem dX12_repeat_51 : decode cX12_repeat 51 = .ok (.ifCond .eq 5, 3) := by decide +kernel
theorem dX12_repeat_54 : decode cX12_repeat 54 = .ok (.iload_n 3, 1) := by decide +kernel
theorem dX12_repeat_55 : decode cX12_repeat 55 = .ok (.istore_n 2, 1) := by decide +kernel
theorem dX12_repeat_56 : decode cX12_repeat 56 = .ok (.iinc 3 1, 3) := by decide +kernel
theorem dX12_repeat_59 : decode cX12_repeat 59 = .ok (.goto (-50), 3) := by decide +kernel
theorem dX12_repeat_62 : decode cX12_repeat 62 = .ok (.iload_n 2, 1) := by decide +kernel
theorem dX12_repeat_63 : decode cX12_repeat 63 = .ok (.ireturn, 1) := by decide +kernel
theorem dX12_repeats_0 : decode cX12_repeats 0 = .ok (.aload_n 0, 1) := by decide +kernel
theorem dX12_repeats_1 : decode cX12_repeats 1 = .ok (.invokevirtual 135, 3) := by decide +kernel
theorem dX12_repeats_4 : decode cX12_repeats 4 = .ok (.istore_n 1, 1) := by decide +kernel
theorem dX12_repeats_5 : decode cX12_repeats 5 = .ok (.iload_n 1, 1) := by decide +kernel
theorem dX12_repeats_6 : decode cX12_repeats 6 = .ok (.iconst (-1), 1) := by decide +kernel
theorem dX12_repeats_7 : decode cX12_repeats 7 = .ok (.if_icmp .ne 7, 3) := by decide +kernel
theorem dX12_repeats_10 : decode cX12_repeats 10 = .ok (.iconst 0, 1) := by decide +kernel
theorem dX12_repeats_11 : decode cX12_repeats 11 = .ok (.goto 12, 3) := by decide +kernel
theorem dX12_repeats_14 : decode cX12_repeats 14 = .ok (.aload_n 0, 1) := by decide +kernel
theorem dX12_repeats_15 : decode cX12_repeats 15 = .ok (.iload_n 1, 1) := by decide +kernel
theorem dX12_repeats_16 : decode cX12_repeats 16 = .ok (.aload_n 0, 1) := by decide +kernel
theorem dX12_repeats_17 : decode cX12_repeats 17 = .ok (.invokevirtual 125, 3) := by decide +kernel
theorem dX12_repeats_20 : decode cX12_repeats 20 = .ok (.invokevirtual 132, 3) := by decide +kernel
theorem dX12_repeats_23 : decode cX12_repeats 23 = .ok (.ireturn, 1) := by decide +kernel
theorem dX12_kindsWith_0 : decode cX12_kindsWith 0 = .ok (.iconst 0, 1) := by decide +kernel
theorem dX12_kindsWith_1 : decode cX12_kindsWith 1 = .ok (.istore_n 3, 1) := by decide +kernel
theorem dX12_kindsWith_2 : decode cX12_kindsWith 2 = .ok (.iconst 0, 1) := by decide +kernel
theorem dX12_kindsWith_3 : decode cX12_kindsWith 3 = .ok (.istore 4, 2) := by decide +kernel
theorem dX12_kindsWith_5 : decode cX12_kindsWith 5 = .ok (.iload 4, 2) := by decide +kernel
theorem dX12_kindsWith_7 : decode cX12_kindsWith 7 = .ok (.iload_n 1, 1) := by decide +kernel
theorem dX12_kindsWith_8 : decode cX12_kindsWith 8 = .ok (.iadd, 1) := by decide +kernel
theorem dX12_kindsWith_9 : decode cX12_kindsWith 9 = .ok (.aload_n 0, 1) := by decide +kernel
theorem dX12_kindsWith_10 : decode cX12_kindsWith 10 = .ok (.getfield 61, 3) := by decide +kernel
theorem dX12_kindsWith_13 : decode cX12_kindsWith 13 = .ok (.if_icmp .gt 38, 3) := by decide +kernel
theorem dX12_kindsWith_16 : decode cX12_kindsWith 16 = .ok (.iload_n 3, 1) := by decide +kernel
theorem dX12_kindsWith_17 : decode cX12_kindsWith 17 = .ok (.aload_n 0, 1) := by decide +kernel
theorem dX12_kindsWith_18 : decode cX12_kindsWith 18 = .ok (.iload 4, 2) := by decide +kernel
theorem dX12_kindsWith_20 : decode cX12_kindsWith 20 = .ok (.iload_n 1, 1) := by decide +kernel
theorem dX12_kindsWith_21 : decode cX12_kindsWith 21 = .ok (.invokevirtual 129, 3) := by decide +kernel
theorem dX12_kindsWith_24 : decode cX12_kindsWith 24 = .ok (.ifCond .eq 18, 3) := by decide +kernel
theorem dX12_kindsWith_27 : decode cX12_kindsWith 27 = .ok (.aload_n 0, 1) := by decide +kernel
theorem dX12_kindsWith_28 : decode cX12_kindsWith 28 = .ok (.iload 4, 2) := by decide +kernel
theorem dX12_kindsWith_30 : decode cX12_kindsWith 30 = .ok (.iload_n 1, 1) := by decide +kernel
theorem dX12_kindsWith_31 : decode cX12_kindsWith 31 = .ok (.invokevirtual 132, 3) := by decide +kernel
theorem dX12_kindsWith_34 : decode cX12_kindsWith 34 = .ok (.iload_n 2, 1) := by decide +kernel
theorem dX12_kindsWith_35 : decode cX12_kindsWith 35 = .ok (.if_icmp .lt 7, 3) := by decide +kernel
theorem dX12_kindsWith_38 : decode cX12_kindsWith 38 = .ok (.iconst 1, 1) := by decide +kernel
theorem dX12_kindsWith_39 : decode cX12_kindsWith 39 = .ok (.goto 4, 3) := by decide +kernel
theorem dX12_kindsWith_42 : decode cX12_kindsWith 42 = .ok (.iconst 0, 1) := by decide +kernel
theorem dX12_kindsWith_43 : decode cX12_kindsWith 43 = .ok (.iadd, 1) := by decide +kernel
theorem dX12_kindsWith_44 : decode cX12_kindsWith 44 = .ok (.istore_n 3, 1) := by decide +kernel
theorem dX12_kindsWith_45 : decode cX12_kindsWith 45 = .ok (.iinc 4 1, 3) := by decide +kernel
theorem dX12_kindsWith_48 : decode cX12_kindsWith 48 = .ok (.goto (-43), 3) := by decide +kernel
theorem dX12_kindsWith_51 : decode cX12_kindsWith 51 = .ok (.iload_n 3, 1) := by decide +kernel
theorem dX12_kindsWith_52 : decode cX12_kindsWith 52 = .ok (.ireturn, 1) := by decide +kernel
theorem dX12_alike_0 : decode cX12_alike 0 = .ok (.iconst 0, 1) := by decide +kernel
theorem dX12_alike_1 : decode cX12_alike 1 = .ok (.istore_n 2, 1) := by decide +kernel
theorem dX12_alike_2 : decode cX12_alike 2 = .ok (.iload_n 1, 1) := by decide +kernel
theorem dX12_alike_3 : decode cX12_alike 3 = .ok (.iload_n 2, 1) := by decide +kernel
theorem dX12_alike_4 : decode cX12_alike 4 = .ok (.isub, 1) := by decide +kernel
theorem dX12_alike_5 : decode cX12_alike 5 = .ok (.ifCond .lt 33, 3) := by decide +kernel
theorem dX12_alike_8 : decode cX12_alike 8 = .ok (.aload_n 0, 1) := by decide +kernel
theorem dX12_alike_9 : decode cX12_alike 9 = .ok (.getfield 40, 3) := by decide +kernel
theorem dX12_alike_12 : decode cX12_alike 12 = .ok (.iload_n 1, 1) := by decide +kernel
theorem dX12_alike_13 : decode cX12_alike 13 = .ok (.iload_n 2, 1) := by decide +kernel
theorem dX12_alike_14 : decode cX12_alike 14 = .ok (.isub, 1) := by decide +kernel
theorem dX12_alike_15 : decode cX12_alike 15 = .ok (.iaload, 1) := by decide +kernel
theorem dX12_alike_16 : decode cX12_alike 16 = .ok (.aload_n 0, 1) := by decide +kernel
theorem dX12_alike_17 : decode cX12_alike 17 = .ok (.getfield 40, 3) := by decide +kernel
theorem dX12_alike_20 : decode cX12_alike 20 = .ok (.aload_n 0, 1) := by decide +kernel
theorem dX12_alike_21 : decode cX12_alike 21 = .ok (.getfield 61, 3) := by decide +kernel
theorem dX12_alike_24 : decode cX12_alike 24 = .ok (.iconst 1, 1) := by decide +kernel
theorem dX12_alike_25 : decode cX12_alike 25 = .ok (.isub, 1) := by decide +kernel
theorem dX12_alike_26 : decode cX12_alike 26 = .ok (.iload_n 2, 1) := by decide +kernel
theorem dX12_alike_27 : decode cX12_alike 27 = .ok (.isub, 1) := by decide +kernel
theorem dX12_alike_28 : decode cX12_alike 28 = .ok (.iaload, 1) := by decide +kernel
theorem dX12_alike_29 : decode cX12_alike 29 = .ok (.if_icmp .ne 9, 3) := by decide +kernel
theorem dX12_alike_32 : decode cX12_alike 32 = .ok (.iinc 2 1, 3) := by decide +kernel
theorem dX12_alike_35 : decode cX12_alike 35 = .ok (.goto (-33), 3) := by decide +kernel
theorem dX12_alike_38 : decode cX12_alike 38 = .ok (.iload_n 2, 1) := by decide +kernel
theorem dX12_alike_39 : decode cX12_alike 39 = .ok (.ireturn, 1) := by decide +kernel
theorem dX12_atEnd_0 : decode cX12_atEnd 0 = .ok (.iconst 0, 1) := by decide +kernel
theorem dX12_atEnd_1 : decode cX12_atEnd 1 = .ok (.istore_n 1, 1) := by decide +kernel
theorem dX12_atEnd_2 : decode cX12_atEnd 2 = .ok (.iconst 0, 1) := by decide +kernel
theorem dX12_atEnd_3 : decode cX12_atEnd 3 = .ok (.istore_n 2, 1) := by decide +kernel
theorem dX12_atEnd_4 : decode cX12_atEnd 4 = .ok (.iload_n 2, 1) := by decide +kernel
theorem dX12_atEnd_5 : decode cX12_atEnd 5 = .ok (.aload_n 0, 1) := by decide +kernel
theorem dX12_atEnd_6 : decode cX12_atEnd 6 = .ok (.getfield 61, 3) := by decide +kernel
theorem dX12_atEnd_9 : decode cX12_atEnd 9 = .ok (.iconst 1, 1) := by decide +kernel
theorem dX12_atEnd_10 : decode cX12_atEnd 10 = .ok (.isub, 1) := by decide +kernel
theorem dX12_atEnd_11 : decode cX12_atEnd 11 = .ok (.if_icmp .ge 19, 3) := by decide +kernel
theorem dX12_atEnd_14 : decode cX12_atEnd 14 = .ok (.iload_n 1, 1) := by decide +kernel
theorem dX12_atEnd_15 : decode cX12_atEnd 15 = .ok (.aload_n 0, 1) := by decide +kernel
theorem dX12_atEnd_16 : decode cX12_atEnd 16 = .ok (.iload_n 2, 1) := by decide +kernel
theorem dX12_atEnd_17 : decode cX12_atEnd 17 = .ok (.invokevirtual 138, 3) := by decide +kernel
theorem dX12_atEnd_20 : decode cX12_atEnd 20 = .ok (.invokestatic 120, 3) := by decide +kernel
theorem dX12_atEnd_23 : decode cX12_atEnd 23 = .ok (.istore_n 1, 1) := by decide +kernel
theorem dX12_atEnd_24 : decode cX12_atEnd 24 = .ok (.iinc 2 1, 3) := by decide +kernel
theorem dX12_atEnd_27 : decode cX12_atEnd 27 = .ok (.goto (-23), 3) := by decide +kernel
theorem dX12_atEnd_30 : decode cX12_atEnd 30 = .ok (.iload_n 1, 1) := by decide +kernel
theorem dX12_atEnd_31 : decode cX12_atEnd 31 = .ok (.ireturn, 1) := by decide +kernel
theorem dX12_stands_0 : decode cX12_stands 0 = .ok (.iload_n 2, 1) := by decide +kernel
theorem dX12_stands_1 : decode cX12_stands 1 = .ok (.aload_n 0, 1) := by decide +kernel
theorem dX12_stands_2 : decode cX12_stands 2 = .ok (.getfield 20, 3) := by decide +kernel
theorem dX12_stands_5 : decode cX12_stands 5 = .ok (.getfield 82, 3) := by decide +kernel
theorem dX12_stands_8 : decode cX12_stands 8 = .ok (.iload_n 1, 1) := by decide +kernel
theorem dX12_stands_9 : decode cX12_stands 9 = .ok (.iaload, 1) := by decide +kernel
theorem dX12_stands_10 : decode cX12_stands 10 = .ok (.iadd, 1) := by decide +kernel
theorem dX12_stands_11 : decode cX12_stands 11 = .ok (.aload_n 0, 1) := by decide +kernel
theorem dX12_stands_12 : decode cX12_stands 12 = .ok (.getfield 61, 3) := by decide +kernel
theorem dX12_stands_15 : decode cX12_stands 15 = .ok (.if_icmp .le 5, 3) := by decide +kernel
theorem dX12_stands_18 : decode cX12_stands 18 = .ok (.iconst 0, 1) := by decide +kernel
theorem dX12_stands_19 : decode cX12_stands 19 = .ok (.ireturn, 1) := by decide +kernel
theorem dX12_stands_20 : decode cX12_stands 20 = .ok (.iconst 0, 1) := by decide +kernel
theorem dX12_stands_21 : decode cX12_stands 21 = .ok (.istore_n 3, 1) := by decide +kernel
theorem dX12_stands_22 : decode cX12_stands 22 = .ok (.iload_n 3, 1) := by decide +kernel
theorem dX12_stands_23 : decode cX12_stands 23 = .ok (.aload_n 0, 1) := by decide +kernel
theorem dX12_stands_24 : decode cX12_stands 24 = .ok (.getfield 20, 3) := by decide +kernel
theorem dX12_stands_27 : decode cX12_stands 27 = .ok (.getfield 82, 3) := by decide +kernel
theorem dX12_stands_30 : decode cX12_stands 30 = .ok (.iload_n 1, 1) := by decide +kernel
theorem dX12_stands_31 : decode cX12_stands 31 = .ok (.iaload, 1) := by decide +kernel
theorem dX12_stands_32 : decode cX12_stands 32 = .ok (.if_icmp .ge 36, 3) := by decide +kernel
theorem dX12_stands_35 : decode cX12_stands 35 = .ok (.aload_n 0, 1) := by decide +kernel
theorem dX12_stands_36 : decode cX12_stands 36 = .ok (.getfield 40, 3) := by decide +kernel
theorem dX12_stands_39 : decode cX12_stands 39 = .ok (.iload_n 2, 1) := by decide +kernel
theorem dX12_stands_40 : decode cX12_stands 40 = .ok (.iload_n 3, 1) := by decide +kernel
theorem dX12_stands_41 : decode cX12_stands 41 = .ok (.iadd, 1) := by decide +kernel
theorem dX12_stands_42 : decode cX12_stands 42 = .ok (.iaload, 1) := by decide +kernel
theorem dX12_stands_43 : decode cX12_stands 43 = .ok (.aload_n 0, 1) := by decide +kernel
theorem dX12_stands_44 : decode cX12_stands 44 = .ok (.getfield 20, 3) := by decide +kernel
theorem dX12_stands_47 : decode cX12_stands 47 = .ok (.getfield 85, 3) := by decide +kernel
theorem dX12_stands_50 : decode cX12_stands 50 = .ok (.bipush 10, 2) := by decide +kernel
theorem dX12_stands_52 : decode cX12_stands 52 = .ok (.iload_n 1, 1) := by decide +kernel
theorem dX12_stands_53 : decode cX12_stands 53 = .ok (.imul, 1) := by decide +kernel
theorem dX12_stands_54 : decode cX12_stands 54 = .ok (.iload_n 3, 1) := by decide +kernel
theorem dX12_stands_55 : decode cX12_stands 55 = .ok (.iadd, 1) := by decide +kernel
theorem dX12_stands_56 : decode cX12_stands 56 = .ok (.iaload, 1) := by decide +kernel
theorem dX12_stands_57 : decode cX12_stands 57 = .ok (.if_icmp .eq 5, 3) := by decide +kernel
theorem dX12_stands_60 : decode cX12_stands 60 = .ok (.iconst 0, 1) := by decide +kernel
theorem dX12_stands_61 : decode cX12_stands 61 = .ok (.ireturn, 1) := by decide +kernel
theorem dX12_stands_62 : decode cX12_stands 62 = .ok (.iinc 3 1, 3) := by decide +kernel
theorem dX12_stands_65 : decode cX12_stands 65 = .ok (.goto (-43), 3) := by decide +kernel
theorem dX12_stands_68 : decode cX12_stands 68 = .ok (.iconst 1, 1) := by decide +kernel
theorem dX12_stands_69 : decode cX12_stands 69 = .ok (.ireturn, 1) := by decide +kernel
theorem dX12_count_0 : decode cX12_count 0 = .ok (.iconst 0, 1) := by decide +kernel
theorem dX12_count_1 : decode cX12_count 1 = .ok (.istore_n 2, 1) := by decide +kernel
theorem dX12_count_2 : decode cX12_count 2 = .ok (.iconst 0, 1) := by decide +kernel
theorem dX12_count_3 : decode cX12_count 3 = .ok (.istore_n 3, 1) := by decide +kernel
theorem dX12_count_4 : decode cX12_count 4 = .ok (.iload_n 3, 1) := by decide +kernel
theorem dX12_count_5 : decode cX12_count 5 = .ok (.aload_n 0, 1) := by decide +kernel
theorem dX12_count_6 : decode cX12_count 6 = .ok (.getfield 61, 3) := by decide +kernel
theorem dX12_count_9 : decode cX12_count 9 = .ok (.if_icmp .ge 26, 3) := by decide +kernel
theorem dX12_count_12 : decode cX12_count 12 = .ok (.iload_n 2, 1) := by decide +kernel
theorem dX12_count_13 : decode cX12_count 13 = .ok (.aload_n 0, 1) := by decide +kernel
theorem dX12_count_14 : decode cX12_count 14 = .ok (.iload_n 1, 1) := by decide +kernel
theorem dX12_count_15 : decode cX12_count 15 = .ok (.iload_n 3, 1) := by decide +kernel
theorem dX12_count_16 : decode cX12_count 16 = .ok (.invokevirtual 142, 3) := by decide +kernel
theorem dX12_count_19 : decode cX12_count 19 = .ok (.ifCond .eq 7, 3) := by decide +kernel
theorem dX12_count_22 : decode cX12_count 22 = .ok (.iconst 1, 1) := by decide +kernel
theorem dX12_count_23 : decode cX12_count 23 = .ok (.goto 4, 3) := by decide +kernel
theorem dX12_count_26 : decode cX12_count 26 = .ok (.iconst 0, 1) := by decide +kernel
theorem dX12_count_27 : decode cX12_count 27 = .ok (.iadd, 1) := by decide +kernel
theorem dX12_count_28 : decode cX12_count 28 = .ok (.istore_n 2, 1) := by decide +kernel
theorem dX12_count_29 : decode cX12_count 29 = .ok (.iinc 3 1, 3) := by decide +kernel
theorem dX12_count_32 : decode cX12_count 32 = .ok (.goto (-28), 3) := by decide +kernel
theorem dX12_count_35 : decode cX12_count 35 = .ok (.iload_n 2, 1) := by decide +kernel
theorem dX12_count_36 : decode cX12_count 36 = .ok (.ireturn, 1) := by decide +kernel
theorem dX12_first_0 : decode cX12_first 0 = .ok (.iconst 0, 1) := by decide +kernel
theorem dX12_first_1 : decode cX12_first 1 = .ok (.istore_n 2, 1) := by decide +kernel
theorem dX12_first_2 : decode cX12_first 2 = .ok (.iload_n 2, 1) := by decide +kernel
theorem dX12_first_3 : decode cX12_first 3 = .ok (.aload_n 0, 1) := by decide +kernel
theorem dX12_first_4 : decode cX12_first 4 = .ok (.getfield 61, 3) := by decide +kernel
theorem dX12_first_7 : decode cX12_first 7 = .ok (.if_icmp .ge 20, 3) := by decide +kernel
theorem dX12_first_10 : decode cX12_first 10 = .ok (.aload_n 0, 1) := by decide +kernel
theorem dX12_first_11 : decode cX12_first 11 = .ok (.iload_n 1, 1) := by decide +kernel
theorem dX12_first_12 : decode cX12_first 12 = .ok (.iload_n 2, 1) := by decide +kernel
theorem dX12_first_13 : decode cX12_first 13 = .ok (.invokevirtual 142, 3) := by decide +kernel
theorem dX12_first_16 : decode cX12_first 16 = .ok (.ifCond .eq 5, 3) := by decide +kernel
theorem dX12_first_19 : decode cX12_first 19 = .ok (.iload_n 2, 1) := by decide +kernel
theorem dX12_first_20 : decode cX12_first 20 = .ok (.ireturn, 1) := by decide +kernel
theorem dX12_first_21 : decode cX12_first 21 = .ok (.iinc 2 1, 3) := by decide +kernel
theorem dX12_first_24 : decode cX12_first 24 = .ok (.goto (-22), 3) := by decide +kernel
theorem dX12_first_27 : decode cX12_first 27 = .ok (.iconst (-1), 1) := by decide +kernel
theorem dX12_first_28 : decode cX12_first 28 = .ok (.ireturn, 1) := by decide +kernel
theorem dX12_last_0 : decode cX12_last 0 = .ok (.aload_n 0, 1) := by decide +kernel
theorem dX12_last_1 : decode cX12_last 1 = .ok (.getfield 61, 3) := by decide +kernel
theorem dX12_last_4 : decode cX12_last 4 = .ok (.iconst 1, 1) := by decide +kernel
theorem dX12_last_5 : decode cX12_last 5 = .ok (.isub, 1) := by decide +kernel
theorem dX12_last_6 : decode cX12_last 6 = .ok (.istore_n 2, 1) := by decide +kernel
theorem dX12_last_7 : decode cX12_last 7 = .ok (.iload_n 2, 1) := by decide +kernel
theorem dX12_last_8 : decode cX12_last 8 = .ok (.ifCond .lt 20, 3) := by decide +kernel
theorem dX12_last_11 : decode cX12_last 11 = .ok (.aload_n 0, 1) := by decide +kernel
theorem dX12_last_12 : decode cX12_last 12 = .ok (.iload_n 1, 1) := by decide +kernel
theorem dX12_last_13 : decode cX12_last 13 = .ok (.iload_n 2, 1) := by decide +kernel
theorem dX12_last_14 : decode cX12_last 14 = .ok (.invokevirtual 142, 3) := by decide +kernel
theorem dX12_last_17 : decode cX12_last 17 = .ok (.ifCond .eq 5, 3) := by decide +kernel
theorem dX12_last_20 : decode cX12_last 20 = .ok (.iload_n 2, 1) := by decide +kernel
theorem dX12_last_21 : decode cX12_last 21 = .ok (.ireturn, 1) := by decide +kernel
theorem dX12_last_22 : decode cX12_last 22 = .ok (.iinc 2 (-1), 3) := by decide +kernel
theorem dX12_last_25 : decode cX12_last 25 = .ok (.goto (-18), 3) := by decide +kernel
theorem dX12_last_28 : decode cX12_last 28 = .ok (.iconst (-1), 1) := by decide +kernel
theorem dX12_last_29 : decode cX12_last 29 = .ok (.ireturn, 1) := by decide +kernel
theorem dX12_isBefore_0 : decode cX12_isBefore 0 = .ok (.iconst 0, 1) := by decide +kernel
theorem dX12_isBefore_1 : decode cX12_isBefore 1 = .ok (.istore_n 3, 1) := by decide +kernel
theorem dX12_isBefore_2 : decode cX12_isBefore 2 = .ok (.iload_n 1, 1) := by decide +kernel
theorem dX12_isBefore_3 : decode cX12_isBefore 3 = .ok (.iload_n 3, 1) := by decide +kernel
theorem dX12_isBefore_4 : decode cX12_isBefore 4 = .ok (.iadd, 1) := by decide +kernel
theorem dX12_isBefore_5 : decode cX12_isBefore 5 = .ok (.aload_n 0, 1) := by decide +kernel
theorem dX12_isBefore_6 : decode cX12_isBefore 6 = .ok (.getfield 61, 3) := by decide +kernel
theorem dX12_isBefore_9 : decode cX12_isBefore 9 = .ok (.if_icmp .ge 47, 3) := by decide +kernel
theorem dX12_isBefore_12 : decode cX12_isBefore 12 = .ok (.iload_n 3, 1) := by decide +kernel
theorem dX12_isBefore_13 : decode cX12_isBefore 13 = .ok (.aload_n 0, 1) := by decide +kernel
theorem dX12_isBefore_14 : decode cX12_isBefore 14 = .ok (.getfield 20, 3) := by decide +kernel
theorem dX12_isBefore_17 : decode cX12_isBefore 17 = .ok (.getfield 82, 3) := by decide +kernel
theorem dX12_isBefore_20 : decode cX12_isBefore 20 = .ok (.iload_n 2, 1) := by decide +kernel
theorem dX12_isBefore_21 : decode cX12_isBefore 21 = .ok (.iaload, 1) := by decide +kernel
theorem dX12_isBefore_22 : decode cX12_isBefore 22 = .ok (.if_icmp .ge 34, 3) := by decide +kernel
theorem dX12_isBefore_25 : decode cX12_isBefore 25 = .ok (.aload_n 0, 1) := by decide +kernel
theorem dX12_isBefore_26 : decode cX12_isBefore 26 = .ok (.getfield 40, 3) := by decide +kernel
theorem dX12_isBefore_29 : decode cX12_isBefore 29 = .ok (.iload_n 1, 1) := by decide +kernel
theorem dX12_isBefore_30 : decode cX12_isBefore 30 = .ok (.iload_n 3, 1) := by decide +kernel
theorem dX12_isBefore_31 : decode cX12_isBefore 31 = .ok (.iadd, 1) := by decide +kernel
theorem dX12_isBefore_32 : decode cX12_isBefore 32 = .ok (.iaload, 1) := by decide +kernel
theorem dX12_isBefore_33 : decode cX12_isBefore 33 = .ok (.aload_n 0, 1) := by decide +kernel
theorem dX12_isBefore_34 : decode cX12_isBefore 34 = .ok (.getfield 20, 3) := by decide +kernel
theorem dX12_isBefore_37 : decode cX12_isBefore 37 = .ok (.getfield 85, 3) := by decide +kernel
theorem dX12_isBefore_40 : decode cX12_isBefore 40 = .ok (.bipush 10, 2) := by decide +kernel
theorem dX12_isBefore_42 : decode cX12_isBefore 42 = .ok (.iload_n 2, 1) := by decide +kernel
theorem dX12_isBefore_43 : decode cX12_isBefore 43 = .ok (.imul, 1) := by decide +kernel
theorem dX12_isBefore_44 : decode cX12_isBefore 44 = .ok (.iload_n 3, 1) := by decide +kernel
theorem dX12_isBefore_45 : decode cX12_isBefore 45 = .ok (.iadd, 1) := by decide +kernel
theorem dX12_isBefore_46 : decode cX12_isBefore 46 = .ok (.iaload, 1) := by decide +kernel
theorem dX12_isBefore_47 : decode cX12_isBefore 47 = .ok (.if_icmp .ne 9, 3) := by decide +kernel
theorem dX12_isBefore_50 : decode cX12_isBefore 50 = .ok (.iinc 3 1, 3) := by decide +kernel
theorem dX12_isBefore_53 : decode cX12_isBefore 53 = .ok (.goto (-51), 3) := by decide +kernel
theorem dX12_isBefore_56 : decode cX12_isBefore 56 = .ok (.iload_n 3, 1) := by decide +kernel
theorem dX12_isBefore_57 : decode cX12_isBefore 57 = .ok (.aload_n 0, 1) := by decide +kernel
theorem dX12_isBefore_58 : decode cX12_isBefore 58 = .ok (.getfield 20, 3) := by decide +kernel
theorem dX12_isBefore_61 : decode cX12_isBefore 61 = .ok (.getfield 82, 3) := by decide +kernel
theorem dX12_isBefore_64 : decode cX12_isBefore 64 = .ok (.iload_n 2, 1) := by decide +kernel
theorem dX12_isBefore_65 : decode cX12_isBefore 65 = .ok (.iaload, 1) := by decide +kernel
theorem dX12_isBefore_66 : decode cX12_isBefore 66 = .ok (.if_icmp .ne 5, 3) := by decide +kernel
theorem dX12_isBefore_69 : decode cX12_isBefore 69 = .ok (.iconst 0, 1) := by decide +kernel
theorem dX12_isBefore_70 : decode cX12_isBefore 70 = .ok (.ireturn, 1) := by decide +kernel
theorem dX12_isBefore_71 : decode cX12_isBefore 71 = .ok (.iload_n 1, 1) := by decide +kernel
theorem dX12_isBefore_72 : decode cX12_isBefore 72 = .ok (.iload_n 3, 1) := by decide +kernel
theorem dX12_isBefore_73 : decode cX12_isBefore 73 = .ok (.iadd, 1) := by decide +kernel
theorem dX12_isBefore_74 : decode cX12_isBefore 74 = .ok (.aload_n 0, 1) := by decide +kernel
theorem dX12_isBefore_75 : decode cX12_isBefore 75 = .ok (.getfield 61, 3) := by decide +kernel
theorem dX12_isBefore_78 : decode cX12_isBefore 78 = .ok (.if_icmp .eq 28, 3) := by decide +kernel
theorem dX12_isBefore_81 : decode cX12_isBefore 81 = .ok (.aload_n 0, 1) := by decide +kernel
theorem dX12_isBefore_82 : decode cX12_isBefore 82 = .ok (.getfield 40, 3) := by decide +kernel
theorem dX12_isBefore_85 : decode cX12_isBefore 85 = .ok (.iload_n 1, 1) := by decide +kernel
theorem dX12_isBefore_86 : decode cX12_isBefore 86 = .ok (.iload_n 3, 1) := by decide +kernel
theorem dX12_isBefore_87 : decode cX12_isBefore 87 = .ok (.iadd, 1) := by decide +kernel
theorem dX12_isBefore_88 : decode cX12_isBefore 88 = .ok (.iaload, 1) := by decide +kernel
theorem dX12_isBefore_89 : decode cX12_isBefore 89 = .ok (.aload_n 0, 1) := by decide +kernel
theorem dX12_isBefore_90 : decode cX12_isBefore 90 = .ok (.getfield 20, 3) := by decide +kernel
theorem dX12_isBefore_93 : decode cX12_isBefore 93 = .ok (.getfield 85, 3) := by decide +kernel
theorem dX12_isBefore_96 : decode cX12_isBefore 96 = .ok (.bipush 10, 2) := by decide +kernel
theorem dX12_isBefore_98 : decode cX12_isBefore 98 = .ok (.iload_n 2, 1) := by decide +kernel
theorem dX12_isBefore_99 : decode cX12_isBefore 99 = .ok (.imul, 1) := by decide +kernel
theorem dX12_isBefore_100 : decode cX12_isBefore 100 = .ok (.iload_n 3, 1) := by decide +kernel
theorem dX12_isBefore_101 : decode cX12_isBefore 101 = .ok (.iadd, 1) := by decide +kernel
theorem dX12_isBefore_102 : decode cX12_isBefore 102 = .ok (.iaload, 1) := by decide +kernel
theorem dX12_isBefore_103 : decode cX12_isBefore 103 = .ok (.if_icmp .ge 7, 3) := by decide +kernel
theorem dX12_isBefore_106 : decode cX12_isBefore 106 = .ok (.iconst 1, 1) := by decide +kernel
theorem dX12_isBefore_107 : decode cX12_isBefore 107 = .ok (.goto 4, 3) := by decide +kernel
theorem dX12_isBefore_110 : decode cX12_isBefore 110 = .ok (.iconst 0, 1) := by decide +kernel
theorem dX12_isBefore_111 : decode cX12_isBefore 111 = .ok (.ireturn, 1) := by decide +kernel
theorem dX12_steps_0 : decode cX12_steps 0 = .ok (.aload_n 0, 1) := by decide +kernel
theorem dX12_steps_1 : decode cX12_steps 1 = .ok (.invokevirtual 117, 3) := by decide +kernel
theorem dX12_steps_4 : decode cX12_steps 4 = .ok (.iconst 0, 1) := by decide +kernel
theorem dX12_steps_5 : decode cX12_steps 5 = .ok (.istore_n 2, 1) := by decide +kernel
theorem dX12_steps_6 : decode cX12_steps 6 = .ok (.aload_n 0, 1) := by decide +kernel
theorem dX12_steps_7 : decode cX12_steps 7 = .ok (.getfield 61, 3) := by decide +kernel
theorem dX12_steps_10 : decode cX12_steps 10 = .ok (.istore_n 3, 1) := by decide +kernel
theorem dX12_steps_11 : decode cX12_steps 11 = .ok (.iconst 0, 1) := by decide +kernel
theorem dX12_steps_12 : decode cX12_steps 12 = .ok (.istore 4, 2) := by decide +kernel
theorem dX12_steps_14 : decode cX12_steps 14 = .ok (.iload_n 2, 1) := by decide +kernel
theorem dX12_steps_15 : decode cX12_steps 15 = .ok (.iload_n 3, 1) := by decide +kernel
theorem dX12_steps_16 : decode cX12_steps 16 = .ok (.if_icmp .ge 42, 3) := by decide +kernel
theorem dX12_steps_19 : decode cX12_steps 19 = .ok (.iload_n 2, 1) := by decide +kernel
theorem dX12_steps_20 : decode cX12_steps 20 = .ok (.iload_n 3, 1) := by decide +kernel
theorem dX12_steps_21 : decode cX12_steps 21 = .ok (.iadd, 1) := by decide +kernel
theorem dX12_steps_22 : decode cX12_steps 22 = .ok (.iconst 2, 1) := by decide +kernel
theorem dX12_steps_23 : decode cX12_steps 23 = .ok (.idiv, 1) := by decide +kernel
theorem dX12_steps_24 : decode cX12_steps 24 = .ok (.istore 5, 2) := by decide +kernel
theorem dX12_steps_26 : decode cX12_steps 26 = .ok (.aload_n 0, 1) := by decide +kernel
theorem dX12_steps_27 : decode cX12_steps 27 = .ok (.aload_n 0, 1) := by decide +kernel
theorem dX12_steps_28 : decode cX12_steps 28 = .ok (.getfield 49, 3) := by decide +kernel
theorem dX12_steps_31 : decode cX12_steps 31 = .ok (.iload 5, 2) := by decide +kernel
theorem dX12_steps_33 : decode cX12_steps 33 = .ok (.iaload, 1) := by decide +kernel
theorem dX12_steps_34 : decode cX12_steps 34 = .ok (.iload_n 1, 1) := by decide +kernel
theorem dX12_steps_35 : decode cX12_steps 35 = .ok (.invokevirtual 145, 3) := by decide +kernel
theorem dX12_steps_38 : decode cX12_steps 38 = .ok (.ifCond .eq 11, 3) := by decide +kernel
theorem dX12_steps_41 : decode cX12_steps 41 = .ok (.iload 5, 2) := by decide +kernel
theorem dX12_steps_43 : decode cX12_steps 43 = .ok (.iconst 1, 1) := by decide +kernel
theorem dX12_steps_44 : decode cX12_steps 44 = .ok (.iadd, 1) := by decide +kernel
theorem dX12_steps_45 : decode cX12_steps 45 = .ok (.istore_n 2, 1) := by decide +kernel
theorem dX12_steps_46 : decode cX12_steps 46 = .ok (.goto 6, 3) := by decide +kernel
theorem dX12_steps_49 : decode cX12_steps 49 = .ok (.iload 5, 2) := by decide +kernel
theorem dX12_steps_51 : decode cX12_steps 51 = .ok (.istore_n 3, 1) := by decide +kernel
theorem dX12_steps_52 : decode cX12_steps 52 = .ok (.iinc 4 1, 3) := by decide +kernel
theorem dX12_steps_55 : decode cX12_steps 55 = .ok (.goto (-41), 3) := by decide +kernel
theorem dX12_steps_58 : decode cX12_steps 58 = .ok (.iload 4, 2) := by decide +kernel
theorem dX12_steps_60 : decode cX12_steps 60 = .ok (.ireturn, 1) := by decide +kernel
theorem dX12_most_0 : decode cX12_most 0 = .ok (.iconst (-1), 1) := by decide +kernel
theorem dX12_most_1 : decode cX12_most 1 = .ok (.istore_n 1, 1) := by decide +kernel
theorem dX12_most_2 : decode cX12_most 2 = .ok (.iconst 0, 1) := by decide +kernel
theorem dX12_most_3 : decode cX12_most 3 = .ok (.istore_n 2, 1) := by decide +kernel
theorem dX12_most_4 : decode cX12_most 4 = .ok (.iload_n 2, 1) := by decide +kernel
theorem dX12_most_5 : decode cX12_most 5 = .ok (.aload_n 0, 1) := by decide +kernel
theorem dX12_most_6 : decode cX12_most 6 = .ok (.getfield 20, 3) := by decide +kernel
theorem dX12_most_9 : decode cX12_most 9 = .ok (.getfield 68, 3) := by decide +kernel
theorem dX12_most_12 : decode cX12_most 12 = .ok (.if_icmp .ge 29, 3) := by decide +kernel
theorem dX12_most_15 : decode cX12_most 15 = .ok (.iload_n 1, 1) := by decide +kernel
theorem dX12_most_16 : decode cX12_most 16 = .ok (.iconst (-1), 1) := by decide +kernel
theorem dX12_most_17 : decode cX12_most 17 = .ok (.if_icmp .eq 16, 3) := by decide +kernel
theorem dX12_most_20 : decode cX12_most 20 = .ok (.aload_n 0, 1) := by decide +kernel
theorem dX12_most_21 : decode cX12_most 21 = .ok (.iload_n 2, 1) := by decide +kernel
theorem dX12_most_22 : decode cX12_most 22 = .ok (.invokevirtual 148, 3) := by decide +kernel
theorem dX12_most_25 : decode cX12_most 25 = .ok (.aload_n 0, 1) := by decide +kernel
theorem dX12_most_26 : decode cX12_most 26 = .ok (.iload_n 1, 1) := by decide +kernel
theorem dX12_most_27 : decode cX12_most 27 = .ok (.invokevirtual 148, 3) := by decide +kernel
theorem dX12_most_30 : decode cX12_most 30 = .ok (.if_icmp .le 5, 3) := by decide +kernel
theorem dX12_most_33 : decode cX12_most 33 = .ok (.iload_n 2, 1) := by decide +kernel
theorem dX12_most_34 : decode cX12_most 34 = .ok (.istore_n 1, 1) := by decide +kernel
theorem dX12_most_35 : decode cX12_most 35 = .ok (.iinc 2 1, 3) := by decide +kernel
theorem dX12_most_38 : decode cX12_most 38 = .ok (.goto (-34), 3) := by decide +kernel
theorem dX12_most_41 : decode cX12_most 41 = .ok (.iload_n 1, 1) := by decide +kernel
theorem dX12_most_42 : decode cX12_most 42 = .ok (.ireturn, 1) := by decide +kernel
theorem dX12_carriesOut_0 : decode cX12_carriesOut 0 = .ok (.aload_n 0, 1) := by decide +kernel
theorem dX12_carriesOut_1 : decode cX12_carriesOut 1 = .ok (.getfield 20, 3) := by decide +kernel
theorem dX12_carriesOut_4 : decode cX12_carriesOut 4 = .ok (.getfield 151, 3) := by decide +kernel
theorem dX12_carriesOut_7 : decode cX12_carriesOut 7 = .ok (.iload_n 1, 1) := by decide +kernel
theorem dX12_carriesOut_8 : decode cX12_carriesOut 8 = .ok (.iaload, 1) := by decide +kernel
theorem dX12_carriesOut_9 : decode cX12_carriesOut 9 = .ok (.iconst 1, 1) := by decide +kernel
theorem dX12_carriesOut_10 : decode cX12_carriesOut 10 = .ok (.if_icmp .ne 19, 3) := by decide +kernel
theorem dX12_carriesOut_13 : decode cX12_carriesOut 13 = .ok (.aload_n 0, 1) := by decide +kernel
theorem dX12_carriesOut_14 : decode cX12_carriesOut 14 = .ok (.aload_n 0, 1) := by decide +kernel
theorem dX12_carriesOut_15 : decode cX12_carriesOut 15 = .ok (.getfield 20, 3) := by decide +kernel
theorem dX12_carriesOut_18 : decode cX12_carriesOut 18 = .ok (.getfield 154, 3) := by decide +kernel
theorem dX12_carriesOut_21 : decode cX12_carriesOut 21 = .ok (.iload_n 1, 1) := by decide +kernel
theorem dX12_carriesOut_22 : decode cX12_carriesOut 22 = .ok (.laload, 1) := by decide +kernel
theorem dX12_carriesOut_23 : decode cX12_carriesOut 23 = .ok (.invokevirtual 157, 3) := by decide +kernel
theorem dX12_carriesOut_26 : decode cX12_carriesOut 26 = .ok (.goto 71, 3) := by decide +kernel
theorem dX12_carriesOut_29 : decode cX12_carriesOut 29 = .ok (.aload_n 0, 1) := by decide +kernel
theorem dX12_carriesOut_30 : decode cX12_carriesOut 30 = .ok (.getfield 20, 3) := by decide +kernel
theorem dX12_carriesOut_33 : decode cX12_carriesOut 33 = .ok (.getfield 151, 3) := by decide +kernel
theorem dX12_carriesOut_36 : decode cX12_carriesOut 36 = .ok (.iload_n 1, 1) := by decide +kernel
theorem dX12_carriesOut_37 : decode cX12_carriesOut 37 = .ok (.iaload, 1) := by decide +kernel
theorem dX12_carriesOut_38 : decode cX12_carriesOut 38 = .ok (.iconst 2, 1) := by decide +kernel
theorem dX12_carriesOut_39 : decode cX12_carriesOut 39 = .ok (.if_icmp .ne 19, 3) := by decide +kernel
theorem dX12_carriesOut_42 : decode cX12_carriesOut 42 = .ok (.aload_n 0, 1) := by decide +kernel
theorem dX12_carriesOut_43 : decode cX12_carriesOut 43 = .ok (.aload_n 0, 1) := by decide +kernel
theorem dX12_carriesOut_44 : decode cX12_carriesOut 44 = .ok (.getfield 20, 3) := by decide +kernel
theorem dX12_carriesOut_47 : decode cX12_carriesOut 47 = .ok (.getfield 161, 3) := by decide +kernel
theorem dX12_carriesOut_50 : decode cX12_carriesOut 50 = .ok (.iload_n 1, 1) := by decide +kernel
theorem dX12_carriesOut_51 : decode cX12_carriesOut 51 = .ok (.iaload, 1) := by decide +kernel
theorem dX12_carriesOut_52 : decode cX12_carriesOut 52 = .ok (.invokevirtual 164, 3) := by decide +kernel
theorem dX12_carriesOut_55 : decode cX12_carriesOut 55 = .ok (.goto 42, 3) := by decide +kernel
theorem dX12_carriesOut_58 : decode cX12_carriesOut 58 = .ok (.aload_n 0, 1) := by decide +kernel
theorem dX12_carriesOut_59 : decode cX12_carriesOut 59 = .ok (.iload_n 1, 1) := by decide +kernel
theorem dX12_carriesOut_60 : decode cX12_carriesOut 60 = .ok (.aload_n 0, 1) := by decide +kernel
theorem dX12_carriesOut_61 : decode cX12_carriesOut 61 = .ok (.getfield 61, 3) := by decide +kernel
theorem dX12_carriesOut_64 : decode cX12_carriesOut 64 = .ok (.iconst 0, 1) := by decide +kernel
theorem dX12_carriesOut_65 : decode cX12_carriesOut 65 = .ok (.aload_n 0, 1) := by decide +kernel
theorem dX12_carriesOut_66 : decode cX12_carriesOut 66 = .ok (.aload_n 0, 1) := by decide +kernel
theorem dX12_carriesOut_67 : decode cX12_carriesOut 67 = .ok (.getfield 20, 3) := by decide +kernel
theorem dX12_carriesOut_70 : decode cX12_carriesOut 70 = .ok (.getfield 167, 3) := by decide +kernel
theorem dX12_carriesOut_73 : decode cX12_carriesOut 73 = .ok (.iload_n 1, 1) := by decide +kernel
theorem dX12_carriesOut_74 : decode cX12_carriesOut 74 = .ok (.iaload, 1) := by decide +kernel
theorem dX12_carriesOut_75 : decode cX12_carriesOut 75 = .ok (.aload_n 0, 1) := by decide +kernel
theorem dX12_carriesOut_76 : decode cX12_carriesOut 76 = .ok (.getfield 20, 3) := by decide +kernel
theorem dX12_carriesOut_79 : decode cX12_carriesOut 79 = .ok (.getfield 170, 3) := by decide +kernel
theorem dX12_carriesOut_82 : decode cX12_carriesOut 82 = .ok (.iload_n 1, 1) := by decide +kernel
theorem dX12_carriesOut_83 : decode cX12_carriesOut 83 = .ok (.iaload, 1) := by decide +kernel
theorem dX12_carriesOut_84 : decode cX12_carriesOut 84 = .ok (.invokevirtual 173, 3) := by decide +kernel
theorem dX12_carriesOut_87 : decode cX12_carriesOut 87 = .ok (.invokestatic 120, 3) := by decide +kernel
theorem dX12_carriesOut_90 : decode cX12_carriesOut 90 = .ok (.invokestatic 176, 3) := by decide +kernel
theorem dX12_carriesOut_93 : decode cX12_carriesOut 93 = .ok (.invokevirtual 179, 3) := by decide +kernel
theorem dX12_carriesOut_96 : decode cX12_carriesOut 96 = .ok (.ireturn, 1) := by decide +kernel
theorem dX12_carriesOut_97 : decode cX12_carriesOut 97 = .ok (.iconst 1, 1) := by decide +kernel
theorem dX12_carriesOut_98 : decode cX12_carriesOut 98 = .ok (.ireturn, 1) := by decide +kernel
theorem dX12_isMany_0 : decode cX12_isMany 0 = .ok (.iload_n 2, 1) := by decide +kernel
theorem dX12_isMany_1 : decode cX12_isMany 1 = .ok (.ifCond .ne 5, 3) := by decide +kernel
theorem dX12_isMany_4 : decode cX12_isMany 4 = .ok (.iconst 0, 1) := by decide +kernel
theorem dX12_isMany_5 : decode cX12_isMany 5 = .ok (.ireturn, 1) := by decide +kernel
theorem dX12_isMany_6 : decode cX12_isMany 6 = .ok (.aload_n 0, 1) := by decide +kernel
theorem dX12_isMany_7 : decode cX12_isMany 7 = .ok (.getfield 20, 3) := by decide +kernel
theorem dX12_isMany_10 : decode cX12_isMany 10 = .ok (.getfield 151, 3) := by decide +kernel
theorem dX12_isMany_13 : decode cX12_isMany 13 = .ok (.iload_n 1, 1) := by decide +kernel
theorem dX12_isMany_14 : decode cX12_isMany 14 = .ok (.iaload, 1) := by decide +kernel
theorem dX12_isMany_15 : decode cX12_isMany 15 = .ok (.iconst 3, 1) := by decide +kernel
theorem dX12_isMany_16 : decode cX12_isMany 16 = .ok (.if_icmp .ne 11, 3) := by decide +kernel
theorem dX12_isMany_19 : decode cX12_isMany 19 = .ok (.aload_n 0, 1) := by decide +kernel
theorem dX12_isMany_20 : decode cX12_isMany 20 = .ok (.iload_n 2, 1) := by decide +kernel
theorem dX12_isMany_21 : decode cX12_isMany 21 = .ok (.invokevirtual 182, 3) := by decide +kernel
theorem dX12_isMany_24 : decode cX12_isMany 24 = .ok (.goto 8, 3) := by decide +kernel
theorem dX12_isMany_27 : decode cX12_isMany 27 = .ok (.aload_n 0, 1) := by decide +kernel
theorem dX12_isMany_28 : decode cX12_isMany 28 = .ok (.iload_n 2, 1) := by decide +kernel
theorem dX12_isMany_29 : decode cX12_isMany 29 = .ok (.invokevirtual 75, 3) := by decide +kernel
theorem dX12_isMany_32 : decode cX12_isMany 32 = .ok (.iconst 1, 1) := by decide +kernel
theorem dX12_isMany_33 : decode cX12_isMany 33 = .ok (.ireturn, 1) := by decide +kernel
theorem dX12_pass_0 : decode cX12_pass 0 = .ok (.aload_n 0, 1) := by decide +kernel
theorem dX12_pass_1 : decode cX12_pass 1 = .ok (.getfield 103, 3) := by decide +kernel
theorem dX12_pass_4 : decode cX12_pass 4 = .ok (.istore_n 2, 1) := by decide +kernel
theorem dX12_pass_5 : decode cX12_pass 5 = .ok (.iconst 0, 1) := by decide +kernel
theorem dX12_pass_6 : decode cX12_pass 6 = .ok (.istore_n 3, 1) := by decide +kernel
theorem dX12_pass_7 : decode cX12_pass 7 = .ok (.iload_n 3, 1) := by decide +kernel
theorem dX12_pass_8 : decode cX12_pass 8 = .ok (.iload_n 1, 1) := by decide +kernel
theorem dX12_pass_9 : decode cX12_pass 9 = .ok (.if_icmp .ge 126, 3) := by decide +kernel
theorem dX12_pass_12 : decode cX12_pass 12 = .ok (.iconst 0, 1) := by decide +kernel
theorem dX12_pass_13 : decode cX12_pass 13 = .ok (.istore 4, 2) := by decide +kernel
theorem dX12_pass_15 : decode cX12_pass 15 = .ok (.iload 4, 2) := by decide +kernel
theorem dX12_pass_17 : decode cX12_pass 17 = .ok (.aload_n 0, 1) := by decide +kernel
theorem dX12_pass_18 : decode cX12_pass 18 = .ok (.getfield 20, 3) := by decide +kernel
theorem dX12_pass_21 : decode cX12_pass 21 = .ok (.getfield 185, 3) := by decide +kernel
theorem dX12_pass_24 : decode cX12_pass 24 = .ok (.if_icmp .ge 95, 3) := by decide +kernel
theorem dX12_pass_27 : decode cX12_pass 27 = .ok (.aload_n 0, 1) := by decide +kernel
theorem dX12_pass_28 : decode cX12_pass 28 = .ok (.getfield 20, 3) := by decide +kernel
theorem dX12_pass_31 : decode cX12_pass 31 = .ok (.getfield 170, 3) := by decide +kernel
theorem dX12_pass_34 : decode cX12_pass 34 = .ok (.iload 4, 2) := by decide +kernel
theorem dX12_pass_36 : decode cX12_pass 36 = .ok (.iaload, 1) := by decide +kernel
theorem dX12_pass_37 : decode cX12_pass 37 = .ok (.aload_n 0, 1) := by decide +kernel
theorem dX12_pass_38 : decode cX12_pass 38 = .ok (.getfield 20, 3) := by decide +kernel
theorem dX12_pass_41 : decode cX12_pass 41 = .ok (.getfield 188, 3) := by decide +kernel
theorem dX12_pass_44 : decode cX12_pass 44 = .ok (.iload 4, 2) := by decide +kernel
theorem dX12_pass_46 : decode cX12_pass 46 = .ok (.iaload, 1) := by decide +kernel
theorem dX12_pass_47 : decode cX12_pass 47 = .ok (.if_icmp .eq 31, 3) := by decide +kernel
theorem dX12_pass_50 : decode cX12_pass 50 = .ok (.aload_n 0, 1) := by decide +kernel
theorem dX12_pass_51 : decode cX12_pass 51 = .ok (.aload_n 0, 1) := by decide +kernel
theorem dX12_pass_52 : decode cX12_pass 52 = .ok (.getfield 20, 3) := by decide +kernel
theorem dX12_pass_55 : decode cX12_pass 55 = .ok (.getfield 170, 3) := by decide +kernel
theorem dX12_pass_58 : decode cX12_pass 58 = .ok (.iload 4, 2) := by decide +kernel
theorem dX12_pass_60 : decode cX12_pass 60 = .ok (.iaload, 1) := by decide +kernel
theorem dX12_pass_61 : decode cX12_pass 61 = .ok (.aload_n 0, 1) := by decide +kernel
theorem dX12_pass_62 : decode cX12_pass 62 = .ok (.getfield 20, 3) := by decide +kernel
theorem dX12_pass_65 : decode cX12_pass 65 = .ok (.getfield 188, 3) := by decide +kernel
theorem dX12_pass_68 : decode cX12_pass 68 = .ok (.iload 4, 2) := by decide +kernel
theorem dX12_pass_70 : decode cX12_pass 70 = .ok (.iaload, 1) := by decide +kernel
theorem dX12_pass_71 : decode cX12_pass 71 = .ok (.invokevirtual 173, 3) := by decide +kernel
theorem dX12_pass_74 : decode cX12_pass 74 = .ok (.iconst 1, 1) := by decide +kernel
theorem dX12_pass_75 : decode cX12_pass 75 = .ok (.if_icmp .ne 7, 3) := by decide +kernel
theorem dX12_pass_78 : decode cX12_pass 78 = .ok (.iconst 1, 1) := by decide +kernel
theorem dX12_pass_79 : decode cX12_pass 79 = .ok (.goto 4, 3) := by decide +kernel
theorem dX12_pass_82 : decode cX12_pass 82 = .ok (.iconst 0, 1) := by decide +kernel
theorem dX12_pass_83 : decode cX12_pass 83 = .ok (.istore 5, 2) := by decide +kernel
theorem dX12_pass_85 : decode cX12_pass 85 = .ok (.aload_n 0, 1) := by decide +kernel
theorem dX12_pass_86 : decode cX12_pass 86 = .ok (.dup, 1) := by decide +kernel
theorem dX12_pass_87 : decode cX12_pass 87 = .ok (.getfield 103, 3) := by decide +kernel
theorem dX12_pass_90 : decode cX12_pass 90 = .ok (.iload 5, 2) := by decide +kernel
theorem dX12_pass_92 : decode cX12_pass 92 = .ok (.ifCond .eq 16, 3) := by decide +kernel
theorem dX12_pass_95 : decode cX12_pass 95 = .ok (.aload_n 0, 1) := by decide +kernel
theorem dX12_pass_96 : decode cX12_pass 96 = .ok (.iload 4, 2) := by decide +kernel
theorem dX12_pass_98 : decode cX12_pass 98 = .ok (.invokevirtual 191, 3) := by decide +kernel
theorem dX12_pass_101 : decode cX12_pass 101 = .ok (.ifCond .eq 7, 3) := by decide +kernel
theorem dX12_pass_104 : decode cX12_pass 104 = .ok (.iconst 1, 1) := by decide +kernel
theorem dX12_pass_105 : decode cX12_pass 105 = .ok (.goto 4, 3) := by decide +kernel
theorem dX12_pass_108 : decode cX12_pass 108 = .ok (.iconst 0, 1) := by decide +kernel
theorem dX12_pass_109 : decode cX12_pass 109 = .ok (.iadd, 1) := by decide +kernel
theorem dX12_pass_110 : decode cX12_pass 110 = .ok (.putfield 103, 3) := by decide +kernel
theorem dX12_pass_113 : decode cX12_pass 113 = .ok (.iinc 4 1, 3) := by decide +kernel
theorem dX12_pass_116 : decode cX12_pass 116 = .ok (.goto (-101), 3) := by decide +kernel
theorem dX12_pass_119 : decode cX12_pass 119 = .ok (.aload_n 0, 1) := by decide +kernel
theorem dX12_pass_120 : decode cX12_pass 120 = .ok (.dup, 1) := by decide +kernel
theorem dX12_pass_121 : decode cX12_pass 121 = .ok (.getfield 97, 3) := by decide +kernel
theorem dX12_pass_124 : decode cX12_pass 124 = .ok (.iconst 1, 1) := by decide +kernel
theorem dX12_pass_125 : decode cX12_pass 125 = .ok (.iadd, 1) := by decide +kernel
theorem dX12_pass_126 : decode cX12_pass 126 = .ok (.putfield 97, 3) := by decide +kernel
theorem dX12_pass_129 : decode cX12_pass 129 = .ok (.iinc 3 1, 3) := by decide +kernel
theorem dX12_pass_132 : decode cX12_pass 132 = .ok (.goto (-125), 3) := by decide +kernel
theorem dX12_pass_135 : decode cX12_pass 135 = .ok (.aload_n 0, 1) := by decide +kernel
theorem dX12_pass_136 : decode cX12_pass 136 = .ok (.getfield 103, 3) := by decide +kernel
theorem dX12_pass_139 : decode cX12_pass 139 = .ok (.iload_n 2, 1) := by decide +kernel
theorem dX12_pass_140 : decode cX12_pass 140 = .ok (.isub, 1) := by decide +kernel
theorem dX12_pass_141 : decode cX12_pass 141 = .ok (.ireturn, 1) := by decide +kernel
theorem dX12_one_0 : decode cX12_one 0 = .ok (.iload_n 0, 1) := by decide +kernel
theorem dX12_one_1 : decode cX12_one 1 = .ok (.ifCond .eq 7, 3) := by decide +kernel
theorem dX12_one_4 : decode cX12_one 4 = .ok (.iconst 1, 1) := by decide +kernel
theorem dX12_one_5 : decode cX12_one 5 = .ok (.goto 4, 3) := by decide +kernel
theorem dX12_one_8 : decode cX12_one 8 = .ok (.iconst 0, 1) := by decide +kernel
theorem dX12_one_9 : decode cX12_one 9 = .ok (.ireturn, 1) := by decide +kernel
theorem dX12_ask_0 : decode cX12_ask 0 = .ok (.iload_n 1, 1) := by decide +kernel
theorem dX12_ask_1 : decode cX12_ask 1 = .ok (.lookupswitch 101 #[(6, 69), (7, 74), (8, 79), (9, 84), (10, 89), (11, 95), (100, 67)], 67) := by decide +kernel
theorem dX12_ask_68 : decode cX12_ask 68 = .ok (.iload_n 2, 1) := by decide +kernel
theorem dX12_ask_69 : decode cX12_ask 69 = .ok (.ireturn, 1) := by decide +kernel
theorem dX12_ask_70 : decode cX12_ask 70 = .ok (.aload_n 0, 1) := by decide +kernel
theorem dX12_ask_71 : decode cX12_ask 71 = .ok (.getfield 97, 3) := by decide +kernel
theorem dX12_ask_74 : decode cX12_ask 74 = .ok (.ireturn, 1) := by decide +kernel
theorem dX12_ask_75 : decode cX12_ask 75 = .ok (.aload_n 0, 1) := by decide +kernel
theorem dX12_ask_76 : decode cX12_ask 76 = .ok (.getfield 61, 3) := by decide +kernel
theorem dX12_ask_79 : decode cX12_ask 79 = .ok (.ireturn, 1) := by decide +kernel
theorem dX12_ask_80 : decode cX12_ask 80 = .ok (.aload_n 0, 1) := by decide +kernel
theorem dX12_ask_81 : decode cX12_ask 81 = .ok (.invokevirtual 125, 3) := by decide +kernel
theorem dX12_ask_84 : decode cX12_ask 84 = .ok (.ireturn, 1) := by decide +kernel
theorem dX12_ask_85 : decode cX12_ask 85 = .ok (.aload_n 0, 1) := by decide +kernel
theorem dX12_ask_86 : decode cX12_ask 86 = .ok (.invokevirtual 195, 3) := by decide +kernel
theorem dX12_ask_89 : decode cX12_ask 89 = .ok (.ireturn, 1) := by decide +kernel
theorem dX12_ask_90 : decode cX12_ask 90 = .ok (.aload_n 0, 1) := by decide +kernel
theorem dX12_ask_91 : decode cX12_ask 91 = .ok (.iload_n 2, 1) := by decide +kernel
theorem dX12_ask_92 : decode cX12_ask 92 = .ok (.invokevirtual 148, 3) := by decide +kernel
theorem dX12_ask_95 : decode cX12_ask 95 = .ok (.ireturn, 1) := by decide +kernel
theorem dX12_ask_96 : decode cX12_ask 96 = .ok (.aload_n 0, 1) := by decide +kernel
theorem dX12_ask_97 : decode cX12_ask 97 = .ok (.iload_n 2, 1) := by decide +kernel
theorem dX12_ask_98 : decode cX12_ask 98 = .ok (.invokevirtual 198, 3) := by decide +kernel
theorem dX12_ask_101 : decode cX12_ask 101 = .ok (.ireturn, 1) := by decide +kernel
theorem dX12_ask_102 : decode cX12_ask 102 = .ok (.aload_n 0, 1) := by decide +kernel
theorem dX12_ask_103 : decode cX12_ask 103 = .ok (.iload_n 2, 1) := by decide +kernel
theorem dX12_ask_104 : decode cX12_ask 104 = .ok (.invokevirtual 198, 3) := by decide +kernel
theorem dX12_ask_107 : decode cX12_ask 107 = .ok (.iconst (-1), 1) := by decide +kernel
theorem dX12_ask_108 : decode cX12_ask 108 = .ok (.if_icmp .eq 7, 3) := by decide +kernel
theorem dX12_ask_111 : decode cX12_ask 111 = .ok (.iconst 1, 1) := by decide +kernel
theorem dX12_ask_112 : decode cX12_ask 112 = .ok (.goto 4, 3) := by decide +kernel
theorem dX12_ask_115 : decode cX12_ask 115 = .ok (.iconst 0, 1) := by decide +kernel
theorem dX12_ask_116 : decode cX12_ask 116 = .ok (.invokestatic 201, 3) := by decide +kernel
theorem dX12_ask_119 : decode cX12_ask 119 = .ok (.ireturn, 1) := by decide +kernel
theorem dX12_isAsked_0 : decode cX12_isAsked 0 = .ok (.iload_n 0, 1) := by decide +kernel
theorem dX12_isAsked_1 : decode cX12_isAsked 1 = .ok (.bipush 100, 2) := by decide +kernel
theorem dX12_isAsked_3 : decode cX12_isAsked 3 = .ok (.if_icmp .eq 20, 3) := by decide +kernel
theorem dX12_isAsked_6 : decode cX12_isAsked 6 = .ok (.iload_n 0, 1) := by decide +kernel
theorem dX12_isAsked_7 : decode cX12_isAsked 7 = .ok (.bipush 6, 2) := by decide +kernel
theorem dX12_isAsked_9 : decode cX12_isAsked 9 = .ok (.bipush 11, 2) := by decide +kernel
theorem dX12_isAsked_11 : decode cX12_isAsked 11 = .ok (.invokestatic 64, 3) := by decide +kernel
theorem dX12_isAsked_14 : decode cX12_isAsked 14 = .ok (.ifCond .ne 9, 3) := by decide +kernel
theorem dX12_isAsked_17 : decode cX12_isAsked 17 = .ok (.iload_n 0, 1) := by decide +kernel
theorem dX12_isAsked_18 : decode cX12_isAsked 18 = .ok (.bipush 13, 2) := by decide +kernel
theorem dX12_isAsked_20 : decode cX12_isAsked 20 = .ok (.if_icmp .ne 7, 3) := by decide +kernel
theorem dX12_isAsked_23 : decode cX12_isAsked 23 = .ok (.iconst 1, 1) := by decide +kernel
theorem dX12_isAsked_24 : decode cX12_isAsked 24 = .ok (.goto 4, 3) := by decide +kernel
theorem dX12_isAsked_27 : decode cX12_isAsked 27 = .ok (.iconst 0, 1) := by decide +kernel
theorem dX12_isAsked_28 : decode cX12_isAsked 28 = .ok (.ireturn, 1) := by decide +kernel
theorem dX12_reckon_0 : decode cX12_reckon 0 = .ok (.iload_n 0, 1) := by decide +kernel
theorem dX12_reckon_1 : decode cX12_reckon 1 = .ok (.lookupswitch 217 #[(15, 213), (17, 131), (18, 137), (101, 107), (102, 111), (103, 115), (104, 119), (106, 143), (107, 157), (108, 171), (109, 185), (110, 199)], 107) := by decide +kernel
theorem dX12_reckon_108 : decode cX12_reckon 108 = .ok (.iload_n 1, 1) := by decide +kernel
theorem dX12_reckon_109 : decode cX12_reckon 109 = .ok (.iload_n 2, 1) := by decide +kernel
theorem dX12_reckon_110 : decode cX12_reckon 110 = .ok (.iadd, 1) := by decide +kernel
theorem dX12_reckon_111 : decode cX12_reckon 111 = .ok (.ireturn, 1) := by decide +kernel
theorem dX12_reckon_112 : decode cX12_reckon 112 = .ok (.iload_n 1, 1) := by decide +kernel
theorem dX12_reckon_113 : decode cX12_reckon 113 = .ok (.iload_n 2, 1) := by decide +kernel
theorem dX12_reckon_114 : decode cX12_reckon 114 = .ok (.isub, 1) := by decide +kernel
theorem dX12_reckon_115 : decode cX12_reckon 115 = .ok (.ireturn, 1) := by decide +kernel
theorem dX12_reckon_116 : decode cX12_reckon 116 = .ok (.iload_n 1, 1) := by decide +kernel
theorem dX12_reckon_117 : decode cX12_reckon 117 = .ok (.iload_n 2, 1) := by decide +kernel
theorem dX12_reckon_118 : decode cX12_reckon 118 = .ok (.imul, 1) := by decide +kernel
theorem dX12_reckon_119 : decode cX12_reckon 119 = .ok (.ireturn, 1) := by decide +kernel
theorem dX12_reckon_120 : decode cX12_reckon 120 = .ok (.iload_n 2, 1) := by decide +kernel
theorem dX12_reckon_121 : decode cX12_reckon 121 = .ok (.ifCond .ne 7, 3) := by decide +kernel
theorem dX12_reckon_124 : decode cX12_reckon 124 = .ok (.iconst 0, 1) := by decide +kernel
theorem dX12_reckon_125 : decode cX12_reckon 125 = .ok (.goto 6, 3) := by decide +kernel
theorem dX12_reckon_128 : decode cX12_reckon 128 = .ok (.iload_n 1, 1) := by decide +kernel
theorem dX12_reckon_129 : decode cX12_reckon 129 = .ok (.iload_n 2, 1) := by decide +kernel
theorem dX12_reckon_130 : decode cX12_reckon 130 = .ok (.idiv, 1) := by decide +kernel
theorem dX12_reckon_131 : decode cX12_reckon 131 = .ok (.ireturn, 1) := by decide +kernel
theorem dX12_reckon_132 : decode cX12_reckon 132 = .ok (.iload_n 1, 1) := by decide +kernel
theorem dX12_reckon_133 : decode cX12_reckon 133 = .ok (.iload_n 2, 1) := by decide +kernel
theorem dX12_reckon_134 : decode cX12_reckon 134 = .ok (.invokestatic 176, 3) := by decide +kernel
theorem dX12_reckon_137 : decode cX12_reckon 137 = .ok (.ireturn, 1) := by decide +kernel
theorem dX12_reckon_138 : decode cX12_reckon 138 = .ok (.iload_n 1, 1) := by decide +kernel
theorem dX12_reckon_139 : decode cX12_reckon 139 = .ok (.iload_n 2, 1) := by decide +kernel
theorem dX12_reckon_140 : decode cX12_reckon 140 = .ok (.invokestatic 120, 3) := by decide +kernel
theorem dX12_reckon_143 : decode cX12_reckon 143 = .ok (.ireturn, 1) := by decide +kernel
theorem dX12_reckon_144 : decode cX12_reckon 144 = .ok (.iload_n 1, 1) := by decide +kernel
theorem dX12_reckon_145 : decode cX12_reckon 145 = .ok (.iload_n 2, 1) := by decide +kernel
theorem dX12_reckon_146 : decode cX12_reckon 146 = .ok (.if_icmp .ge 7, 3) := by decide +kernel
theorem dX12_reckon_149 : decode cX12_reckon 149 = .ok (.iconst 1, 1) := by decide +kernel
theorem dX12_reckon_150 : decode cX12_reckon 150 = .ok (.goto 4, 3) := by decide +kernel
theorem dX12_reckon_153 : decode cX12_reckon 153 = .ok (.iconst 0, 1) := by decide +kernel
theorem dX12_reckon_154 : decode cX12_reckon 154 = .ok (.invokestatic 201, 3) := by decide +kernel
theorem dX12_reckon_157 : decode cX12_reckon 157 = .ok (.ireturn, 1) := by decide +kernel
theorem dX12_reckon_158 : decode cX12_reckon 158 = .ok (.iload_n 1, 1) := by decide +kernel
theorem dX12_reckon_159 : decode cX12_reckon 159 = .ok (.iload_n 2, 1) := by decide +kernel
theorem dX12_reckon_160 : decode cX12_reckon 160 = .ok (.if_icmp .le 7, 3) := by decide +kernel
theorem dX12_reckon_163 : decode cX12_reckon 163 = .ok (.iconst 1, 1) := by decide +kernel
theorem dX12_reckon_164 : decode cX12_reckon 164 = .ok (.goto 4, 3) := by decide +kernel
theorem dX12_reckon_167 : decode cX12_reckon 167 = .ok (.iconst 0, 1) := by decide +kernel
theorem dX12_reckon_168 : decode cX12_reckon 168 = .ok (.invokestatic 201, 3) := by decide +kernel
theorem dX12_reckon_171 : decode cX12_reckon 171 = .ok (.ireturn, 1) := by decide +kernel
theorem dX12_reckon_172 : decode cX12_reckon 172 = .ok (.iload_n 1, 1) := by decide +kernel
theorem dX12_reckon_173 : decode cX12_reckon 173 = .ok (.iload_n 2, 1) := by decide +kernel
theorem dX12_reckon_174 : decode cX12_reckon 174 = .ok (.if_icmp .ne 7, 3) := by decide +kernel
theorem dX12_reckon_177 : decode cX12_reckon 177 = .ok (.iconst 1, 1) := by decide +kernel
theorem dX12_reckon_178 : decode cX12_reckon 178 = .ok (.goto 4, 3) := by decide +kernel
theorem dX12_reckon_181 : decode cX12_reckon 181 = .ok (.iconst 0, 1) := by decide +kernel
theorem dX12_reckon_182 : decode cX12_reckon 182 = .ok (.invokestatic 201, 3) := by decide +kernel
theorem dX12_reckon_185 : decode cX12_reckon 185 = .ok (.ireturn, 1) := by decide +kernel
theorem dX12_reckon_186 : decode cX12_reckon 186 = .ok (.iload_n 1, 1) := by decide +kernel
theorem dX12_reckon_187 : decode cX12_reckon 187 = .ok (.iload_n 2, 1) := by decide +kernel
theorem dX12_reckon_188 : decode cX12_reckon 188 = .ok (.if_icmp .gt 7, 3) := by decide +kernel
theorem dX12_reckon_191 : decode cX12_reckon 191 = .ok (.iconst 1, 1) := by decide +kernel
theorem dX12_reckon_192 : decode cX12_reckon 192 = .ok (.goto 4, 3) := by decide +kernel
theorem dX12_reckon_195 : decode cX12_reckon 195 = .ok (.iconst 0, 1) := by decide +kernel
theorem dX12_reckon_196 : decode cX12_reckon 196 = .ok (.invokestatic 201, 3) := by decide +kernel
theorem dX12_reckon_199 : decode cX12_reckon 199 = .ok (.ireturn, 1) := by decide +kernel
theorem dX12_reckon_200 : decode cX12_reckon 200 = .ok (.iload_n 1, 1) := by decide +kernel
theorem dX12_reckon_201 : decode cX12_reckon 201 = .ok (.iload_n 2, 1) := by decide +kernel
theorem dX12_reckon_202 : decode cX12_reckon 202 = .ok (.if_icmp .lt 7, 3) := by decide +kernel
theorem dX12_reckon_205 : decode cX12_reckon 205 = .ok (.iconst 1, 1) := by decide +kernel
theorem dX12_reckon_206 : decode cX12_reckon 206 = .ok (.goto 4, 3) := by decide +kernel
theorem dX12_reckon_209 : decode cX12_reckon 209 = .ok (.iconst 0, 1) := by decide +kernel
theorem dX12_reckon_210 : decode cX12_reckon 210 = .ok (.invokestatic 201, 3) := by decide +kernel
theorem dX12_reckon_213 : decode cX12_reckon 213 = .ok (.ireturn, 1) := by decide +kernel
theorem dX12_reckon_214 : decode cX12_reckon 214 = .ok (.iload_n 1, 1) := by decide +kernel
theorem dX12_reckon_215 : decode cX12_reckon 215 = .ok (.iload_n 2, 1) := by decide +kernel
theorem dX12_reckon_216 : decode cX12_reckon 216 = .ok (.iand, 1) := by decide +kernel
theorem dX12_reckon_217 : decode cX12_reckon 217 = .ok (.ireturn, 1) := by decide +kernel
theorem dX12_reckon_218 : decode cX12_reckon 218 = .ok (.iload_n 1, 1) := by decide +kernel
theorem dX12_reckon_219 : decode cX12_reckon 219 = .ok (.iload_n 2, 1) := by decide +kernel
theorem dX12_reckon_220 : decode cX12_reckon 220 = .ok (.ior, 1) := by decide +kernel
theorem dX12_reckon_221 : decode cX12_reckon 221 = .ok (.ireturn, 1) := by decide +kernel
theorem dX12_result_0 : decode cX12_result 0 = .ok (.iconst 0, 1) := by decide +kernel
theorem dX12_result_1 : decode cX12_result 1 = .ok (.istore_n 3, 1) := by decide +kernel
theorem dX12_result_2 : decode cX12_result 2 = .ok (.iload_n 1, 1) := by decide +kernel
theorem dX12_result_3 : decode cX12_result 3 = .ok (.istore 4, 2) := by decide +kernel
theorem dX12_result_5 : decode cX12_result 5 = .ok (.iload 4, 2) := by decide +kernel
theorem dX12_result_7 : decode cX12_result 7 = .ok (.iload_n 2, 1) := by decide +kernel
theorem dX12_result_8 : decode cX12_result 8 = .ok (.if_icmp .ge 142, 3) := by decide +kernel
theorem dX12_result_11 : decode cX12_result 11 = .ok (.aload_n 0, 1) := by decide +kernel
theorem dX12_result_12 : decode cX12_result 12 = .ok (.getfield 20, 3) := by decide +kernel
theorem dX12_result_15 : decode cX12_result 15 = .ok (.getfield 205, 3) := by decide +kernel
theorem dX12_result_18 : decode cX12_result 18 = .ok (.iload 4, 2) := by decide +kernel
theorem dX12_result_20 : decode cX12_result 20 = .ok (.iaload, 1) := by decide +kernel
theorem dX12_result_21 : decode cX12_result 21 = .ok (.istore 5, 2) := by decide +kernel
theorem dX12_result_23 : decode cX12_result 23 = .ok (.iload 5, 2) := by decide +kernel
theorem dX12_result_25 : decode cX12_result 25 = .ok (.invokestatic 208, 3) := by decide +kernel
theorem dX12_result_28 : decode cX12_result 28 = .ok (.ifCond .eq 31, 3) := by decide +kernel
theorem dX12_result_31 : decode cX12_result 31 = .ok (.aload_n 0, 1) := by decide +kernel
theorem dX12_result_32 : decode cX12_result 32 = .ok (.getfield 52, 3) := by decide +kernel
theorem dX12_result_35 : decode cX12_result 35 = .ok (.iload_n 3, 1) := by decide +kernel
theorem dX12_result_36 : decode cX12_result 36 = .ok (.aload_n 0, 1) := by decide +kernel
theorem dX12_result_37 : decode cX12_result 37 = .ok (.iload 5, 2) := by decide +kernel
theorem dX12_result_39 : decode cX12_result 39 = .ok (.aload_n 0, 1) := by decide +kernel
theorem dX12_result_40 : decode cX12_result 40 = .ok (.getfield 20, 3) := by decide +kernel
theorem dX12_result_43 : decode cX12_result 43 = .ok (.getfield 211, 3) := by decide +kernel
theorem dX12_result_46 : decode cX12_result 46 = .ok (.iload 4, 2) := by decide +kernel
theorem dX12_result_48 : decode cX12_result 48 = .ok (.iaload, 1) := by decide +kernel
theorem dX12_result_49 : decode cX12_result 49 = .ok (.invokevirtual 214, 3) := by decide +kernel
theorem dX12_result_52 : decode cX12_result 52 = .ok (.iastore, 1) := by decide +kernel
theorem dX12_result_53 : decode cX12_result 53 = .ok (.iinc 3 1, 3) := by decide +kernel
theorem dX12_result_56 : decode cX12_result 56 = .ok (.goto 88, 3) := by decide +kernel
theorem dX12_result_59 : decode cX12_result 59 = .ok (.iload 5, 2) := by decide +kernel
theorem dX12_result_61 : decode cX12_result 61 = .ok (.bipush 105, 2) := by decide +kernel
theorem dX12_result_63 : decode cX12_result 63 = .ok (.if_icmp .ne 23, 3) := by decide +kernel
theorem dX12_result_66 : decode cX12_result 66 = .ok (.aload_n 0, 1) := by decide +kernel
theorem dX12_result_67 : decode cX12_result 67 = .ok (.getfield 52, 3) := by decide +kernel
theorem dX12_result_70 : decode cX12_result 70 = .ok (.iload_n 3, 1) := by decide +kernel
theorem dX12_result_71 : decode cX12_result 71 = .ok (.iconst 1, 1) := by decide +kernel
theorem dX12_result_72 : decode cX12_result 72 = .ok (.isub, 1) := by decide +kernel
theorem dX12_result_73 : decode cX12_result 73 = .ok (.aload_n 0, 1) := by decide +kernel
theorem dX12_result_74 : decode cX12_result 74 = .ok (.getfield 52, 3) := by decide +kernel
theorem dX12_result_77 : decode cX12_result 77 = .ok (.iload_n 3, 1) := by decide +kernel
theorem dX12_result_78 : decode cX12_result 78 = .ok (.iconst 1, 1) := by decide +kernel
theorem dX12_result_79 : decode cX12_result 79 = .ok (.isub, 1) := by decide +kernel
theorem dX12_result_80 : decode cX12_result 80 = .ok (.iaload, 1) := by decide +kernel
theorem dX12_result_81 : decode cX12_result 81 = .ok (.ineg, 1) := by decide +kernel
theorem dX12_result_82 : decode cX12_result 82 = .ok (.iastore, 1) := by decide +kernel
theorem dX12_result_83 : decode cX12_result 83 = .ok (.goto 61, 3) := by decide +kernel
theorem dX12_result_86 : decode cX12_result 86 = .ok (.iload 5, 2) := by decide +kernel
theorem dX12_result_88 : decode cX12_result 88 = .ok (.bipush 14, 2) := by decide +kernel
theorem dX12_result_90 : decode cX12_result 90 = .ok (.if_icmp .ne 24, 3) := by decide +kernel
theorem dX12_result_93 : decode cX12_result 93 = .ok (.aload_n 0, 1) := by decide +kernel
theorem dX12_result_94 : decode cX12_result 94 = .ok (.getfield 52, 3) := by decide +kernel
theorem dX12_result_97 : decode cX12_result 97 = .ok (.iload_n 3, 1) := by decide +kernel
theorem dX12_result_98 : decode cX12_result 98 = .ok (.iconst 1, 1) := by decide +kernel
theorem dX12_result_99 : decode cX12_result 99 = .ok (.isub, 1) := by decide +kernel
theorem dX12_result_100 : decode cX12_result 100 = .ok (.iconst 1, 1) := by decide +kernel
theorem dX12_result_101 : decode cX12_result 101 = .ok (.aload_n 0, 1) := by decide +kernel
theorem dX12_result_102 : decode cX12_result 102 = .ok (.getfield 52, 3) := by decide +kernel
theorem dX12_result_105 : decode cX12_result 105 = .ok (.iload_n 3, 1) := by decide +kernel
theorem dX12_result_106 : decode cX12_result 106 = .ok (.iconst 1, 1) := by decide +kernel
theorem dX12_result_107 : decode cX12_result 107 = .ok (.isub, 1) := by decide +kernel
theorem dX12_result_108 : decode cX12_result 108 = .ok (.iaload, 1) := by decide +kernel
theorem dX12_result_109 : decode cX12_result 109 = .ok (.isub, 1) := by decide +kernel
theorem dX12_result_110 : decode cX12_result 110 = .ok (.iastore, 1) := by decide +kernel
theorem dX12_result_111 : decode cX12_result 111 = .ok (.goto 33, 3) := by decide +kernel
theorem dX12_result_114 : decode cX12_result 114 = .ok (.iinc 3 (-1), 3) := by decide +kernel
theorem dX12_result_117 : decode cX12_result 117 = .ok (.aload_n 0, 1) := by decide +kernel
theorem dX12_result_118 : decode cX12_result 118 = .ok (.getfield 52, 3) := by decide +kernel
theorem dX12_result_121 : decode cX12_result 121 = .ok (.iload_n 3, 1) := by decide +kernel
theorem dX12_result_122 : decode cX12_result 122 = .ok (.iconst 1, 1) := by decide +kernel
theorem dX12_result_123 : decode cX12_result 123 = .ok (.isub, 1) := by decide +kernel
theorem dX12_result_124 : decode cX12_result 124 = .ok (.iload 5, 2) := by decide +kernel
theorem dX12_result_126 : decode cX12_result 126 = .ok (.aload_n 0, 1) := by decide +kernel
theorem dX12_result_127 : decode cX12_result 127 = .ok (.getfield 52, 3) := by decide +kernel
theorem dX12_result_130 : decode cX12_result 130 = .ok (.iload_n 3, 1) := by decide +kernel
theorem dX12_result_131 : decode cX12_result 131 = .ok (.iconst 1, 1) := by decide +kernel
theorem dX12_result_132 : decode cX12_result 132 = .ok (.isub, 1) := by decide +kernel
theorem dX12_result_133 : decode cX12_result 133 = .ok (.iaload, 1) := by decide +kernel
theorem dX12_result_134 : decode cX12_result 134 = .ok (.aload_n 0, 1) := by decide +kernel
theorem dX12_result_135 : decode cX12_result 135 = .ok (.getfield 52, 3) := by decide +kernel
theorem dX12_result_138 : decode cX12_result 138 = .ok (.iload_n 3, 1) := by decide +kernel
theorem dX12_result_139 : decode cX12_result 139 = .ok (.iaload, 1) := by decide +kernel
theorem dX12_result_140 : decode cX12_result 140 = .ok (.invokestatic 217, 3) := by decide +kernel
theorem dX12_result_143 : decode cX12_result 143 = .ok (.iastore, 1) := by decide +kernel
theorem dX12_result_144 : decode cX12_result 144 = .ok (.iinc 4 1, 3) := by decide +kernel
theorem dX12_result_147 : decode cX12_result 147 = .ok (.goto (-142), 3) := by decide +kernel
theorem dX12_result_150 : decode cX12_result 150 = .ok (.aload_n 0, 1) := by decide +kernel
theorem dX12_result_151 : decode cX12_result 151 = .ok (.getfield 52, 3) := by decide +kernel
theorem dX12_result_154 : decode cX12_result 154 = .ok (.iconst 0, 1) := by decide +kernel
theorem dX12_result_155 : decode cX12_result 155 = .ok (.iaload, 1) := by decide +kernel
theorem dX12_result_156 : decode cX12_result 156 = .ok (.ireturn, 1) := by decide +kernel
theorem dX12_byteOf_0 : decode cX12_byteOf 0 = .ok (.iload_n 1, 1) := by decide +kernel
theorem dX12_byteOf_1 : decode cX12_byteOf 1 = .ok (.aload_n 0, 1) := by decide +kernel
theorem dX12_byteOf_2 : decode cX12_byteOf 2 = .ok (.getfield 221, 3) := by decide +kernel
theorem dX12_byteOf_5 : decode cX12_byteOf 5 = .ok (.if_icmp .ge 12, 3) := by decide +kernel
theorem dX12_byteOf_8 : decode cX12_byteOf 8 = .ok (.aload_n 0, 1) := by decide +kernel
theorem dX12_byteOf_9 : decode cX12_byteOf 9 = .ok (.getfield 9, 3) := by decide +kernel
theorem dX12_byteOf_12 : decode cX12_byteOf 12 = .ok (.iload_n 1, 1) := by decide +kernel
theorem dX12_byteOf_13 : decode cX12_byteOf 13 = .ok (.iaload, 1) := by decide +kernel
theorem dX12_byteOf_14 : decode cX12_byteOf 14 = .ok (.goto 4, 3) := by decide +kernel
theorem dX12_byteOf_17 : decode cX12_byteOf 17 = .ok (.iconst (-1), 1) := by decide +kernel
theorem dX12_byteOf_18 : decode cX12_byteOf 18 = .ok (.ireturn, 1) := by decide +kernel
theorem dX12_isSmall_0 : decode cX12_isSmall 0 = .ok (.iload_n 0, 1) := by decide +kernel
theorem dX12_isSmall_1 : decode cX12_isSmall 1 = .ok (.bipush 97, 2) := by decide +kernel
theorem dX12_isSmall_3 : decode cX12_isSmall 3 = .ok (.if_icmp .lt 13, 3) := by decide +kernel
theorem dX12_isSmall_6 : decode cX12_isSmall 6 = .ok (.iload_n 0, 1) := by decide +kernel
theorem dX12_isSmall_7 : decode cX12_isSmall 7 = .ok (.bipush 122, 2) := by decide +kernel
theorem dX12_isSmall_9 : decode cX12_isSmall 9 = .ok (.if_icmp .gt 7, 3) := by decide +kernel
theorem dX12_isSmall_12 : decode cX12_isSmall 12 = .ok (.iconst 1, 1) := by decide +kernel
theorem dX12_isSmall_13 : decode cX12_isSmall 13 = .ok (.goto 4, 3) := by decide +kernel
theorem dX12_isSmall_16 : decode cX12_isSmall 16 = .ok (.iconst 0, 1) := by decide +kernel
theorem dX12_isSmall_17 : decode cX12_isSmall 17 = .ok (.ireturn, 1) := by decide +kernel
theorem dX12_isDigit_0 : decode cX12_isDigit 0 = .ok (.iload_n 0, 1) := by decide +kernel
theorem dX12_isDigit_1 : decode cX12_isDigit 1 = .ok (.bipush 48, 2) := by decide +kernel
theorem dX12_isDigit_3 : decode cX12_isDigit 3 = .ok (.if_icmp .lt 13, 3) := by decide +kernel
theorem dX12_isDigit_6 : decode cX12_isDigit 6 = .ok (.iload_n 0, 1) := by decide +kernel
theorem dX12_isDigit_7 : decode cX12_isDigit 7 = .ok (.bipush 57, 2) := by decide +kernel
theorem dX12_isDigit_9 : decode cX12_isDigit 9 = .ok (.if_icmp .gt 7, 3) := by decide +kernel
theorem dX12_isDigit_12 : decode cX12_isDigit 12 = .ok (.iconst 1, 1) := by decide +kernel
theorem dX12_isDigit_13 : decode cX12_isDigit 13 = .ok (.goto 4, 3) := by decide +kernel
theorem dX12_isDigit_16 : decode cX12_isDigit 16 = .ok (.iconst 0, 1) := by decide +kernel
theorem dX12_isDigit_17 : decode cX12_isDigit 17 = .ok (.ireturn, 1) := by decide +kernel
theorem dX12_endOf_0 : decode cX12_endOf 0 = .ok (.aload_n 0, 1) := by decide +kernel
theorem dX12_endOf_1 : decode cX12_endOf 1 = .ok (.iload_n 1, 1) := by decide +kernel
theorem dX12_endOf_2 : decode cX12_endOf 2 = .ok (.invokevirtual 224, 3) := by decide +kernel
theorem dX12_endOf_5 : decode cX12_endOf 5 = .ok (.istore_n 2, 1) := by decide +kernel
theorem dX12_endOf_6 : decode cX12_endOf 6 = .ok (.iload_n 1, 1) := by decide +kernel
theorem dX12_endOf_7 : decode cX12_endOf 7 = .ok (.iconst 1, 1) := by decide +kernel
theorem dX12_endOf_8 : decode cX12_endOf 8 = .ok (.iadd, 1) := by decide +kernel
theorem dX12_endOf_9 : decode cX12_endOf 9 = .ok (.istore_n 3, 1) := by decide +kernel
theorem dX12_endOf_10 : decode cX12_endOf 10 = .ok (.iload_n 2, 1) := by decide +kernel
theorem dX12_endOf_11 : decode cX12_endOf 11 = .ok (.invokestatic 227, 3) := by decide +kernel
theorem dX12_endOf_14 : decode cX12_endOf 14 = .ok (.ifCond .eq 31, 3) := by decide +kernel
theorem dX12_endOf_17 : decode cX12_endOf 17 = .ok (.aload_n 0, 1) := by decide +kernel
theorem dX12_endOf_18 : decode cX12_endOf 18 = .ok (.iload_n 3, 1) := by decide +kernel
theorem dX12_endOf_19 : decode cX12_endOf 19 = .ok (.invokevirtual 224, 3) := by decide +kernel
theorem dX12_endOf_22 : decode cX12_endOf 22 = .ok (.invokestatic 227, 3) := by decide +kernel
theorem dX12_endOf_25 : decode cX12_endOf 25 = .ok (.ifCond .ne 14, 3) := by decide +kernel
theorem dX12_endOf_28 : decode cX12_endOf 28 = .ok (.aload_n 0, 1) := by decide +kernel
theorem dX12_endOf_29 : decode cX12_endOf 29 = .ok (.iload_n 3, 1) := by decide +kernel
theorem dX12_endOf_30 : decode cX12_endOf 30 = .ok (.invokevirtual 224, 3) := by decide +kernel
theorem dX12_endOf_33 : decode cX12_endOf 33 = .ok (.invokestatic 230, 3) := by decide +kernel
theorem dX12_endOf_36 : decode cX12_endOf 36 = .ok (.ifCond .eq 9, 3) := by decide +kernel
theorem dX12_endOf_39 : decode cX12_endOf 39 = .ok (.iinc 3 1, 3) := by decide +kernel
theorem dX12_endOf_42 : decode cX12_endOf 42 = .ok (.goto (-25), 3) := by decide +kernel
theorem dX12_endOf_45 : decode cX12_endOf 45 = .ok (.iload_n 2, 1) := by decide +kernel
theorem dX12_endOf_46 : decode cX12_endOf 46 = .ok (.invokestatic 230, 3) := by decide +kernel
theorem dX12_endOf_49 : decode cX12_endOf 49 = .ok (.ifCond .eq 20, 3) := by decide +kernel
theorem dX12_endOf_52 : decode cX12_endOf 52 = .ok (.aload_n 0, 1) := by decide +kernel
theorem dX12_endOf_53 : decode cX12_endOf 53 = .ok (.iload_n 3, 1) := by decide +kernel
theorem dX12_endOf_54 : decode cX12_endOf 54 = .ok (.invokevirtual 224, 3) := by decide +kernel
theorem dX12_endOf_57 : decode cX12_endOf 57 = .ok (.invokestatic 230, 3) := by decide +kernel
theorem dX12_endOf_60 : decode cX12_endOf 60 = .ok (.ifCond .eq 9, 3) := by decide +kernel
theorem dX12_endOf_63 : decode cX12_endOf 63 = .ok (.iinc 3 1, 3) := by decide +kernel
theorem dX12_endOf_66 : decode cX12_endOf 66 = .ok (.goto (-14), 3) := by decide +kernel
theorem dX12_endOf_69 : decode cX12_endOf 69 = .ok (.iload_n 2, 1) := by decide +kernel
theorem dX12_endOf_70 : decode cX12_endOf 70 = .ok (.bipush 60, 2) := by decide +kernel
theorem dX12_endOf_72 : decode cX12_endOf 72 = .ok (.if_icmp .eq 9, 3) := by decide +kernel
theorem dX12_endOf_75 : decode cX12_endOf 75 = .ok (.iload_n 2, 1) := by decide +kernel
theorem dX12_endOf_76 : decode cX12_endOf 76 = .ok (.bipush 62, 2) := by decide +kernel
theorem dX12_endOf_78 : decode cX12_endOf 78 = .ok (.if_icmp .ne 16, 3) := by decide +kernel
theorem dX12_endOf_81 : decode cX12_endOf 81 = .ok (.aload_n 0, 1) := by decide +kernel
theorem dX12_endOf_82 : decode cX12_endOf 82 = .ok (.iload_n 3, 1) := by decide +kernel
theorem dX12_endOf_83 : decode cX12_endOf 83 = .ok (.invokevirtual 224, 3) := by decide +kernel
theorem dX12_endOf_86 : decode cX12_endOf 86 = .ok (.bipush 61, 2) := by decide +kernel
theorem dX12_endOf_88 : decode cX12_endOf 88 = .ok (.if_icmp .ne 6, 3) := by decide +kernel
theorem dX12_endOf_91 : decode cX12_endOf 91 = .ok (.iinc 3 1, 3) := by decide +kernel
theorem dX12_endOf_94 : decode cX12_endOf 94 = .ok (.iload_n 3, 1) := by decide +kernel
theorem dX12_endOf_95 : decode cX12_endOf 95 = .ok (.ireturn, 1) := by decide +kernel
theorem dX12_kindOf_0 : decode cX12_kindOf 0 = .ok (.aload_n 0, 1) := by decide +kernel
theorem dX12_kindOf_1 : decode cX12_kindOf 1 = .ok (.iload_n 2, 1) := by decide +kernel
theorem dX12_kindOf_2 : decode cX12_kindOf 2 = .ok (.invokevirtual 224, 3) := by decide +kernel
theorem dX12_kindOf_5 : decode cX12_kindOf 5 = .ok (.istore 4, 2) := by decide +kernel
theorem dX12_kindOf_7 : decode cX12_kindOf 7 = .ok (.iload 4, 2) := by decide +kernel
theorem dX12_kindOf_9 : decode cX12_kindOf 9 = .ok (.iconst (-1), 1) := by decide +kernel
theorem dX12_kindOf_10 : decode cX12_kindOf 10 = .ok (.if_icmp .ne 6, 3) := by decide +kernel
theorem dX12_kindOf_13 : decode cX12_kindOf 13 = .ok (.bipush 33, 2) := by decide +kernel
theorem dX12_kindOf_15 : decode cX12_kindOf 15 = .ok (.ireturn, 1) := by decide +kernel
theorem dX12_kindOf_16 : decode cX12_kindOf 16 = .ok (.iload 4, 2) := by decide +kernel
theorem dX12_kindOf_18 : decode cX12_kindOf 18 = .ok (.invokestatic 230, 3) := by decide +kernel
theorem dX12_kindOf_21 : decode cX12_kindOf 21 = .ok (.ifCond .eq 24, 3) := by decide +kernel
theorem dX12_kindOf_24 : decode cX12_kindOf 24 = .ok (.iload_n 3, 1) := by decide +kernel
theorem dX12_kindOf_25 : decode cX12_kindOf 25 = .ok (.iload_n 2, 1) := by decide +kernel
theorem dX12_kindOf_26 : decode cX12_kindOf 26 = .ok (.isub, 1) := by decide +kernel
theorem dX12_kindOf_27 : decode cX12_kindOf 27 = .ok (.bipush 6, 2) := by decide +kernel
theorem dX12_kindOf_29 : decode cX12_kindOf 29 = .ok (.if_icmp .le 8, 3) := by decide +kernel
theorem dX12_kindOf_32 : decode cX12_kindOf 32 = .ok (.bipush 32, 2) := by decide +kernel
theorem dX12_kindOf_34 : decode cX12_kindOf 34 = .ok (.goto 10, 3) := by decide +kernel
theorem dX12_kindOf_37 : decode cX12_kindOf 37 = .ok (.aload_n 0, 1) := by decide +kernel
theorem dX12_kindOf_38 : decode cX12_kindOf 38 = .ok (.iload_n 1, 1) := by decide +kernel
theorem dX12_kindOf_39 : decode cX12_kindOf 39 = .ok (.iload_n 2, 1) := by decide +kernel
theorem dX12_kindOf_40 : decode cX12_kindOf 40 = .ok (.iload_n 3, 1) := by decide +kernel
theorem dX12_kindOf_41 : decode cX12_kindOf 41 = .ok (.invokevirtual 233, 3) := by decide +kernel
theorem dX12_kindOf_44 : decode cX12_kindOf 44 = .ok (.ireturn, 1) := by decide +kernel
theorem dX12_kindOf_45 : decode cX12_kindOf 45 = .ok (.iload 4, 2) := by decide +kernel
theorem dX12_kindOf_47 : decode cX12_kindOf 47 = .ok (.invokestatic 227, 3) := by decide +kernel
theorem dX12_kindOf_50 : decode cX12_kindOf 50 = .ok (.ifCond .eq 24, 3) := by decide +kernel
theorem dX12_kindOf_53 : decode cX12_kindOf 53 = .ok (.iload_n 3, 1) := by decide +kernel
theorem dX12_kindOf_54 : decode cX12_kindOf 54 = .ok (.iload_n 2, 1) := by decide +kernel
theorem dX12_kindOf_55 : decode cX12_kindOf 55 = .ok (.isub, 1) := by decide +kernel
theorem dX12_kindOf_56 : decode cX12_kindOf 56 = .ok (.bipush 10, 2) := by decide +kernel
theorem dX12_kindOf_58 : decode cX12_kindOf 58 = .ok (.if_icmp .le 8, 3) := by decide +kernel
theorem dX12_kindOf_61 : decode cX12_kindOf 61 = .ok (.bipush 32, 2) := by decide +kernel
theorem dX12_kindOf_63 : decode cX12_kindOf 63 = .ok (.goto 10, 3) := by decide +kernel
theorem dX12_kindOf_66 : decode cX12_kindOf 66 = .ok (.aload_n 0, 1) := by decide +kernel
theorem dX12_kindOf_67 : decode cX12_kindOf 67 = .ok (.iload_n 1, 1) := by decide +kernel
theorem dX12_kindOf_68 : decode cX12_kindOf 68 = .ok (.iload_n 2, 1) := by decide +kernel
theorem dX12_kindOf_69 : decode cX12_kindOf 69 = .ok (.iload_n 3, 1) := by decide +kernel
theorem dX12_kindOf_70 : decode cX12_kindOf 70 = .ok (.invokevirtual 236, 3) := by decide +kernel
theorem dX12_kindOf_73 : decode cX12_kindOf 73 = .ok (.ireturn, 1) := by decide +kernel
theorem dX12_kindOf_74 : decode cX12_kindOf 74 = .ok (.iload_n 3, 1) := by decide +kernel
theorem dX12_kindOf_75 : decode cX12_kindOf 75 = .ok (.iload_n 2, 1) := by decide +kernel
theorem dX12_kindOf_76 : decode cX12_kindOf 76 = .ok (.isub, 1) := by decide +kernel
theorem dX12_kindOf_77 : decode cX12_kindOf 77 = .ok (.iconst 2, 1) := by decide +kernel
theorem dX12_kindOf_78 : decode cX12_kindOf 78 = .ok (.if_icmp .ne 10, 3) := by decide +kernel
theorem dX12_kindOf_81 : decode cX12_kindOf 81 = .ok (.sipush 256, 3) := by decide +kernel
theorem dX12_kindOf_84 : decode cX12_kindOf 84 = .ok (.iload 4, 2) := by decide +kernel
theorem dX12_kindOf_86 : decode cX12_kindOf 86 = .ok (.iadd, 1) := by decide +kernel
theorem dX12_kindOf_87 : decode cX12_kindOf 87 = .ok (.ireturn, 1) := by decide +kernel
theorem dX12_kindOf_88 : decode cX12_kindOf 88 = .ok (.iload 4, 2) := by decide +kernel
theorem dX12_kindOf_90 : decode cX12_kindOf 90 = .ok (.bipush 40, 2) := by decide +kernel
theorem dX12_kindOf_92 : decode cX12_kindOf 92 = .ok (.if_icmp .eq 87, 3) := by decide +kernel
theorem dX12_kindOf_95 : decode cX12_kindOf 95 = .ok (.iload 4, 2) := by decide +kernel
theorem dX12_kindOf_97 : decode cX12_kindOf 97 = .ok (.bipush 41, 2) := by decide +kernel
theorem dX12_kindOf_99 : decode cX12_kindOf 99 = .ok (.if_icmp .eq 80, 3) := by decide +kernel
theorem dX12_kindOf_102 : decode cX12_kindOf 102 = .ok (.iload 4, 2) := by decide +kernel
theorem dX12_kindOf_104 : decode cX12_kindOf 104 = .ok (.bipush 91, 2) := by decide +kernel
theorem dX12_kindOf_106 : decode cX12_kindOf 106 = .ok (.if_icmp .eq 73, 3) := by decide +kernel
theorem dX12_kindOf_109 : decode cX12_kindOf 109 = .ok (.iload 4, 2) := by decide +kernel
theorem dX12_kindOf_111 : decode cX12_kindOf 111 = .ok (.bipush 93, 2) := by decide +kernel
theorem dX12_kindOf_113 : decode cX12_kindOf 113 = .ok (.if_icmp .eq 66, 3) := by decide +kernel
theorem dX12_kindOf_116 : decode cX12_kindOf 116 = .ok (.iload 4, 2) := by decide +kernel
theorem dX12_kindOf_118 : decode cX12_kindOf 118 = .ok (.bipush 59, 2) := by decide +kernel
theorem dX12_kindOf_120 : decode cX12_kindOf 120 = .ok (.if_icmp .eq 59, 3) := by decide +kernel
theorem dX12_kindOf_123 : decode cX12_kindOf 123 = .ok (.iload 4, 2) := by decide +kernel
theorem dX12_kindOf_125 : decode cX12_kindOf 125 = .ok (.bipush 44, 2) := by decide +kernel
theorem dX12_kindOf_127 : decode cX12_kindOf 127 = .ok (.if_icmp .eq 52, 3) := by decide +kernel
theorem dX12_kindOf_130 : decode cX12_kindOf 130 = .ok (.iload 4, 2) := by decide +kernel
theorem dX12_kindOf_132 : decode cX12_kindOf 132 = .ok (.bipush 43, 2) := by decide +kernel
theorem dX12_kindOf_134 : decode cX12_kindOf 134 = .ok (.if_icmp .eq 45, 3) := by decide +kernel
theorem dX12_kindOf_137 : decode cX12_kindOf 137 = .ok (.iload 4, 2) := by decide +kernel
theorem dX12_kindOf_139 : decode cX12_kindOf 139 = .ok (.bipush 45, 2) := by decide +kernel
theorem dX12_kindOf_141 : decode cX12_kindOf 141 = .ok (.if_icmp .eq 38, 3) := by decide +kernel
theorem dX12_kindOf_144 : decode cX12_kindOf 144 = .ok (.iload 4, 2) := by decide +kernel
theorem dX12_kindOf_146 : decode cX12_kindOf 146 = .ok (.bipush 42, 2) := by decide +kernel
theorem dX12_kindOf_148 : decode cX12_kindOf 148 = .ok (.if_icmp .eq 31, 3) := by decide +kernel
theorem dX12_kindOf_151 : decode cX12_kindOf 151 = .ok (.iload 4, 2) := by decide +kernel
theorem dX12_kindOf_153 : decode cX12_kindOf 153 = .ok (.bipush 47, 2) := by decide +kernel
theorem dX12_kindOf_155 : decode cX12_kindOf 155 = .ok (.if_icmp .eq 24, 3) := by decide +kernel
theorem dX12_kindOf_158 : decode cX12_kindOf 158 = .ok (.iload 4, 2) := by decide +kernel
theorem dX12_kindOf_160 : decode cX12_kindOf 160 = .ok (.bipush 60, 2) := by decide +kernel
theorem dX12_kindOf_162 : decode cX12_kindOf 162 = .ok (.if_icmp .eq 17, 3) := by decide +kernel
theorem dX12_kindOf_165 : decode cX12_kindOf 165 = .ok (.iload 4, 2) := by decide +kernel
theorem dX12_kindOf_167 : decode cX12_kindOf 167 = .ok (.bipush 62, 2) := by decide +kernel
theorem dX12_kindOf_169 : decode cX12_kindOf 169 = .ok (.if_icmp .eq 10, 3) := by decide +kernel
theorem dX12_kindOf_172 : decode cX12_kindOf 172 = .ok (.iload 4, 2) := by decide +kernel
theorem dX12_kindOf_174 : decode cX12_kindOf 174 = .ok (.bipush 61, 2) := by decide +kernel
theorem dX12_kindOf_176 : decode cX12_kindOf 176 = .ok (.if_icmp .ne 8, 3) := by decide +kernel
theorem dX12_kindOf_179 : decode cX12_kindOf 179 = .ok (.iload 4, 2) := by decide +kernel
theorem dX12_kindOf_181 : decode cX12_kindOf 181 = .ok (.goto 5, 3) := by decide +kernel
theorem dX12_kindOf_184 : decode cX12_kindOf 184 = .ok (.bipush 32, 2) := by decide +kernel
theorem dX12_kindOf_186 : decode cX12_kindOf 186 = .ok (.ireturn, 1) := by decide +kernel
theorem dX12_numberAt_0 : decode cX12_numberAt 0 = .ok (.iconst 0, 1) := by decide +kernel
theorem dX12_numberAt_1 : decode cX12_numberAt 1 = .ok (.istore 4, 2) := by decide +kernel
theorem dX12_numberAt_3 : decode cX12_numberAt 3 = .ok (.iload_n 2, 1) := by decide +kernel
theorem dX12_numberAt_4 : decode cX12_numberAt 4 = .ok (.istore 5, 2) := by decide +kernel
theorem dX12_numberAt_6 : decode cX12_numberAt 6 = .ok (.iload 5, 2) := by decide +kernel
theorem dX12_numberAt_8 : decode cX12_numberAt 8 = .ok (.iload_n 3, 1) := by decide +kernel
theorem dX12_numberAt_9 : decode cX12_numberAt 9 = .ok (.if_icmp .ge 27, 3) := by decide +kernel
theorem dX12_numberAt_12 : decode cX12_numberAt 12 = .ok (.bipush 10, 2) := by decide +kernel
theorem dX12_numberAt_14 : decode cX12_numberAt 14 = .ok (.iload 4, 2) := by decide +kernel
theorem dX12_numberAt_16 : decode cX12_numberAt 16 = .ok (.imul, 1) := by decide +kernel
theorem dX12_numberAt_17 : decode cX12_numberAt 17 = .ok (.aload_n 0, 1) := by decide +kernel
theorem dX12_numberAt_18 : decode cX12_numberAt 18 = .ok (.getfield 9, 3) := by decide +kernel
theorem dX12_numberAt_21 : decode cX12_numberAt 21 = .ok (.iload 5, 2) := by decide +kernel
theorem dX12_numberAt_23 : decode cX12_numberAt 23 = .ok (.iaload, 1) := by decide +kernel
theorem dX12_numberAt_24 : decode cX12_numberAt 24 = .ok (.iadd, 1) := by decide +kernel
theorem dX12_numberAt_25 : decode cX12_numberAt 25 = .ok (.bipush 48, 2) := by decide +kernel
theorem dX12_numberAt_27 : decode cX12_numberAt 27 = .ok (.isub, 1) := by decide +kernel
theorem dX12_numberAt_28 : decode cX12_numberAt 28 = .ok (.istore 4, 2) := by decide +kernel
theorem dX12_numberAt_30 : decode cX12_numberAt 30 = .ok (.iinc 5 1, 3) := by decide +kernel
theorem dX12_numberAt_33 : decode cX12_numberAt 33 = .ok (.goto (-27), 3) := by decide +kernel
theorem dX12_numberAt_36 : decode cX12_numberAt 36 = .ok (.aload_n 0, 1) := by decide +kernel
theorem dX12_numberAt_37 : decode cX12_numberAt 37 = .ok (.getfield 33, 3) := by decide +kernel
theorem dX12_numberAt_40 : decode cX12_numberAt 40 = .ok (.iload_n 1, 1) := by decide +kernel
theorem dX12_numberAt_41 : decode cX12_numberAt 41 = .ok (.iload 4, 2) := by decide +kernel
theorem dX12_numberAt_43 : decode cX12_numberAt 43 = .ok (.i2l, 1) := by decide +kernel
theorem dX12_numberAt_44 : decode cX12_numberAt 44 = .ok (.lastore, 1) := by decide +kernel
theorem dX12_numberAt_45 : decode cX12_numberAt 45 = .ok (.bipush 31, 2) := by decide +kernel
theorem dX12_numberAt_47 : decode cX12_numberAt 47 = .ok (.ireturn, 1) := by decide +kernel
theorem dX12_letter_0 : decode cX12_letter 0 = .ok (.iload_n 0, 1) := by decide +kernel
theorem dX12_letter_1 : decode cX12_letter 1 = .ok (.invokestatic 227, 3) := by decide +kernel
theorem dX12_letter_4 : decode cX12_letter 4 = .ok (.ifCond .eq 12, 3) := by decide +kernel
theorem dX12_letter_7 : decode cX12_letter 7 = .ok (.iload_n 0, 1) := by decide +kernel
theorem dX12_letter_8 : decode cX12_letter 8 = .ok (.bipush 97, 2) := by decide +kernel
theorem dX12_letter_10 : decode cX12_letter 10 = .ok (.isub, 1) := by decide +kernel
theorem dX12_letter_11 : decode cX12_letter 11 = .ok (.iconst 1, 1) := by decide +kernel
theorem dX12_letter_12 : decode cX12_letter 12 = .ok (.iadd, 1) := by decide +kernel
theorem dX12_letter_13 : decode cX12_letter 13 = .ok (.goto 10, 3) := by decide +kernel
theorem dX12_letter_16 : decode cX12_letter 16 = .ok (.iload_n 0, 1) := by decide +kernel
theorem dX12_letter_17 : decode cX12_letter 17 = .ok (.bipush 48, 2) := by decide +kernel
theorem dX12_letter_19 : decode cX12_letter 19 = .ok (.isub, 1) := by decide +kernel
theorem dX12_letter_20 : decode cX12_letter 20 = .ok (.bipush 27, 2) := by decide +kernel
theorem dX12_letter_22 : decode cX12_letter 22 = .ok (.iadd, 1) := by decide +kernel
theorem dX12_letter_23 : decode cX12_letter 23 = .ok (.ireturn, 1) := by decide +kernel
theorem dX12_nameOf_0 : decode cX12_nameOf 0 = .ok (.lconst 0, 1) := by decide +kernel
theorem dX12_nameOf_1 : decode cX12_nameOf 1 = .ok (.lstore_n 1, 1) := by decide +kernel
theorem dX12_nameOf_2 : decode cX12_nameOf 2 = .ok (.iconst 0, 1) := by decide +kernel
theorem dX12_nameOf_3 : decode cX12_nameOf 3 = .ok (.istore_n 3, 1) := by decide +kernel
theorem dX12_nameOf_4 : decode cX12_nameOf 4 = .ok (.iload_n 3, 1) := by decide +kernel
theorem dX12_nameOf_5 : decode cX12_nameOf 5 = .ok (.aload_n 0, 1) := by decide +kernel
theorem dX12_nameOf_6 : decode cX12_nameOf 6 = .ok (.invokevirtual 239, 3) := by decide +kernel
theorem dX12_nameOf_9 : decode cX12_nameOf 9 = .ok (.if_icmp .ge 25, 3) := by decide +kernel
theorem dX12_nameOf_12 : decode cX12_nameOf 12 = .ok (.ldc2_w 86, 3) := by decide +kernel
theorem dX12_nameOf_15 : decode cX12_nameOf 15 = .ok (.lload_n 1, 1) := by decide +kernel
theorem dX12_nameOf_16 : decode cX12_nameOf 16 = .ok (.lmul, 1) := by decide +kernel
theorem dX12_nameOf_17 : decode cX12_nameOf 17 = .ok (.aload_n 0, 1) := by decide +kernel
theorem dX12_nameOf_18 : decode cX12_nameOf 18 = .ok (.iload_n 3, 1) := by decide +kernel
theorem dX12_nameOf_19 : decode cX12_nameOf 19 = .ok (.invokevirtual 244, 3) := by decide +kernel
theorem dX12_nameOf_22 : decode cX12_nameOf 22 = .ok (.invokestatic 248, 3) := by decide +kernel
theorem dX12_nameOf_25 : decode cX12_nameOf 25 = .ok (.i2l, 1) := by decide +kernel
theorem dX12_nameOf_26 : decode cX12_nameOf 26 = .ok (.ladd, 1) := by decide +kernel
theorem dX12_nameOf_27 : decode cX12_nameOf 27 = .ok (.lstore_n 1, 1) := by decide +kernel
theorem dX12_nameOf_28 : decode cX12_nameOf 28 = .ok (.iinc 3 1, 3) := by decide +kernel
theorem dX12_nameOf_31 : decode cX12_nameOf 31 = .ok (.goto (-27), 3) := by decide +kernel
theorem dX12_nameOf_34 : decode cX12_nameOf 34 = .ok (.lload_n 1, 1) := by decide +kernel
theorem dX12_nameOf_35 : decode cX12_nameOf 35 = .ok (.lreturn, 1) := by decide +kernel
theorem dX12_wordAt_0 : decode cX12_wordAt 0 = .ok (.lconst 0, 1) := by decide +kernel
theorem dX12_wordAt_1 : decode cX12_wordAt 1 = .ok (.lstore 4, 2) := by decide +kernel
theorem dX12_wordAt_3 : decode cX12_wordAt 3 = .ok (.iload_n 2, 1) := by decide +kernel
theorem dX12_wordAt_4 : decode cX12_wordAt 4 = .ok (.istore 6, 2) := by decide +kernel
theorem dX12_wordAt_6 : decode cX12_wordAt 6 = .ok (.iload 6, 2) := by decide +kernel
theorem dX12_wordAt_8 : decode cX12_wordAt 8 = .ok (.iload_n 3, 1) := by decide +kernel
theorem dX12_wordAt_9 : decode cX12_wordAt 9 = .ok (.if_icmp .ge 29, 3) := by decide +kernel
theorem dX12_wordAt_12 : decode cX12_wordAt 12 = .ok (.ldc2_w 86, 3) := by decide +kernel
theorem dX12_wordAt_15 : decode cX12_wordAt 15 = .ok (.lload 4, 2) := by decide +kernel
theorem dX12_wordAt_17 : decode cX12_wordAt 17 = .ok (.lmul, 1) := by decide +kernel
theorem dX12_wordAt_18 : decode cX12_wordAt 18 = .ok (.aload_n 0, 1) := by decide +kernel
theorem dX12_wordAt_19 : decode cX12_wordAt 19 = .ok (.getfield 9, 3) := by decide +kernel
theorem dX12_wordAt_22 : decode cX12_wordAt 22 = .ok (.iload 6, 2) := by decide +kernel
theorem dX12_wordAt_24 : decode cX12_wordAt 24 = .ok (.iaload, 1) := by decide +kernel
theorem dX12_wordAt_25 : decode cX12_wordAt 25 = .ok (.invokestatic 248, 3) := by decide +kernel
theorem dX12_wordAt_28 : decode cX12_wordAt 28 = .ok (.i2l, 1) := by decide +kernel
theorem dX12_wordAt_29 : decode cX12_wordAt 29 = .ok (.ladd, 1) := by decide +kernel
theorem dX12_wordAt_30 : decode cX12_wordAt 30 = .ok (.lstore 4, 2) := by decide +kernel
theorem dX12_wordAt_32 : decode cX12_wordAt 32 = .ok (.iinc 6 1, 3) := by decide +kernel
theorem dX12_wordAt_35 : decode cX12_wordAt 35 = .ok (.goto (-29), 3) := by decide +kernel
theorem dX12_wordAt_38 : decode cX12_wordAt 38 = .ok (.aload_n 0, 1) := by decide +kernel
theorem dX12_wordAt_39 : decode cX12_wordAt 39 = .ok (.getfield 33, 3) := by decide +kernel
theorem dX12_wordAt_42 : decode cX12_wordAt 42 = .ok (.iload_n 1, 1) := by decide +kernel
theorem dX12_wordAt_43 : decode cX12_wordAt 43 = .ok (.lload 4, 2) := by decide +kernel
theorem dX12_wordAt_45 : decode cX12_wordAt 45 = .ok (.lastore, 1) := by decide +kernel
theorem dX12_wordAt_46 : decode cX12_wordAt 46 = .ok (.iconst 0, 1) := by decide +kernel
theorem dX12_wordAt_47 : decode cX12_wordAt 47 = .ok (.istore 6, 2) := by decide +kernel
theorem dX12_wordAt_49 : decode cX12_wordAt 49 = .ok (.iload 6, 2) := by decide +kernel
theorem dX12_wordAt_51 : decode cX12_wordAt 51 = .ok (.getstatic 251, 3) := by decide +kernel
theorem dX12_wordAt_54 : decode cX12_wordAt 54 = .ok (.arraylength, 1) := by decide +kernel
theorem dX12_wordAt_55 : decode cX12_wordAt 55 = .ok (.if_icmp .ge 27, 3) := by decide +kernel
theorem dX12_wordAt_58 : decode cX12_wordAt 58 = .ok (.getstatic 251, 3) := by decide +kernel
theorem dX12_wordAt_61 : decode cX12_wordAt 61 = .ok (.iload 6, 2) := by decide +kernel
theorem dX12_wordAt_63 : decode cX12_wordAt 63 = .ok (.aaload, 1) := by decide +kernel
theorem dX12_wordAt_64 : decode cX12_wordAt 64 = .ok (.invokestatic 255, 3) := by decide +kernel
theorem dX12_wordAt_67 : decode cX12_wordAt 67 = .ok (.lload 4, 2) := by decide +kernel
theorem dX12_wordAt_69 : decode cX12_wordAt 69 = .ok (.lcmp, 1) := by decide +kernel
theorem dX12_wordAt_70 : decode cX12_wordAt 70 = .ok (.ifCond .ne 6, 3) := by decide +kernel
theorem dX12_wordAt_73 : decode cX12_wordAt 73 = .ok (.iload 6, 2) := by decide +kernel
theorem dX12_wordAt_75 : decode cX12_wordAt 75 = .ok (.ireturn, 1) := by decide +kernel
theorem dX12_wordAt_76 : decode cX12_wordAt 76 = .ok (.iinc 6 1, 3) := by decide +kernel
theorem dX12_wordAt_79 : decode cX12_wordAt 79 = .ok (.goto (-30), 3) := by decide +kernel
theorem dX12_wordAt_82 : decode cX12_wordAt 82 = .ok (.bipush 30, 2) := by decide +kernel
theorem dX12_wordAt_84 : decode cX12_wordAt 84 = .ok (.ireturn, 1) := by decide +kernel
theorem dX12_cutIntoTokens_0 : decode cX12_cutIntoTokens 0 = .ok (.iconst 0, 1) := by decide +kernel
theorem dX12_cutIntoTokens_1 : decode cX12_cutIntoTokens 1 = .ok (.istore_n 1, 1) := by decide +kernel
theorem dX12_cutIntoTokens_2 : decode cX12_cutIntoTokens 2 = .ok (.iconst 0, 1) := by decide +kernel
theorem dX12_cutIntoTokens_3 : decode cX12_cutIntoTokens 3 = .ok (.istore_n 2, 1) := by decide +kernel
theorem dX12_cutIntoTokens_4 : decode cX12_cutIntoTokens 4 = .ok (.iload_n 2, 1) := by decide +kernel
theorem dX12_cutIntoTokens_5 : decode cX12_cutIntoTokens 5 = .ok (.sipush 400, 3) := by decide +kernel
theorem dX12_cutIntoTokens_8 : decode cX12_cutIntoTokens 8 = .ok (.if_icmp .gt 119, 3) := by decide +kernel
theorem dX12_cutIntoTokens_11 : decode cX12_cutIntoTokens 11 = .ok (.aload_n 0, 1) := by decide +kernel
theorem dX12_cutIntoTokens_12 : decode cX12_cutIntoTokens 12 = .ok (.iload_n 1, 1) := by decide +kernel
theorem dX12_cutIntoTokens_13 : decode cX12_cutIntoTokens 13 = .ok (.invokevirtual 224, 3) := by decide +kernel
theorem dX12_cutIntoTokens_16 : decode cX12_cutIntoTokens 16 = .ok (.bipush 32, 2) := by decide +kernel
theorem dX12_cutIntoTokens_18 : decode cX12_cutIntoTokens 18 = .ok (.if_icmp .eq 13, 3) := by decide +kernel
theorem dX12_cutIntoTokens_21 : decode cX12_cutIntoTokens 21 = .ok (.aload_n 0, 1) := by decide +kernel
theorem dX12_cutIntoTokens_22 : decode cX12_cutIntoTokens 22 = .ok (.iload_n 1, 1) := by decide +kernel
theorem dX12_cutIntoTokens_23 : decode cX12_cutIntoTokens 23 = .ok (.invokevirtual 224, 3) := by decide +kernel
theorem dX12_cutIntoTokens_26 : decode cX12_cutIntoTokens 26 = .ok (.bipush 10, 2) := by decide +kernel
theorem dX12_cutIntoTokens_28 : decode cX12_cutIntoTokens 28 = .ok (.if_icmp .ne 9, 3) := by decide +kernel
theorem dX12_cutIntoTokens_31 : decode cX12_cutIntoTokens 31 = .ok (.iinc 1 1, 3) := by decide +kernel
theorem dX12_cutIntoTokens_34 : decode cX12_cutIntoTokens 34 = .ok (.goto (-23), 3) := by decide +kernel
theorem dX12_cutIntoTokens_37 : decode cX12_cutIntoTokens 37 = .ok (.aload_n 0, 1) := by decide +kernel
theorem dX12_cutIntoTokens_38 : decode cX12_cutIntoTokens 38 = .ok (.iload_n 1, 1) := by decide +kernel
theorem dX12_cutIntoTokens_39 : decode cX12_cutIntoTokens 39 = .ok (.invokevirtual 259, 3) := by decide +kernel
theorem dX12_cutIntoTokens_42 : decode cX12_cutIntoTokens 42 = .ok (.istore_n 3, 1) := by decide +kernel
theorem dX12_cutIntoTokens_43 : decode cX12_cutIntoTokens 43 = .ok (.aload_n 0, 1) := by decide +kernel
theorem dX12_cutIntoTokens_44 : decode cX12_cutIntoTokens 44 = .ok (.getfield 27, 3) := by decide +kernel
theorem dX12_cutIntoTokens_47 : decode cX12_cutIntoTokens 47 = .ok (.iload_n 2, 1) := by decide +kernel
theorem dX12_cutIntoTokens_48 : decode cX12_cutIntoTokens 48 = .ok (.iload_n 1, 1) := by decide +kernel
theorem dX12_cutIntoTokens_49 : decode cX12_cutIntoTokens 49 = .ok (.iastore, 1) := by decide +kernel
theorem dX12_cutIntoTokens_50 : decode cX12_cutIntoTokens 50 = .ok (.aload_n 0, 1) := by decide +kernel
theorem dX12_cutIntoTokens_51 : decode cX12_cutIntoTokens 51 = .ok (.getfield 30, 3) := by decide +kernel
theorem dX12_cutIntoTokens_54 : decode cX12_cutIntoTokens 54 = .ok (.iload_n 2, 1) := by decide +kernel
theorem dX12_cutIntoTokens_55 : decode cX12_cutIntoTokens 55 = .ok (.iconst 0, 1) := by decide +kernel
theorem dX12_cutIntoTokens_56 : decode cX12_cutIntoTokens 56 = .ok (.iastore, 1) := by decide +kernel
theorem dX12_cutIntoTokens_57 : decode cX12_cutIntoTokens 57 = .ok (.aload_n 0, 1) := by decide +kernel
theorem dX12_cutIntoTokens_58 : decode cX12_cutIntoTokens 58 = .ok (.getfield 24, 3) := by decide +kernel
theorem dX12_cutIntoTokens_61 : decode cX12_cutIntoTokens 61 = .ok (.iload_n 2, 1) := by decide +kernel
theorem dX12_cutIntoTokens_62 : decode cX12_cutIntoTokens 62 = .ok (.aload_n 0, 1) := by decide +kernel
theorem dX12_cutIntoTokens_63 : decode cX12_cutIntoTokens 63 = .ok (.iload_n 2, 1) := by decide +kernel
theorem dX12_cutIntoTokens_64 : decode cX12_cutIntoTokens 64 = .ok (.iload_n 1, 1) := by decide +kernel
theorem dX12_cutIntoTokens_65 : decode cX12_cutIntoTokens 65 = .ok (.iload_n 3, 1) := by decide +kernel
theorem dX12_cutIntoTokens_66 : decode cX12_cutIntoTokens 66 = .ok (.invokevirtual 262, 3) := by decide +kernel
theorem dX12_cutIntoTokens_69 : decode cX12_cutIntoTokens 69 = .ok (.iastore, 1) := by decide +kernel
theorem dX12_cutIntoTokens_70 : decode cX12_cutIntoTokens 70 = .ok (.iload_n 2, 1) := by decide +kernel
theorem dX12_cutIntoTokens_71 : decode cX12_cutIntoTokens 71 = .ok (.sipush 400, 3) := by decide +kernel
theorem dX12_cutIntoTokens_74 : decode cX12_cutIntoTokens 74 = .ok (.if_icmp .ne 22, 3) := by decide +kernel
theorem dX12_cutIntoTokens_77 : decode cX12_cutIntoTokens 77 = .ok (.aload_n 0, 1) := by decide +kernel
theorem dX12_cutIntoTokens_78 : decode cX12_cutIntoTokens 78 = .ok (.getfield 24, 3) := by decide +kernel
theorem dX12_cutIntoTokens_81 : decode cX12_cutIntoTokens 81 = .ok (.iload_n 2, 1) := by decide +kernel
theorem dX12_cutIntoTokens_82 : decode cX12_cutIntoTokens 82 = .ok (.iaload, 1) := by decide +kernel
theorem dX12_cutIntoTokens_83 : decode cX12_cutIntoTokens 83 = .ok (.bipush 33, 2) := by decide +kernel
theorem dX12_cutIntoTokens_85 : decode cX12_cutIntoTokens 85 = .ok (.if_icmp .eq 11, 3) := by decide +kernel
theorem dX12_cutIntoTokens_88 : decode cX12_cutIntoTokens 88 = .ok (.aload_n 0, 1) := by decide +kernel
theorem dX12_cutIntoTokens_89 : decode cX12_cutIntoTokens 89 = .ok (.getfield 24, 3) := by decide +kernel
theorem dX12_cutIntoTokens_92 : decode cX12_cutIntoTokens 92 = .ok (.iload_n 2, 1) := by decide +kernel
theorem dX12_cutIntoTokens_93 : decode cX12_cutIntoTokens 93 = .ok (.bipush 32, 2) := by decide +kernel
theorem dX12_cutIntoTokens_95 : decode cX12_cutIntoTokens 95 = .ok (.iastore, 1) := by decide +kernel
theorem dX12_cutIntoTokens_96 : decode cX12_cutIntoTokens 96 = .ok (.aload_n 0, 1) := by decide +kernel
theorem dX12_cutIntoTokens_97 : decode cX12_cutIntoTokens 97 = .ok (.getfield 24, 3) := by decide +kernel
theorem dX12_cutIntoTokens_100 : decode cX12_cutIntoTokens 100 = .ok (.iload_n 2, 1) := by decide +kernel
theorem dX12_cutIntoTokens_101 : decode cX12_cutIntoTokens 101 = .ok (.iaload, 1) := by decide +kernel
theorem dX12_cutIntoTokens_102 : decode cX12_cutIntoTokens 102 = .ok (.bipush 32, 2) := by decide +kernel
theorem dX12_cutIntoTokens_104 : decode cX12_cutIntoTokens 104 = .ok (.if_icmp .eq 14, 3) := by decide +kernel
theorem dX12_cutIntoTokens_107 : decode cX12_cutIntoTokens 107 = .ok (.aload_n 0, 1) := by decide +kernel
theorem dX12_cutIntoTokens_108 : decode cX12_cutIntoTokens 108 = .ok (.getfield 24, 3) := by decide +kernel
theorem dX12_cutIntoTokens_111 : decode cX12_cutIntoTokens 111 = .ok (.iload_n 2, 1) := by decide +kernel
theorem dX12_cutIntoTokens_112 : decode cX12_cutIntoTokens 112 = .ok (.iaload, 1) := by decide +kernel
theorem dX12_cutIntoTokens_113 : decode cX12_cutIntoTokens 113 = .ok (.bipush 33, 2) := by decide +kernel
theorem dX12_cutIntoTokens_115 : decode cX12_cutIntoTokens 115 = .ok (.if_icmp .ne 4, 3) := by decide +kernel
theorem dX12_cutIntoTokens_118 : decode cX12_cutIntoTokens 118 = .ok (.return_, 1) := by decide +kernel
theorem dX12_cutIntoTokens_119 : decode cX12_cutIntoTokens 119 = .ok (.iload_n 3, 1) := by decide +kernel
theorem dX12_cutIntoTokens_120 : decode cX12_cutIntoTokens 120 = .ok (.istore_n 1, 1) := by decide +kernel
theorem dX12_cutIntoTokens_121 : decode cX12_cutIntoTokens 121 = .ok (.iinc 2 1, 3) := by decide +kernel
theorem dX12_cutIntoTokens_124 : decode cX12_cutIntoTokens 124 = .ok (.goto (-120), 3) := by decide +kernel
theorem dX12_cutIntoTokens_127 : decode cX12_cutIntoTokens 127 = .ok (.return_, 1) := by decide +kernel
theorem dX12_eat_0 : decode cX12_eat 0 = .ok (.aload_n 0, 1) := by decide +kernel
theorem dX12_eat_1 : decode cX12_eat 1 = .ok (.getfield 24, 3) := by decide +kernel
theorem dX12_eat_4 : decode cX12_eat 4 = .ok (.aload_n 0, 1) := by decide +kernel
theorem dX12_eat_5 : decode cX12_eat 5 = .ok (.getfield 265, 3) := by decide +kernel
theorem dX12_eat_8 : decode cX12_eat 8 = .ok (.iaload, 1) := by decide +kernel
theorem dX12_eat_9 : decode cX12_eat 9 = .ok (.iload_n 1, 1) := by decide +kernel
theorem dX12_eat_10 : decode cX12_eat 10 = .ok (.if_icmp .eq 5, 3) := by decide +kernel
theorem dX12_eat_13 : decode cX12_eat 13 = .ok (.iconst 0, 1) := by decide +kernel
theorem dX12_eat_14 : decode cX12_eat 14 = .ok (.ireturn, 1) := by decide +kernel
theorem dX12_eat_15 : decode cX12_eat 15 = .ok (.aload_n 0, 1) := by decide +kernel
theorem dX12_eat_16 : decode cX12_eat 16 = .ok (.dup, 1) := by decide +kernel
theorem dX12_eat_17 : decode cX12_eat 17 = .ok (.getfield 265, 3) := by decide +kernel
theorem dX12_eat_20 : decode cX12_eat 20 = .ok (.iconst 1, 1) := by decide +kernel
theorem dX12_eat_21 : decode cX12_eat 21 = .ok (.iadd, 1) := by decide +kernel
theorem dX12_eat_22 : decode cX12_eat 22 = .ok (.putfield 265, 3) := by decide +kernel
theorem dX12_eat_25 : decode cX12_eat 25 = .ok (.iconst 1, 1) := by decide +kernel
theorem dX12_eat_26 : decode cX12_eat 26 = .ok (.ireturn, 1) := by decide +kernel
theorem dX12_eatAs_0 : decode cX12_eatAs 0 = .ok (.aload_n 0, 1) := by decide +kernel
theorem dX12_eatAs_1 : decode cX12_eatAs 1 = .ok (.getfield 30, 3) := by decide +kernel
theorem dX12_eatAs_4 : decode cX12_eatAs 4 = .ok (.aload_n 0, 1) := by decide +kernel
theorem dX12_eatAs_5 : decode cX12_eatAs 5 = .ok (.getfield 265, 3) := by decide +kernel
theorem dX12_eatAs_8 : decode cX12_eatAs 8 = .ok (.iload_n 2, 1) := by decide +kernel
theorem dX12_eatAs_9 : decode cX12_eatAs 9 = .ok (.iastore, 1) := by decide +kernel
theorem dX12_eatAs_10 : decode cX12_eatAs 10 = .ok (.aload_n 0, 1) := by decide +kernel
theorem dX12_eatAs_11 : decode cX12_eatAs 11 = .ok (.iload_n 1, 1) := by decide +kernel
theorem dX12_eatAs_12 : decode cX12_eatAs 12 = .ok (.invokevirtual 268, 3) := by decide +kernel
theorem dX12_eatAs_15 : decode cX12_eatAs 15 = .ok (.ireturn, 1) := by decide +kernel
theorem dX12_deeper_0 : decode cX12_deeper 0 = .ok (.aload_n 0, 1) := by decide +kernel
theorem dX12_deeper_1 : decode cX12_deeper 1 = .ok (.getfield 271, 3) := by decide +kernel
theorem dX12_deeper_4 : decode cX12_deeper 4 = .ok (.bipush 8, 2) := by decide +kernel
theorem dX12_deeper_6 : decode cX12_deeper 6 = .ok (.if_icmp .eq 11, 3) := by decide +kernel
theorem dX12_deeper_9 : decode cX12_deeper 9 = .ok (.aload_n 0, 1) := by decide +kernel
theorem dX12_deeper_10 : decode cX12_deeper 10 = .ok (.iload_n 1, 1) := by decide +kernel
theorem dX12_deeper_11 : decode cX12_deeper 11 = .ok (.invokevirtual 268, 3) := by decide +kernel
theorem dX12_deeper_14 : decode cX12_deeper 14 = .ok (.ifCond .ne 5, 3) := by decide +kernel
theorem dX12_deeper_17 : decode cX12_deeper 17 = .ok (.iconst 0, 1) := by decide +kernel
theorem dX12_deeper_18 : decode cX12_deeper 18 = .ok (.ireturn, 1) := by decide +kernel
theorem dX12_deeper_19 : decode cX12_deeper 19 = .ok (.aload_n 0, 1) := by decide +kernel
theorem dX12_deeper_20 : decode cX12_deeper 20 = .ok (.dup, 1) := by decide +kernel
theorem dX12_deeper_21 : decode cX12_deeper 21 = .ok (.getfield 271, 3) := by decide +kernel
theorem dX12_deeper_24 : decode cX12_deeper 24 = .ok (.iconst 1, 1) := by decide +kernel
theorem dX12_deeper_25 : decode cX12_deeper 25 = .ok (.iadd, 1) := by decide +kernel
theorem dX12_deeper_26 : decode cX12_deeper 26 = .ok (.putfield 271, 3) := by decide +kernel
theorem dX12_deeper_29 : decode cX12_deeper 29 = .ok (.iconst 1, 1) := by decide +kernel
theorem dX12_deeper_30 : decode cX12_deeper 30 = .ok (.ireturn, 1) := by decide +kernel
theorem dX12_closes_0 : decode cX12_closes 0 = .ok (.aload_n 0, 1) := by decide +kernel
theorem dX12_closes_1 : decode cX12_closes 1 = .ok (.iload_n 1, 1) := by decide +kernel
theorem dX12_closes_2 : decode cX12_closes 2 = .ok (.invokevirtual 268, 3) := by decide +kernel
theorem dX12_closes_5 : decode cX12_closes 5 = .ok (.ifCond .ne 5, 3) := by decide +kernel
theorem dX12_closes_8 : decode cX12_closes 8 = .ok (.iconst 0, 1) := by decide +kernel
theorem dX12_closes_9 : decode cX12_closes 9 = .ok (.ireturn, 1) := by decide +kernel
theorem dX12_closes_10 : decode cX12_closes 10 = .ok (.aload_n 0, 1) := by decide +kernel
theorem dX12_closes_11 : decode cX12_closes 11 = .ok (.dup, 1) := by decide +kernel
theorem dX12_closes_12 : decode cX12_closes 12 = .ok (.getfield 271, 3) := by decide +kernel
theorem dX12_closes_15 : decode cX12_closes 15 = .ok (.iconst 1, 1) := by decide +kernel
theorem dX12_closes_16 : decode cX12_closes 16 = .ok (.isub, 1) := by decide +kernel
theorem dX12_closes_17 : decode cX12_closes 17 = .ok (.putfield 271, 3) := by decide +kernel
theorem dX12_closes_20 : decode cX12_closes 20 = .ok (.iconst 1, 1) := by decide +kernel
theorem dX12_closes_21 : decode cX12_closes 21 = .ok (.ireturn, 1) := by decide +kernel
theorem dX12_put_0 : decode cX12_put 0 = .ok (.aload_n 1, 1) := by decide +kernel
theorem dX12_put_1 : decode cX12_put 1 = .ok (.getfield 205, 3) := by decide +kernel
theorem dX12_put_4 : decode cX12_put 4 = .ok (.aload_n 1, 1) := by decide +kernel
theorem dX12_put_5 : decode cX12_put 5 = .ok (.getfield 274, 3) := by decide +kernel
theorem dX12_put_8 : decode cX12_put 8 = .ok (.iload_n 2, 1) := by decide +kernel
theorem dX12_put_9 : decode cX12_put 9 = .ok (.iastore, 1) := by decide +kernel
theorem dX12_put_10 : decode cX12_put 10 = .ok (.aload_n 1, 1) := by decide +kernel
theorem dX12_put_11 : decode cX12_put 11 = .ok (.getfield 211, 3) := by decide +kernel
theorem dX12_put_14 : decode cX12_put 14 = .ok (.aload_n 1, 1) := by decide +kernel
theorem dX12_put_15 : decode cX12_put 15 = .ok (.getfield 274, 3) := by decide +kernel
theorem dX12_put_18 : decode cX12_put 18 = .ok (.iload_n 3, 1) := by decide +kernel
theorem dX12_put_19 : decode cX12_put 19 = .ok (.iastore, 1) := by decide +kernel
theorem dX12_put_20 : decode cX12_put 20 = .ok (.aload_n 1, 1) := by decide +kernel
theorem dX12_put_21 : decode cX12_put 21 = .ok (.dup, 1) := by decide +kernel
theorem dX12_put_22 : decode cX12_put 22 = .ok (.getfield 274, 3) := by decide +kernel
theorem dX12_put_25 : decode cX12_put 25 = .ok (.iconst 1, 1) := by decide +kernel
theorem dX12_put_26 : decode cX12_put 26 = .ok (.iadd, 1) := by decide +kernel
theorem dX12_put_27 : decode cX12_put 27 = .ok (.putfield 274, 3) := by decide +kernel
theorem dX12_put_30 : decode cX12_put 30 = .ok (.return_, 1) := by decide +kernel
theorem dX12_isAbout_0 : decode cX12_isAbout 0 = .ok (.aload_n 0, 1) := by decide +kernel
theorem dX12_isAbout_1 : decode cX12_isAbout 1 = .ok (.dup, 1) := by decide +kernel
theorem dX12_isAbout_2 : decode cX12_isAbout 2 = .ok (.getfield 265, 3) := by decide +kernel
theorem dX12_isAbout_5 : decode cX12_isAbout 5 = .ok (.iconst 1, 1) := by decide +kernel
theorem dX12_isAbout_6 : decode cX12_isAbout 6 = .ok (.iadd, 1) := by decide +kernel
theorem dX12_isAbout_7 : decode cX12_isAbout 7 = .ok (.putfield 265, 3) := by decide +kernel
theorem dX12_isAbout_10 : decode cX12_isAbout 10 = .ok (.iload_n 3, 1) := by decide +kernel
theorem dX12_isAbout_11 : decode cX12_isAbout 11 = .ok (.ifCond .eq 14, 3) := by decide +kernel
theorem dX12_isAbout_14 : decode cX12_isAbout 14 = .ok (.aload_n 0, 1) := by decide +kernel
theorem dX12_isAbout_15 : decode cX12_isAbout 15 = .ok (.bipush 12, 2) := by decide +kernel
theorem dX12_isAbout_17 : decode cX12_isAbout 17 = .ok (.invokevirtual 268, 3) := by decide +kernel
theorem dX12_isAbout_20 : decode cX12_isAbout 20 = .ok (.ifCond .ne 5, 3) := by decide +kernel
theorem dX12_isAbout_23 : decode cX12_isAbout 23 = .ok (.iconst 0, 1) := by decide +kernel
theorem dX12_isAbout_24 : decode cX12_isAbout 24 = .ok (.ireturn, 1) := by decide +kernel
theorem dX12_isAbout_25 : decode cX12_isAbout 25 = .ok (.aload_n 0, 1) := by decide +kernel
theorem dX12_isAbout_26 : decode cX12_isAbout 26 = .ok (.getfield 265, 3) := by decide +kernel
theorem dX12_isAbout_29 : decode cX12_isAbout 29 = .ok (.istore 4, 2) := by decide +kernel
theorem dX12_isAbout_31 : decode cX12_isAbout 31 = .ok (.aload_n 0, 1) := by decide +kernel
theorem dX12_isAbout_32 : decode cX12_isAbout 32 = .ok (.bipush 30, 2) := by decide +kernel
theorem dX12_isAbout_34 : decode cX12_isAbout 34 = .ok (.iconst 5, 1) := by decide +kernel
theorem dX12_isAbout_35 : decode cX12_isAbout 35 = .ok (.invokevirtual 277, 3) := by decide +kernel
theorem dX12_isAbout_38 : decode cX12_isAbout 38 = .ok (.ifCond .ne 5, 3) := by decide +kernel
theorem dX12_isAbout_41 : decode cX12_isAbout 41 = .ok (.iconst 0, 1) := by decide +kernel
theorem dX12_isAbout_42 : decode cX12_isAbout 42 = .ok (.ireturn, 1) := by decide +kernel
theorem dX12_isAbout_43 : decode cX12_isAbout 43 = .ok (.aload_n 0, 1) := by decide +kernel
theorem dX12_isAbout_44 : decode cX12_isAbout 44 = .ok (.aload_n 1, 1) := by decide +kernel
theorem dX12_isAbout_45 : decode cX12_isAbout 45 = .ok (.iload_n 2, 1) := by decide +kernel
theorem dX12_isAbout_46 : decode cX12_isAbout 46 = .ok (.iload 4, 2) := by decide +kernel
theorem dX12_isAbout_48 : decode cX12_isAbout 48 = .ok (.invokevirtual 280, 3) := by decide +kernel
theorem dX12_isAbout_51 : decode cX12_isAbout 51 = .ok (.iconst 1, 1) := by decide +kernel
theorem dX12_isAbout_52 : decode cX12_isAbout 52 = .ok (.ireturn, 1) := by decide +kernel
theorem dX12_isTest_0 : decode cX12_isTest 0 = .ok (.aload_n 0, 1) := by decide +kernel
theorem dX12_isTest_1 : decode cX12_isTest 1 = .ok (.aload_n 1, 1) := by decide +kernel
theorem dX12_isTest_2 : decode cX12_isTest 2 = .ok (.invokevirtual 284, 3) := by decide +kernel
theorem dX12_isTest_5 : decode cX12_isTest 5 = .ok (.ifCond .ne 5, 3) := by decide +kernel
theorem dX12_isTest_8 : decode cX12_isTest 8 = .ok (.iconst 0, 1) := by decide +kernel
theorem dX12_isTest_9 : decode cX12_isTest 9 = .ok (.ireturn, 1) := by decide +kernel
theorem dX12_isTest_10 : decode cX12_isTest 10 = .ok (.aload_n 0, 1) := by decide +kernel
theorem dX12_isTest_11 : decode cX12_isTest 11 = .ok (.bipush 16, 2) := by decide +kernel
theorem dX12_isTest_13 : decode cX12_isTest 13 = .ok (.invokevirtual 268, 3) := by decide +kernel
theorem dX12_isTest_16 : decode cX12_isTest 16 = .ok (.ifCond .eq 24, 3) := by decide +kernel
theorem dX12_isTest_19 : decode cX12_isTest 19 = .ok (.aload_n 0, 1) := by decide +kernel
theorem dX12_isTest_20 : decode cX12_isTest 20 = .ok (.aload_n 1, 1) := by decide +kernel
theorem dX12_isTest_21 : decode cX12_isTest 21 = .ok (.invokevirtual 284, 3) := by decide +kernel
theorem dX12_isTest_24 : decode cX12_isTest 24 = .ok (.ifCond .ne 5, 3) := by decide +kernel
theorem dX12_isTest_27 : decode cX12_isTest 27 = .ok (.iconst 0, 1) := by decide +kernel
theorem dX12_isTest_28 : decode cX12_isTest 28 = .ok (.ireturn, 1) := by decide +kernel
theorem dX12_isTest_29 : decode cX12_isTest 29 = .ok (.aload_n 0, 1) := by decide +kernel
theorem dX12_isTest_30 : decode cX12_isTest 30 = .ok (.aload_n 1, 1) := by decide +kernel
theorem dX12_isTest_31 : decode cX12_isTest 31 = .ok (.bipush 16, 2) := by decide +kernel
theorem dX12_isTest_33 : decode cX12_isTest 33 = .ok (.iconst 0, 1) := by decide +kernel
theorem dX12_isTest_34 : decode cX12_isTest 34 = .ok (.invokevirtual 280, 3) := by decide +kernel
theorem dX12_isTest_37 : decode cX12_isTest 37 = .ok (.goto (-27), 3) := by decide +kernel
theorem dX12_isTest_40 : decode cX12_isTest 40 = .ok (.iconst 1, 1) := by decide +kernel
theorem dX12_isTest_41 : decode cX12_isTest 41 = .ok (.ireturn, 1) := by decide +kernel
theorem dX12_isBoth_0 : decode cX12_isBoth 0 = .ok (.aload_n 0, 1) := by decide +kernel
theorem dX12_isBoth_1 : decode cX12_isBoth 1 = .ok (.aload_n 1, 1) := by decide +kernel
theorem dX12_isBoth_2 : decode cX12_isBoth 2 = .ok (.invokevirtual 288, 3) := by decide +kernel
theorem dX12_isBoth_5 : decode cX12_isBoth 5 = .ok (.ifCond .ne 5, 3) := by decide +kernel
theorem dX12_isBoth_8 : decode cX12_isBoth 8 = .ok (.iconst 0, 1) := by decide +kernel
theorem dX12_isBoth_9 : decode cX12_isBoth 9 = .ok (.ireturn, 1) := by decide +kernel
theorem dX12_isBoth_10 : decode cX12_isBoth 10 = .ok (.aload_n 0, 1) := by decide +kernel
theorem dX12_isBoth_11 : decode cX12_isBoth 11 = .ok (.bipush 15, 2) := by decide +kernel
theorem dX12_isBoth_13 : decode cX12_isBoth 13 = .ok (.invokevirtual 268, 3) := by decide +kernel
theorem dX12_isBoth_16 : decode cX12_isBoth 16 = .ok (.ifCond .eq 24, 3) := by decide +kernel
theorem dX12_isBoth_19 : decode cX12_isBoth 19 = .ok (.aload_n 0, 1) := by decide +kernel
theorem dX12_isBoth_20 : decode cX12_isBoth 20 = .ok (.aload_n 1, 1) := by decide +kernel
theorem dX12_isBoth_21 : decode cX12_isBoth 21 = .ok (.invokevirtual 288, 3) := by decide +kernel
theorem dX12_isBoth_24 : decode cX12_isBoth 24 = .ok (.ifCond .ne 5, 3) := by decide +kernel
theorem dX12_isBoth_27 : decode cX12_isBoth 27 = .ok (.iconst 0, 1) := by decide +kernel
theorem dX12_isBoth_28 : decode cX12_isBoth 28 = .ok (.ireturn, 1) := by decide +kernel
theorem dX12_isBoth_29 : decode cX12_isBoth 29 = .ok (.aload_n 0, 1) := by decide +kernel
theorem dX12_isBoth_30 : decode cX12_isBoth 30 = .ok (.aload_n 1, 1) := by decide +kernel
theorem dX12_isBoth_31 : decode cX12_isBoth 31 = .ok (.bipush 15, 2) := by decide +kernel
theorem dX12_isBoth_33 : decode cX12_isBoth 33 = .ok (.iconst 0, 1) := by decide +kernel
theorem dX12_isBoth_34 : decode cX12_isBoth 34 = .ok (.invokevirtual 280, 3) := by decide +kernel
theorem dX12_isBoth_37 : decode cX12_isBoth 37 = .ok (.goto (-27), 3) := by decide +kernel
theorem dX12_isBoth_40 : decode cX12_isBoth 40 = .ok (.iconst 1, 1) := by decide +kernel
theorem dX12_isBoth_41 : decode cX12_isBoth 41 = .ok (.ireturn, 1) := by decide +kernel
theorem dX12_isSingle_0 : decode cX12_isSingle 0 = .ok (.aload_n 0, 1) := by decide +kernel
theorem dX12_isSingle_1 : decode cX12_isSingle 1 = .ok (.getfield 24, 3) := by decide +kernel
theorem dX12_isSingle_4 : decode cX12_isSingle 4 = .ok (.aload_n 0, 1) := by decide +kernel
theorem dX12_isSingle_5 : decode cX12_isSingle 5 = .ok (.getfield 265, 3) := by decide +kernel
theorem dX12_isSingle_8 : decode cX12_isSingle 8 = .ok (.iaload, 1) := by decide +kernel
theorem dX12_isSingle_9 : decode cX12_isSingle 9 = .ok (.istore_n 2, 1) := by decide +kernel
theorem dX12_isSingle_10 : decode cX12_isSingle 10 = .ok (.iload_n 2, 1) := by decide +kernel
theorem dX12_isSingle_11 : decode cX12_isSingle 11 = .ok (.bipush 14, 2) := by decide +kernel
theorem dX12_isSingle_13 : decode cX12_isSingle 13 = .ok (.if_icmp .ne 42, 3) := by decide +kernel
theorem dX12_isSingle_16 : decode cX12_isSingle 16 = .ok (.aload_n 0, 1) := by decide +kernel
theorem dX12_isSingle_17 : decode cX12_isSingle 17 = .ok (.bipush 14, 2) := by decide +kernel
theorem dX12_isSingle_19 : decode cX12_isSingle 19 = .ok (.invokevirtual 291, 3) := by decide +kernel
theorem dX12_isSingle_22 : decode cX12_isSingle 22 = .ok (.ifCond .eq 11, 3) := by decide +kernel
theorem dX12_isSingle_25 : decode cX12_isSingle 25 = .ok (.aload_n 0, 1) := by decide +kernel
theorem dX12_isSingle_26 : decode cX12_isSingle 26 = .ok (.aload_n 1, 1) := by decide +kernel
theorem dX12_isSingle_27 : decode cX12_isSingle 27 = .ok (.invokevirtual 288, 3) := by decide +kernel
theorem dX12_isSingle_30 : decode cX12_isSingle 30 = .ok (.ifCond .ne 5, 3) := by decide +kernel
theorem dX12_isSingle_33 : decode cX12_isSingle 33 = .ok (.iconst 0, 1) := by decide +kernel
theorem dX12_isSingle_34 : decode cX12_isSingle 34 = .ok (.ireturn, 1) := by decide +kernel
theorem dX12_isSingle_35 : decode cX12_isSingle 35 = .ok (.aload_n 0, 1) := by decide +kernel
theorem dX12_isSingle_36 : decode cX12_isSingle 36 = .ok (.dup, 1) := by decide +kernel
theorem dX12_isSingle_37 : decode cX12_isSingle 37 = .ok (.getfield 271, 3) := by decide +kernel
theorem dX12_isSingle_40 : decode cX12_isSingle 40 = .ok (.iconst 1, 1) := by decide +kernel
theorem dX12_isSingle_41 : decode cX12_isSingle 41 = .ok (.isub, 1) := by decide +kernel
theorem dX12_isSingle_42 : decode cX12_isSingle 42 = .ok (.putfield 271, 3) := by decide +kernel
theorem dX12_isSingle_45 : decode cX12_isSingle 45 = .ok (.aload_n 0, 1) := by decide +kernel
theorem dX12_isSingle_46 : decode cX12_isSingle 46 = .ok (.aload_n 1, 1) := by decide +kernel
theorem dX12_isSingle_47 : decode cX12_isSingle 47 = .ok (.bipush 14, 2) := by decide +kernel
theorem dX12_isSingle_49 : decode cX12_isSingle 49 = .ok (.iconst 0, 1) := by decide +kernel
theorem dX12_isSingle_50 : decode cX12_isSingle 50 = .ok (.invokevirtual 280, 3) := by decide +kernel
theorem dX12_isSingle_53 : decode cX12_isSingle 53 = .ok (.iconst 1, 1) := by decide +kernel
theorem dX12_isSingle_54 : decode cX12_isSingle 54 = .ok (.ireturn, 1) := by decide +kernel
theorem dX12_isSingle_55 : decode cX12_isSingle 55 = .ok (.iload_n 2, 1) := by decide +kernel
theorem dX12_isSingle_56 : decode cX12_isSingle 56 = .ok (.bipush 91, 2) := by decide +kernel
theorem dX12_isSingle_58 : decode cX12_isSingle 58 = .ok (.if_icmp .ne 35, 3) := by decide +kernel
theorem dX12_isSingle_61 : decode cX12_isSingle 61 = .ok (.aload_n 0, 1) := by decide +kernel
theorem dX12_isSingle_62 : decode cX12_isSingle 62 = .ok (.bipush 91, 2) := by decide +kernel
theorem dX12_isSingle_64 : decode cX12_isSingle 64 = .ok (.invokevirtual 291, 3) := by decide +kernel
theorem dX12_isSingle_67 : decode cX12_isSingle 67 = .ok (.ifCond .eq 24, 3) := by decide +kernel
theorem dX12_isSingle_70 : decode cX12_isSingle 70 = .ok (.aload_n 0, 1) := by decide +kernel
theorem dX12_isSingle_71 : decode cX12_isSingle 71 = .ok (.aload_n 1, 1) := by decide +kernel
theorem dX12_isSingle_72 : decode cX12_isSingle 72 = .ok (.invokevirtual 294, 3) := by decide +kernel
theorem dX12_isSingle_75 : decode cX12_isSingle 75 = .ok (.ifCond .eq 16, 3) := by decide +kernel
theorem dX12_isSingle_78 : decode cX12_isSingle 78 = .ok (.aload_n 0, 1) := by decide +kernel
theorem dX12_isSingle_79 : decode cX12_isSingle 79 = .ok (.bipush 93, 2) := by decide +kernel
theorem dX12_isSingle_81 : decode cX12_isSingle 81 = .ok (.invokevirtual 297, 3) := by decide +kernel
theorem dX12_isSingle_84 : decode cX12_isSingle 84 = .ok (.ifCond .eq 7, 3) := by decide +kernel
theorem dX12_isSingle_87 : decode cX12_isSingle 87 = .ok (.iconst 1, 1) := by decide +kernel
theorem dX12_isSingle_88 : decode cX12_isSingle 88 = .ok (.goto 4, 3) := by decide +kernel
theorem dX12_isSingle_91 : decode cX12_isSingle 91 = .ok (.iconst 0, 1) := by decide +kernel
theorem dX12_isSingle_92 : decode cX12_isSingle 92 = .ok (.ireturn, 1) := by decide +kernel
theorem dX12_isSingle_93 : decode cX12_isSingle 93 = .ok (.iload_n 2, 1) := by decide +kernel
theorem dX12_isSingle_94 : decode cX12_isSingle 94 = .ok (.bipush 13, 2) := by decide +kernel
theorem dX12_isSingle_96 : decode cX12_isSingle 96 = .ok (.if_icmp .ne 13, 3) := by decide +kernel
theorem dX12_isSingle_99 : decode cX12_isSingle 99 = .ok (.aload_n 0, 1) := by decide +kernel
theorem dX12_isSingle_100 : decode cX12_isSingle 100 = .ok (.aload_n 1, 1) := by decide +kernel
theorem dX12_isSingle_101 : decode cX12_isSingle 101 = .ok (.iload_n 2, 1) := by decide +kernel
theorem dX12_isSingle_102 : decode cX12_isSingle 102 = .ok (.iconst 0, 1) := by decide +kernel
theorem dX12_isSingle_103 : decode cX12_isSingle 103 = .ok (.invokevirtual 300, 3) := by decide +kernel
theorem dX12_isSingle_106 : decode cX12_isSingle 106 = .ok (.goto 8, 3) := by decide +kernel
theorem dX12_isSingle_109 : decode cX12_isSingle 109 = .ok (.aload_n 0, 1) := by decide +kernel
theorem dX12_isSingle_110 : decode cX12_isSingle 110 = .ok (.aload_n 1, 1) := by decide +kernel
theorem dX12_isSingle_111 : decode cX12_isSingle 111 = .ok (.invokevirtual 304, 3) := by decide +kernel
theorem dX12_isSingle_114 : decode cX12_isSingle 114 = .ok (.ireturn, 1) := by decide +kernel
theorem dX12_isCompare_0 : decode cX12_isCompare 0 = .ok (.aload_n 0, 1) := by decide +kernel
theorem dX12_isCompare_1 : decode cX12_isCompare 1 = .ok (.aload_n 1, 1) := by decide +kernel
theorem dX12_isCompare_2 : decode cX12_isCompare 2 = .ok (.invokevirtual 307, 3) := by decide +kernel
theorem dX12_isCompare_5 : decode cX12_isCompare 5 = .ok (.ifCond .ne 5, 3) := by decide +kernel
theorem dX12_isCompare_8 : decode cX12_isCompare 8 = .ok (.iconst 0, 1) := by decide +kernel
theorem dX12_isCompare_9 : decode cX12_isCompare 9 = .ok (.ireturn, 1) := by decide +kernel
theorem dX12_isCompare_10 : decode cX12_isCompare 10 = .ok (.aload_n 0, 1) := by decide +kernel
theorem dX12_isCompare_11 : decode cX12_isCompare 11 = .ok (.getfield 24, 3) := by decide +kernel
theorem dX12_isCompare_14 : decode cX12_isCompare 14 = .ok (.aload_n 0, 1) := by decide +kernel
theorem dX12_isCompare_15 : decode cX12_isCompare 15 = .ok (.getfield 265, 3) := by decide +kernel
theorem dX12_isCompare_18 : decode cX12_isCompare 18 = .ok (.iaload, 1) := by decide +kernel
theorem dX12_isCompare_19 : decode cX12_isCompare 19 = .ok (.istore_n 2, 1) := by decide +kernel
theorem dX12_isCompare_20 : decode cX12_isCompare 20 = .ok (.iload_n 2, 1) := by decide +kernel
theorem dX12_isCompare_21 : decode cX12_isCompare 21 = .ok (.bipush 60, 2) := by decide +kernel
theorem dX12_isCompare_23 : decode cX12_isCompare 23 = .ok (.if_icmp .ne 8, 3) := by decide +kernel
theorem dX12_isCompare_26 : decode cX12_isCompare 26 = .ok (.bipush 106, 2) := by decide +kernel
theorem dX12_isCompare_28 : decode cX12_isCompare 28 = .ok (.goto 50, 3) := by decide +kernel
theorem dX12_isCompare_31 : decode cX12_isCompare 31 = .ok (.iload_n 2, 1) := by decide +kernel
theorem dX12_isCompare_32 : decode cX12_isCompare 32 = .ok (.bipush 62, 2) := by decide +kernel
theorem dX12_isCompare_34 : decode cX12_isCompare 34 = .ok (.if_icmp .ne 8, 3) := by decide +kernel
theorem dX12_isCompare_37 : decode cX12_isCompare 37 = .ok (.bipush 107, 2) := by decide +kernel
theorem dX12_isCompare_39 : decode cX12_isCompare 39 = .ok (.goto 39, 3) := by decide +kernel
theorem dX12_isCompare_42 : decode cX12_isCompare 42 = .ok (.iload_n 2, 1) := by decide +kernel
theorem dX12_isCompare_43 : decode cX12_isCompare 43 = .ok (.bipush 61, 2) := by decide +kernel
theorem dX12_isCompare_45 : decode cX12_isCompare 45 = .ok (.if_icmp .ne 8, 3) := by decide +kernel
theorem dX12_isCompare_48 : decode cX12_isCompare 48 = .ok (.bipush 108, 2) := by decide +kernel
theorem dX12_isCompare_50 : decode cX12_isCompare 50 = .ok (.goto 28, 3) := by decide +kernel
theorem dX12_isCompare_53 : decode cX12_isCompare 53 = .ok (.iload_n 2, 1) := by decide +kernel
theorem dX12_isCompare_54 : decode cX12_isCompare 54 = .ok (.sipush 316, 3) := by decide +kernel
theorem dX12_isCompare_57 : decode cX12_isCompare 57 = .ok (.if_icmp .ne 8, 3) := by decide +kernel
theorem dX12_isCompare_60 : decode cX12_isCompare 60 = .ok (.bipush 109, 2) := by decide +kernel
theorem dX12_isCompare_62 : decode cX12_isCompare 62 = .ok (.goto 16, 3) := by decide +kernel
theorem dX12_isCompare_65 : decode cX12_isCompare 65 = .ok (.iload_n 2, 1) := by decide +kernel
theorem dX12_isCompare_66 : decode cX12_isCompare 66 = .ok (.sipush 318, 3) := by decide +kernel
theorem dX12_isCompare_69 : decode cX12_isCompare 69 = .ok (.if_icmp .ne 8, 3) := by decide +kernel
theorem dX12_isCompare_72 : decode cX12_isCompare 72 = .ok (.bipush 110, 2) := by decide +kernel
theorem dX12_isCompare_74 : decode cX12_isCompare 74 = .ok (.goto 4, 3) := by decide +kernel
theorem dX12_isCompare_77 : decode cX12_isCompare 77 = .ok (.iconst (-1), 1) := by decide +kernel
theorem dX12_isCompare_78 : decode cX12_isCompare 78 = .ok (.istore_n 3, 1) := by decide +kernel
theorem dX12_isCompare_79 : decode cX12_isCompare 79 = .ok (.iload_n 3, 1) := by decide +kernel
theorem dX12_isCompare_80 : decode cX12_isCompare 80 = .ok (.iconst (-1), 1) := by decide +kernel
theorem dX12_isCompare_81 : decode cX12_isCompare 81 = .ok (.if_icmp .ne 5, 3) := by decide +kernel
theorem dX12_isCompare_84 : decode cX12_isCompare 84 = .ok (.iconst 0, 1) := by decide +kernel
theorem dX12_isCompare_85 : decode cX12_isCompare 85 = .ok (.ireturn, 1) := by decide +kernel
theorem dX12_isCompare_86 : decode cX12_isCompare 86 = .ok (.aload_n 0, 1) := by decide +kernel
theorem dX12_isCompare_87 : decode cX12_isCompare 87 = .ok (.dup, 1) := by decide +kernel
theorem dX12_isCompare_88 : decode cX12_isCompare 88 = .ok (.getfield 265, 3) := by decide +kernel
theorem dX12_isCompare_91 : decode cX12_isCompare 91 = .ok (.iconst 1, 1) := by decide +kernel
theorem dX12_isCompare_92 : decode cX12_isCompare 92 = .ok (.iadd, 1) := by decide +kernel
theorem dX12_isCompare_93 : decode cX12_isCompare 93 = .ok (.putfield 265, 3) := by decide +kernel
theorem dX12_isCompare_96 : decode cX12_isCompare 96 = .ok (.aload_n 0, 1) := by decide +kernel
theorem dX12_isCompare_97 : decode cX12_isCompare 97 = .ok (.aload_n 1, 1) := by decide +kernel
theorem dX12_isCompare_98 : decode cX12_isCompare 98 = .ok (.invokevirtual 307, 3) := by decide +kernel
theorem dX12_isCompare_101 : decode cX12_isCompare 101 = .ok (.ifCond .ne 5, 3) := by decide +kernel
theorem dX12_isCompare_104 : decode cX12_isCompare 104 = .ok (.iconst 0, 1) := by decide +kernel
theorem dX12_isCompare_105 : decode cX12_isCompare 105 = .ok (.ireturn, 1) := by decide +kernel
theorem dX12_isCompare_106 : decode cX12_isCompare 106 = .ok (.aload_n 0, 1) := by decide +kernel
theorem dX12_isCompare_107 : decode cX12_isCompare 107 = .ok (.aload_n 1, 1) := by decide +kernel
theorem dX12_isCompare_108 : decode cX12_isCompare 108 = .ok (.iload_n 3, 1) := by decide +kernel
theorem dX12_isCompare_109 : decode cX12_isCompare 109 = .ok (.iconst 0, 1) := by decide +kernel
theorem dX12_isCompare_110 : decode cX12_isCompare 110 = .ok (.invokevirtual 280, 3) := by decide +kernel
theorem dX12_isCompare_113 : decode cX12_isCompare 113 = .ok (.iconst 1, 1) := by decide +kernel
theorem dX12_isCompare_114 : decode cX12_isCompare 114 = .ok (.ireturn, 1) := by decide +kernel
theorem dX12_isSum_0 : decode cX12_isSum 0 = .ok (.aload_n 0, 1) := by decide +kernel
theorem dX12_isSum_1 : decode cX12_isSum 1 = .ok (.aload_n 1, 1) := by decide +kernel
theorem dX12_isSum_2 : decode cX12_isSum 2 = .ok (.invokevirtual 310, 3) := by decide +kernel
theorem dX12_isSum_5 : decode cX12_isSum 5 = .ok (.ifCond .ne 5, 3) := by decide +kernel
theorem dX12_isSum_8 : decode cX12_isSum 8 = .ok (.iconst 0, 1) := by decide +kernel
theorem dX12_isSum_9 : decode cX12_isSum 9 = .ok (.ireturn, 1) := by decide +kernel
theorem dX12_isSum_10 : decode cX12_isSum 10 = .ok (.aload_n 0, 1) := by decide +kernel
theorem dX12_isSum_11 : decode cX12_isSum 11 = .ok (.getfield 24, 3) := by decide +kernel
theorem dX12_isSum_14 : decode cX12_isSum 14 = .ok (.aload_n 0, 1) := by decide +kernel
theorem dX12_isSum_15 : decode cX12_isSum 15 = .ok (.getfield 265, 3) := by decide +kernel
theorem dX12_isSum_18 : decode cX12_isSum 18 = .ok (.iaload, 1) := by decide +kernel
theorem dX12_isSum_19 : decode cX12_isSum 19 = .ok (.bipush 43, 2) := by decide +kernel
theorem dX12_isSum_21 : decode cX12_isSum 21 = .ok (.if_icmp .eq 17, 3) := by decide +kernel
theorem dX12_isSum_24 : decode cX12_isSum 24 = .ok (.aload_n 0, 1) := by decide +kernel
theorem dX12_isSum_25 : decode cX12_isSum 25 = .ok (.getfield 24, 3) := by decide +kernel
theorem dX12_isSum_28 : decode cX12_isSum 28 = .ok (.aload_n 0, 1) := by decide +kernel
theorem dX12_isSum_29 : decode cX12_isSum 29 = .ok (.getfield 265, 3) := by decide +kernel
theorem dX12_isSum_32 : decode cX12_isSum 32 = .ok (.iaload, 1) := by decide +kernel
theorem dX12_isSum_33 : decode cX12_isSum 33 = .ok (.bipush 45, 2) := by decide +kernel
theorem dX12_isSum_35 : decode cX12_isSum 35 = .ok (.if_icmp .ne 55, 3) := by decide +kernel
theorem dX12_isSum_38 : decode cX12_isSum 38 = .ok (.aload_n 0, 1) := by decide +kernel
theorem dX12_isSum_39 : decode cX12_isSum 39 = .ok (.getfield 24, 3) := by decide +kernel
theorem dX12_isSum_42 : decode cX12_isSum 42 = .ok (.aload_n 0, 1) := by decide +kernel
theorem dX12_isSum_43 : decode cX12_isSum 43 = .ok (.getfield 265, 3) := by decide +kernel
theorem dX12_isSum_46 : decode cX12_isSum 46 = .ok (.iaload, 1) := by decide +kernel
theorem dX12_isSum_47 : decode cX12_isSum 47 = .ok (.bipush 43, 2) := by decide +kernel
theorem dX12_isSum_49 : decode cX12_isSum 49 = .ok (.if_icmp .ne 8, 3) := by decide +kernel
theorem dX12_isSum_52 : decode cX12_isSum 52 = .ok (.bipush 101, 2) := by decide +kernel
theorem dX12_isSum_54 : decode cX12_isSum 54 = .ok (.goto 5, 3) := by decide +kernel
theorem dX12_isSum_57 : decode cX12_isSum 57 = .ok (.bipush 102, 2) := by decide +kernel
theorem dX12_isSum_59 : decode cX12_isSum 59 = .ok (.istore_n 2, 1) := by decide +kernel
theorem dX12_isSum_60 : decode cX12_isSum 60 = .ok (.aload_n 0, 1) := by decide +kernel
theorem dX12_isSum_61 : decode cX12_isSum 61 = .ok (.dup, 1) := by decide +kernel
theorem dX12_isSum_62 : decode cX12_isSum 62 = .ok (.getfield 265, 3) := by decide +kernel
theorem dX12_isSum_65 : decode cX12_isSum 65 = .ok (.iconst 1, 1) := by decide +kernel
theorem dX12_isSum_66 : decode cX12_isSum 66 = .ok (.iadd, 1) := by decide +kernel
theorem dX12_isSum_67 : decode cX12_isSum 67 = .ok (.putfield 265, 3) := by decide +kernel
theorem dX12_isSum_70 : decode cX12_isSum 70 = .ok (.aload_n 0, 1) := by decide +kernel
theorem dX12_isSum_71 : decode cX12_isSum 71 = .ok (.aload_n 1, 1) := by decide +kernel
theorem dX12_isSum_72 : decode cX12_isSum 72 = .ok (.invokevirtual 310, 3) := by decide +kernel
theorem dX12_isSum_75 : decode cX12_isSum 75 = .ok (.ifCond .ne 5, 3) := by decide +kernel
theorem dX12_isSum_78 : decode cX12_isSum 78 = .ok (.iconst 0, 1) := by decide +kernel
theorem dX12_isSum_79 : decode cX12_isSum 79 = .ok (.ireturn, 1) := by decide +kernel
theorem dX12_isSum_80 : decode cX12_isSum 80 = .ok (.aload_n 0, 1) := by decide +kernel
theorem dX12_isSum_81 : decode cX12_isSum 81 = .ok (.aload_n 1, 1) := by decide +kernel
theorem dX12_isSum_82 : decode cX12_isSum 82 = .ok (.iload_n 2, 1) := by decide +kernel
theorem dX12_isSum_83 : decode cX12_isSum 83 = .ok (.iconst 0, 1) := by decide +kernel
theorem dX12_isSum_84 : decode cX12_isSum 84 = .ok (.invokevirtual 280, 3) := by decide +kernel
theorem dX12_isSum_87 : decode cX12_isSum 87 = .ok (.goto (-77), 3) := by decide +kernel
theorem dX12_isSum_90 : decode cX12_isSum 90 = .ok (.iconst 1, 1) := by decide +kernel
theorem dX12_isSum_91 : decode cX12_isSum 91 = .ok (.ireturn, 1) := by decide +kernel
theorem dX12_isProduct_0 : decode cX12_isProduct 0 = .ok (.aload_n 0, 1) := by decide +kernel
theorem dX12_isProduct_1 : decode cX12_isProduct 1 = .ok (.aload_n 1, 1) := by decide +kernel
theorem dX12_isProduct_2 : decode cX12_isProduct 2 = .ok (.invokevirtual 313, 3) := by decide +kernel
theorem dX12_isProduct_5 : decode cX12_isProduct 5 = .ok (.ifCond .ne 5, 3) := by decide +kernel
theorem dX12_isProduct_8 : decode cX12_isProduct 8 = .ok (.iconst 0, 1) := by decide +kernel
theorem dX12_isProduct_9 : decode cX12_isProduct 9 = .ok (.ireturn, 1) := by decide +kernel
theorem dX12_isProduct_10 : decode cX12_isProduct 10 = .ok (.aload_n 0, 1) := by decide +kernel
theorem dX12_isProduct_11 : decode cX12_isProduct 11 = .ok (.getfield 24, 3) := by decide +kernel
theorem dX12_isProduct_14 : decode cX12_isProduct 14 = .ok (.aload_n 0, 1) := by decide +kernel
theorem dX12_isProduct_15 : decode cX12_isProduct 15 = .ok (.getfield 265, 3) := by decide +kernel
theorem dX12_isProduct_18 : decode cX12_isProduct 18 = .ok (.iaload, 1) := by decide +kernel
theorem dX12_isProduct_19 : decode cX12_isProduct 19 = .ok (.bipush 42, 2) := by decide +kernel
theorem dX12_isProduct_21 : decode cX12_isProduct 21 = .ok (.if_icmp .eq 17, 3) := by decide +kernel
theorem dX12_isProduct_24 : decode cX12_isProduct 24 = .ok (.aload_n 0, 1) := by decide +kernel
theorem dX12_isProduct_25 : decode cX12_isProduct 25 = .ok (.getfield 24, 3) := by decide +kernel
theorem dX12_isProduct_28 : decode cX12_isProduct 28 = .ok (.aload_n 0, 1) := by decide +kernel
theorem dX12_isProduct_29 : decode cX12_isProduct 29 = .ok (.getfield 265, 3) := by decide +kernel
theorem dX12_isProduct_32 : decode cX12_isProduct 32 = .ok (.iaload, 1) := by decide +kernel
theorem dX12_isProduct_33 : decode cX12_isProduct 33 = .ok (.bipush 47, 2) := by decide +kernel
theorem dX12_isProduct_35 : decode cX12_isProduct 35 = .ok (.if_icmp .ne 55, 3) := by decide +kernel
theorem dX12_isProduct_38 : decode cX12_isProduct 38 = .ok (.aload_n 0, 1) := by decide +kernel
theorem dX12_isProduct_39 : decode cX12_isProduct 39 = .ok (.getfield 24, 3) := by decide +kernel
theorem dX12_isProduct_42 : decode cX12_isProduct 42 = .ok (.aload_n 0, 1) := by decide +kernel
theorem dX12_isProduct_43 : decode cX12_isProduct 43 = .ok (.getfield 265, 3) := by decide +kernel
theorem dX12_isProduct_46 : decode cX12_isProduct 46 = .ok (.iaload, 1) := by decide +kernel
theorem dX12_isProduct_47 : decode cX12_isProduct 47 = .ok (.bipush 42, 2) := by decide +kernel
theorem dX12_isProduct_49 : decode cX12_isProduct 49 = .ok (.if_icmp .ne 8, 3) := by decide +kernel
theorem dX12_isProduct_52 : decode cX12_isProduct 52 = .ok (.bipush 103, 2) := by decide +kernel
theorem dX12_isProduct_54 : decode cX12_isProduct 54 = .ok (.goto 5, 3) := by decide +kernel
theorem dX12_isProduct_57 : decode cX12_isProduct 57 = .ok (.bipush 104, 2) := by decide +kernel
theorem dX12_isProduct_59 : decode cX12_isProduct 59 = .ok (.istore_n 2, 1) := by decide +kernel
theorem dX12_isProduct_60 : decode cX12_isProduct 60 = .ok (.aload_n 0, 1) := by decide +kernel
theorem dX12_isProduct_61 : decode cX12_isProduct 61 = .ok (.dup, 1) := by decide +kernel
theorem dX12_isProduct_62 : decode cX12_isProduct 62 = .ok (.getfield 265, 3) := by decide +kernel
theorem dX12_isProduct_65 : decode cX12_isProduct 65 = .ok (.iconst 1, 1) := by decide +kernel
theorem dX12_isProduct_66 : decode cX12_isProduct 66 = .ok (.iadd, 1) := by decide +kernel
theorem dX12_isProduct_67 : decode cX12_isProduct 67 = .ok (.putfield 265, 3) := by decide +kernel
theorem dX12_isProduct_70 : decode cX12_isProduct 70 = .ok (.aload_n 0, 1) := by decide +kernel
theorem dX12_isProduct_71 : decode cX12_isProduct 71 = .ok (.aload_n 1, 1) := by decide +kernel
theorem dX12_isProduct_72 : decode cX12_isProduct 72 = .ok (.invokevirtual 313, 3) := by decide +kernel
theorem dX12_isProduct_75 : decode cX12_isProduct 75 = .ok (.ifCond .ne 5, 3) := by decide +kernel
theorem dX12_isProduct_78 : decode cX12_isProduct 78 = .ok (.iconst 0, 1) := by decide +kernel
theorem dX12_isProduct_79 : decode cX12_isProduct 79 = .ok (.ireturn, 1) := by decide +kernel
theorem dX12_isProduct_80 : decode cX12_isProduct 80 = .ok (.aload_n 0, 1) := by decide +kernel
theorem dX12_isProduct_81 : decode cX12_isProduct 81 = .ok (.aload_n 1, 1) := by decide +kernel
theorem dX12_isProduct_82 : decode cX12_isProduct 82 = .ok (.iload_n 2, 1) := by decide +kernel
theorem dX12_isProduct_83 : decode cX12_isProduct 83 = .ok (.iconst 0, 1) := by decide +kernel
theorem dX12_isProduct_84 : decode cX12_isProduct 84 = .ok (.invokevirtual 280, 3) := by decide +kernel
theorem dX12_isProduct_87 : decode cX12_isProduct 87 = .ok (.goto (-77), 3) := by decide +kernel
theorem dX12_isProduct_90 : decode cX12_isProduct 90 = .ok (.iconst 1, 1) := by decide +kernel
theorem dX12_isProduct_91 : decode cX12_isProduct 91 = .ok (.ireturn, 1) := by decide +kernel
theorem dX12_isValue_0 : decode cX12_isValue 0 = .ok (.aload_n 0, 1) := by decide +kernel
theorem dX12_isValue_1 : decode cX12_isValue 1 = .ok (.getfield 24, 3) := by decide +kernel
theorem dX12_isValue_4 : decode cX12_isValue 4 = .ok (.aload_n 0, 1) := by decide +kernel
theorem dX12_isValue_5 : decode cX12_isValue 5 = .ok (.getfield 265, 3) := by decide +kernel
theorem dX12_isValue_8 : decode cX12_isValue 8 = .ok (.iaload, 1) := by decide +kernel
theorem dX12_isValue_9 : decode cX12_isValue 9 = .ok (.istore_n 2, 1) := by decide +kernel
theorem dX12_isValue_10 : decode cX12_isValue 10 = .ok (.iload_n 2, 1) := by decide +kernel
theorem dX12_isValue_11 : decode cX12_isValue 11 = .ok (.bipush 45, 2) := by decide +kernel
theorem dX12_isValue_13 : decode cX12_isValue 13 = .ok (.if_icmp .ne 42, 3) := by decide +kernel
theorem dX12_isValue_16 : decode cX12_isValue 16 = .ok (.aload_n 0, 1) := by decide +kernel
theorem dX12_isValue_17 : decode cX12_isValue 17 = .ok (.bipush 45, 2) := by decide +kernel
theorem dX12_isValue_19 : decode cX12_isValue 19 = .ok (.invokevirtual 291, 3) := by decide +kernel
theorem dX12_isValue_22 : decode cX12_isValue 22 = .ok (.ifCond .eq 11, 3) := by decide +kernel
theorem dX12_isValue_25 : decode cX12_isValue 25 = .ok (.aload_n 0, 1) := by decide +kernel
theorem dX12_isValue_26 : decode cX12_isValue 26 = .ok (.aload_n 1, 1) := by decide +kernel
theorem dX12_isValue_27 : decode cX12_isValue 27 = .ok (.invokevirtual 313, 3) := by decide +kernel
theorem dX12_isValue_30 : decode cX12_isValue 30 = .ok (.ifCond .ne 5, 3) := by decide +kernel
theorem dX12_isValue_33 : decode cX12_isValue 33 = .ok (.iconst 0, 1) := by decide +kernel
theorem dX12_isValue_34 : decode cX12_isValue 34 = .ok (.ireturn, 1) := by decide +kernel
theorem dX12_isValue_35 : decode cX12_isValue 35 = .ok (.aload_n 0, 1) := by decide +kernel
theorem dX12_isValue_36 : decode cX12_isValue 36 = .ok (.dup, 1) := by decide +kernel
theorem dX12_isValue_37 : decode cX12_isValue 37 = .ok (.getfield 271, 3) := by decide +kernel
theorem dX12_isValue_40 : decode cX12_isValue 40 = .ok (.iconst 1, 1) := by decide +kernel
theorem dX12_isValue_41 : decode cX12_isValue 41 = .ok (.isub, 1) := by decide +kernel
theorem dX12_isValue_42 : decode cX12_isValue 42 = .ok (.putfield 271, 3) := by decide +kernel
theorem dX12_isValue_45 : decode cX12_isValue 45 = .ok (.aload_n 0, 1) := by decide +kernel
theorem dX12_isValue_46 : decode cX12_isValue 46 = .ok (.aload_n 1, 1) := by decide +kernel
theorem dX12_isValue_47 : decode cX12_isValue 47 = .ok (.bipush 105, 2) := by decide +kernel
theorem dX12_isValue_49 : decode cX12_isValue 49 = .ok (.iconst 0, 1) := by decide +kernel
theorem dX12_isValue_50 : decode cX12_isValue 50 = .ok (.invokevirtual 280, 3) := by decide +kernel
theorem dX12_isValue_53 : decode cX12_isValue 53 = .ok (.iconst 1, 1) := by decide +kernel
theorem dX12_isValue_54 : decode cX12_isValue 54 = .ok (.ireturn, 1) := by decide +kernel
theorem dX12_isValue_55 : decode cX12_isValue 55 = .ok (.iload_n 2, 1) := by decide +kernel
theorem dX12_isValue_56 : decode cX12_isValue 56 = .ok (.bipush 40, 2) := by decide +kernel
theorem dX12_isValue_58 : decode cX12_isValue 58 = .ok (.if_icmp .ne 35, 3) := by decide +kernel
theorem dX12_isValue_61 : decode cX12_isValue 61 = .ok (.aload_n 0, 1) := by decide +kernel
theorem dX12_isValue_62 : decode cX12_isValue 62 = .ok (.bipush 40, 2) := by decide +kernel
theorem dX12_isValue_64 : decode cX12_isValue 64 = .ok (.invokevirtual 291, 3) := by decide +kernel
theorem dX12_isValue_67 : decode cX12_isValue 67 = .ok (.ifCond .eq 24, 3) := by decide +kernel
theorem dX12_isValue_70 : decode cX12_isValue 70 = .ok (.aload_n 0, 1) := by decide +kernel
theorem dX12_isValue_71 : decode cX12_isValue 71 = .ok (.aload_n 1, 1) := by decide +kernel
theorem dX12_isValue_72 : decode cX12_isValue 72 = .ok (.invokevirtual 307, 3) := by decide +kernel
theorem dX12_isValue_75 : decode cX12_isValue 75 = .ok (.ifCond .eq 16, 3) := by decide +kernel
theorem dX12_isValue_78 : decode cX12_isValue 78 = .ok (.aload_n 0, 1) := by decide +kernel
theorem dX12_isValue_79 : decode cX12_isValue 79 = .ok (.bipush 41, 2) := by decide +kernel
theorem dX12_isValue_81 : decode cX12_isValue 81 = .ok (.invokevirtual 297, 3) := by decide +kernel
theorem dX12_isValue_84 : decode cX12_isValue 84 = .ok (.ifCond .eq 7, 3) := by decide +kernel
theorem dX12_isValue_87 : decode cX12_isValue 87 = .ok (.iconst 1, 1) := by decide +kernel
theorem dX12_isValue_88 : decode cX12_isValue 88 = .ok (.goto 4, 3) := by decide +kernel
theorem dX12_isValue_91 : decode cX12_isValue 91 = .ok (.iconst 0, 1) := by decide +kernel
theorem dX12_isValue_92 : decode cX12_isValue 92 = .ok (.ireturn, 1) := by decide +kernel
theorem dX12_isValue_93 : decode cX12_isValue 93 = .ok (.iload_n 2, 1) := by decide +kernel
theorem dX12_isValue_94 : decode cX12_isValue 94 = .ok (.bipush 17, 2) := by decide +kernel
theorem dX12_isValue_96 : decode cX12_isValue 96 = .ok (.if_icmp .eq 9, 3) := by decide +kernel
theorem dX12_isValue_99 : decode cX12_isValue 99 = .ok (.iload_n 2, 1) := by decide +kernel
theorem dX12_isValue_100 : decode cX12_isValue 100 = .ok (.bipush 18, 2) := by decide +kernel
theorem dX12_isValue_102 : decode cX12_isValue 102 = .ok (.if_icmp .ne 10, 3) := by decide +kernel
theorem dX12_isValue_105 : decode cX12_isValue 105 = .ok (.aload_n 0, 1) := by decide +kernel
theorem dX12_isValue_106 : decode cX12_isValue 106 = .ok (.aload_n 1, 1) := by decide +kernel
theorem dX12_isValue_107 : decode cX12_isValue 107 = .ok (.iload_n 2, 1) := by decide +kernel
theorem dX12_isValue_108 : decode cX12_isValue 108 = .ok (.invokevirtual 316, 3) := by decide +kernel
theorem dX12_isValue_111 : decode cX12_isValue 111 = .ok (.ireturn, 1) := by decide +kernel
theorem dX12_isValue_112 : decode cX12_isValue 112 = .ok (.iload_n 2, 1) := by decide +kernel
theorem dX12_isValue_113 : decode cX12_isValue 113 = .ok (.bipush 10, 2) := by decide +kernel
theorem dX12_isValue_115 : decode cX12_isValue 115 = .ok (.if_icmp .eq 9, 3) := by decide +kernel
theorem dX12_isValue_118 : decode cX12_isValue 118 = .ok (.iload_n 2, 1) := by decide +kernel
theorem dX12_isValue_119 : decode cX12_isValue 119 = .ok (.bipush 11, 2) := by decide +kernel
theorem dX12_isValue_121 : decode cX12_isValue 121 = .ok (.if_icmp .ne 11, 3) := by decide +kernel
theorem dX12_isValue_124 : decode cX12_isValue 124 = .ok (.aload_n 0, 1) := by decide +kernel
theorem dX12_isValue_125 : decode cX12_isValue 125 = .ok (.aload_n 1, 1) := by decide +kernel
theorem dX12_isValue_126 : decode cX12_isValue 126 = .ok (.iload_n 2, 1) := by decide +kernel
theorem dX12_isValue_127 : decode cX12_isValue 127 = .ok (.iconst 1, 1) := by decide +kernel
theorem dX12_isValue_128 : decode cX12_isValue 128 = .ok (.invokevirtual 300, 3) := by decide +kernel
theorem dX12_isValue_131 : decode cX12_isValue 131 = .ok (.ireturn, 1) := by decide +kernel
theorem dX12_isValue_132 : decode cX12_isValue 132 = .ok (.iload_n 2, 1) := by decide +kernel
theorem dX12_isValue_133 : decode cX12_isValue 133 = .ok (.bipush 31, 2) := by decide +kernel
theorem dX12_isValue_135 : decode cX12_isValue 135 = .ok (.if_icmp .ne 23, 3) := by decide +kernel
theorem dX12_isValue_138 : decode cX12_isValue 138 = .ok (.aload_n 0, 1) := by decide +kernel
theorem dX12_isValue_139 : decode cX12_isValue 139 = .ok (.aload_n 1, 1) := by decide +kernel
theorem dX12_isValue_140 : decode cX12_isValue 140 = .ok (.bipush 100, 2) := by decide +kernel
theorem dX12_isValue_142 : decode cX12_isValue 142 = .ok (.aload_n 0, 1) := by decide +kernel
theorem dX12_isValue_143 : decode cX12_isValue 143 = .ok (.getfield 33, 3) := by decide +kernel
theorem dX12_isValue_146 : decode cX12_isValue 146 = .ok (.aload_n 0, 1) := by decide +kernel
theorem dX12_isValue_147 : decode cX12_isValue 147 = .ok (.getfield 265, 3) := by decide +kernel
theorem dX12_isValue_150 : decode cX12_isValue 150 = .ok (.laload, 1) := by decide +kernel
theorem dX12_isValue_151 : decode cX12_isValue 151 = .ok (.l2i, 1) := by decide +kernel
theorem dX12_isValue_152 : decode cX12_isValue 152 = .ok (.invokevirtual 280, 3) := by decide +kernel
theorem dX12_isValue_155 : decode cX12_isValue 155 = .ok (.goto 26, 3) := by decide +kernel
theorem dX12_isValue_158 : decode cX12_isValue 158 = .ok (.iload_n 2, 1) := by decide +kernel
theorem dX12_isValue_159 : decode cX12_isValue 159 = .ok (.bipush 6, 2) := by decide +kernel
theorem dX12_isValue_161 : decode cX12_isValue 161 = .ok (.bipush 9, 2) := by decide +kernel
theorem dX12_isValue_163 : decode cX12_isValue 163 = .ok (.invokestatic 64, 3) := by decide +kernel
theorem dX12_isValue_166 : decode cX12_isValue 166 = .ok (.ifCond .eq 13, 3) := by decide +kernel
theorem dX12_isValue_169 : decode cX12_isValue 169 = .ok (.aload_n 0, 1) := by decide +kernel
theorem dX12_isValue_170 : decode cX12_isValue 170 = .ok (.aload_n 1, 1) := by decide +kernel
theorem dX12_isValue_171 : decode cX12_isValue 171 = .ok (.iload_n 2, 1) := by decide +kernel
theorem dX12_isValue_172 : decode cX12_isValue 172 = .ok (.iconst 0, 1) := by decide +kernel
theorem dX12_isValue_173 : decode cX12_isValue 173 = .ok (.invokevirtual 280, 3) := by decide +kernel
theorem dX12_isValue_176 : decode cX12_isValue 176 = .ok (.goto 5, 3) := by decide +kernel
theorem dX12_isValue_179 : decode cX12_isValue 179 = .ok (.iconst 0, 1) := by decide +kernel
theorem dX12_isValue_180 : decode cX12_isValue 180 = .ok (.ireturn, 1) := by decide +kernel
theorem dX12_isValue_181 : decode cX12_isValue 181 = .ok (.aload_n 0, 1) := by decide +kernel
theorem dX12_isValue_182 : decode cX12_isValue 182 = .ok (.dup, 1) := by decide +kernel
theorem dX12_isValue_183 : decode cX12_isValue 183 = .ok (.getfield 265, 3) := by decide +kernel
theorem dX12_isValue_186 : decode cX12_isValue 186 = .ok (.iconst 1, 1) := by decide +kernel
theorem dX12_isValue_187 : decode cX12_isValue 187 = .ok (.iadd, 1) := by decide +kernel
theorem dX12_isValue_188 : decode cX12_isValue 188 = .ok (.putfield 265, 3) := by decide +kernel
theorem dX12_isValue_191 : decode cX12_isValue 191 = .ok (.iconst 1, 1) := by decide +kernel
theorem dX12_isValue_192 : decode cX12_isValue 192 = .ok (.ireturn, 1) := by decide +kernel
theorem dX12_isOfTwo_0 : decode cX12_isOfTwo 0 = .ok (.aload_n 0, 1) := by decide +kernel
theorem dX12_isOfTwo_1 : decode cX12_isOfTwo 1 = .ok (.dup, 1) := by decide +kernel
theorem dX12_isOfTwo_2 : decode cX12_isOfTwo 2 = .ok (.getfield 265, 3) := by decide +kernel
theorem dX12_isOfTwo_5 : decode cX12_isOfTwo 5 = .ok (.iconst 1, 1) := by decide +kernel
theorem dX12_isOfTwo_6 : decode cX12_isOfTwo 6 = .ok (.iadd, 1) := by decide +kernel
theorem dX12_isOfTwo_7 : decode cX12_isOfTwo 7 = .ok (.putfield 265, 3) := by decide +kernel
theorem dX12_isOfTwo_10 : decode cX12_isOfTwo 10 = .ok (.aload_n 0, 1) := by decide +kernel
theorem dX12_isOfTwo_11 : decode cX12_isOfTwo 11 = .ok (.bipush 40, 2) := by decide +kernel
theorem dX12_isOfTwo_13 : decode cX12_isOfTwo 13 = .ok (.invokevirtual 291, 3) := by decide +kernel
theorem dX12_isOfTwo_16 : decode cX12_isOfTwo 16 = .ok (.ifCond .eq 37, 3) := by decide +kernel
theorem dX12_isOfTwo_19 : decode cX12_isOfTwo 19 = .ok (.aload_n 0, 1) := by decide +kernel
theorem dX12_isOfTwo_20 : decode cX12_isOfTwo 20 = .ok (.aload_n 1, 1) := by decide +kernel
theorem dX12_isOfTwo_21 : decode cX12_isOfTwo 21 = .ok (.invokevirtual 307, 3) := by decide +kernel
theorem dX12_isOfTwo_24 : decode cX12_isOfTwo 24 = .ok (.ifCond .eq 29, 3) := by decide +kernel
theorem dX12_isOfTwo_27 : decode cX12_isOfTwo 27 = .ok (.aload_n 0, 1) := by decide +kernel
theorem dX12_isOfTwo_28 : decode cX12_isOfTwo 28 = .ok (.bipush 44, 2) := by decide +kernel
theorem dX12_isOfTwo_30 : decode cX12_isOfTwo 30 = .ok (.invokevirtual 268, 3) := by decide +kernel
theorem dX12_isOfTwo_33 : decode cX12_isOfTwo 33 = .ok (.ifCond .eq 20, 3) := by decide +kernel
theorem dX12_isOfTwo_36 : decode cX12_isOfTwo 36 = .ok (.aload_n 0, 1) := by decide +kernel
theorem dX12_isOfTwo_37 : decode cX12_isOfTwo 37 = .ok (.aload_n 1, 1) := by decide +kernel
theorem dX12_isOfTwo_38 : decode cX12_isOfTwo 38 = .ok (.invokevirtual 307, 3) := by decide +kernel
theorem dX12_isOfTwo_41 : decode cX12_isOfTwo 41 = .ok (.ifCond .eq 12, 3) := by decide +kernel
theorem dX12_isOfTwo_44 : decode cX12_isOfTwo 44 = .ok (.aload_n 0, 1) := by decide +kernel
theorem dX12_isOfTwo_45 : decode cX12_isOfTwo 45 = .ok (.bipush 41, 2) := by decide +kernel
theorem dX12_isOfTwo_47 : decode cX12_isOfTwo 47 = .ok (.invokevirtual 297, 3) := by decide +kernel
theorem dX12_isOfTwo_50 : decode cX12_isOfTwo 50 = .ok (.ifCond .ne 5, 3) := by decide +kernel
theorem dX12_isOfTwo_53 : decode cX12_isOfTwo 53 = .ok (.iconst 0, 1) := by decide +kernel
theorem dX12_isOfTwo_54 : decode cX12_isOfTwo 54 = .ok (.ireturn, 1) := by decide +kernel
theorem dX12_isOfTwo_55 : decode cX12_isOfTwo 55 = .ok (.aload_n 0, 1) := by decide +kernel
theorem dX12_isOfTwo_56 : decode cX12_isOfTwo 56 = .ok (.aload_n 1, 1) := by decide +kernel
theorem dX12_isOfTwo_57 : decode cX12_isOfTwo 57 = .ok (.iload_n 2, 1) := by decide +kernel
theorem dX12_isOfTwo_58 : decode cX12_isOfTwo 58 = .ok (.iconst 0, 1) := by decide +kernel
theorem dX12_isOfTwo_59 : decode cX12_isOfTwo 59 = .ok (.invokevirtual 280, 3) := by decide +kernel
theorem dX12_isOfTwo_62 : decode cX12_isOfTwo 62 = .ok (.iconst 1, 1) := by decide +kernel
theorem dX12_isOfTwo_63 : decode cX12_isOfTwo 63 = .ok (.ireturn, 1) := by decide +kernel
theorem dX12_isOrder_0 : decode cX12_isOrder 0 = .ok (.bipush 15, 2) := by decide +kernel
theorem dX12_isOrder_2 : decode cX12_isOrder 2 = .ok (.aload_n 0, 1) := by decide +kernel
theorem dX12_isOrder_3 : decode cX12_isOrder 3 = .ok (.getfield 320, 3) := by decide +kernel
theorem dX12_isOrder_6 : decode cX12_isOrder 6 = .ok (.invokestatic 176, 3) := by decide +kernel
theorem dX12_isOrder_9 : decode cX12_isOrder 9 = .ok (.istore_n 2, 1) := by decide +kernel
theorem dX12_isOrder_10 : decode cX12_isOrder 10 = .ok (.aload_n 0, 1) := by decide +kernel
theorem dX12_isOrder_11 : decode cX12_isOrder 11 = .ok (.dup, 1) := by decide +kernel
theorem dX12_isOrder_12 : decode cX12_isOrder 12 = .ok (.getfield 320, 3) := by decide +kernel
theorem dX12_isOrder_15 : decode cX12_isOrder 15 = .ok (.iconst 1, 1) := by decide +kernel
theorem dX12_isOrder_16 : decode cX12_isOrder 16 = .ok (.iadd, 1) := by decide +kernel
theorem dX12_isOrder_17 : decode cX12_isOrder 17 = .ok (.putfield 320, 3) := by decide +kernel
theorem dX12_isOrder_20 : decode cX12_isOrder 20 = .ok (.aload_n 0, 1) := by decide +kernel
theorem dX12_isOrder_21 : decode cX12_isOrder 21 = .ok (.getfield 24, 3) := by decide +kernel
theorem dX12_isOrder_24 : decode cX12_isOrder 24 = .ok (.aload_n 0, 1) := by decide +kernel
theorem dX12_isOrder_25 : decode cX12_isOrder 25 = .ok (.getfield 265, 3) := by decide +kernel
theorem dX12_isOrder_28 : decode cX12_isOrder 28 = .ok (.iaload, 1) := by decide +kernel
theorem dX12_isOrder_29 : decode cX12_isOrder 29 = .ok (.istore_n 3, 1) := by decide +kernel
theorem dX12_isOrder_30 : decode cX12_isOrder 30 = .ok (.aload_n 1, 1) := by decide +kernel
theorem dX12_isOrder_31 : decode cX12_isOrder 31 = .ok (.getfield 151, 3) := by decide +kernel
theorem dX12_isOrder_34 : decode cX12_isOrder 34 = .ok (.iload_n 2, 1) := by decide +kernel
theorem dX12_isOrder_35 : decode cX12_isOrder 35 = .ok (.iload_n 3, 1) := by decide +kernel
theorem dX12_isOrder_36 : decode cX12_isOrder 36 = .ok (.iastore, 1) := by decide +kernel
theorem dX12_isOrder_37 : decode cX12_isOrder 37 = .ok (.aload_n 0, 1) := by decide +kernel
theorem dX12_isOrder_38 : decode cX12_isOrder 38 = .ok (.getfield 30, 3) := by decide +kernel
theorem dX12_isOrder_41 : decode cX12_isOrder 41 = .ok (.aload_n 0, 1) := by decide +kernel
theorem dX12_isOrder_42 : decode cX12_isOrder 42 = .ok (.getfield 265, 3) := by decide +kernel
theorem dX12_isOrder_45 : decode cX12_isOrder 45 = .ok (.iconst 2, 1) := by decide +kernel
theorem dX12_isOrder_46 : decode cX12_isOrder 46 = .ok (.iastore, 1) := by decide +kernel
theorem dX12_isOrder_47 : decode cX12_isOrder 47 = .ok (.aload_n 0, 1) := by decide +kernel
theorem dX12_isOrder_48 : decode cX12_isOrder 48 = .ok (.dup, 1) := by decide +kernel
theorem dX12_isOrder_49 : decode cX12_isOrder 49 = .ok (.getfield 265, 3) := by decide +kernel
theorem dX12_isOrder_52 : decode cX12_isOrder 52 = .ok (.iconst 1, 1) := by decide +kernel
theorem dX12_isOrder_53 : decode cX12_isOrder 53 = .ok (.iadd, 1) := by decide +kernel
theorem dX12_isOrder_54 : decode cX12_isOrder 54 = .ok (.putfield 265, 3) := by decide +kernel
theorem dX12_isOrder_57 : decode cX12_isOrder 57 = .ok (.aload_n 1, 1) := by decide +kernel
theorem dX12_isOrder_58 : decode cX12_isOrder 58 = .ok (.getfield 167, 3) := by decide +kernel
theorem dX12_isOrder_61 : decode cX12_isOrder 61 = .ok (.iload_n 2, 1) := by decide +kernel
theorem dX12_isOrder_62 : decode cX12_isOrder 62 = .ok (.aload_n 1, 1) := by decide +kernel
theorem dX12_isOrder_63 : decode cX12_isOrder 63 = .ok (.getfield 274, 3) := by decide +kernel
theorem dX12_isOrder_66 : decode cX12_isOrder 66 = .ok (.iastore, 1) := by decide +kernel
theorem dX12_isOrder_67 : decode cX12_isOrder 67 = .ok (.iload_n 3, 1) := by decide +kernel
theorem dX12_isOrder_68 : decode cX12_isOrder 68 = .ok (.iconst 1, 1) := by decide +kernel
theorem dX12_isOrder_69 : decode cX12_isOrder 69 = .ok (.if_icmp .ne 13, 3) := by decide +kernel
theorem dX12_isOrder_72 : decode cX12_isOrder 72 = .ok (.aload_n 0, 1) := by decide +kernel
theorem dX12_isOrder_73 : decode cX12_isOrder 73 = .ok (.bipush 30, 2) := by decide +kernel
theorem dX12_isOrder_75 : decode cX12_isOrder 75 = .ok (.iconst 3, 1) := by decide +kernel
theorem dX12_isOrder_76 : decode cX12_isOrder 76 = .ok (.invokevirtual 277, 3) := by decide +kernel
theorem dX12_isOrder_79 : decode cX12_isOrder 79 = .ok (.goto 23, 3) := by decide +kernel
theorem dX12_isOrder_82 : decode cX12_isOrder 82 = .ok (.iload_n 3, 1) := by decide +kernel
theorem dX12_isOrder_83 : decode cX12_isOrder 83 = .ok (.iconst 2, 1) := by decide +kernel
theorem dX12_isOrder_84 : decode cX12_isOrder 84 = .ok (.if_icmp .ne 13, 3) := by decide +kernel
theorem dX12_isOrder_87 : decode cX12_isOrder 87 = .ok (.aload_n 0, 1) := by decide +kernel
theorem dX12_isOrder_88 : decode cX12_isOrder 88 = .ok (.bipush 30, 2) := by decide +kernel
theorem dX12_isOrder_90 : decode cX12_isOrder 90 = .ok (.iconst 4, 1) := by decide +kernel
theorem dX12_isOrder_91 : decode cX12_isOrder 91 = .ok (.invokevirtual 277, 3) := by decide +kernel
theorem dX12_isOrder_94 : decode cX12_isOrder 94 = .ok (.goto 8, 3) := by decide +kernel
theorem dX12_isOrder_97 : decode cX12_isOrder 97 = .ok (.aload_n 0, 1) := by decide +kernel
theorem dX12_isOrder_98 : decode cX12_isOrder 98 = .ok (.aload_n 1, 1) := by decide +kernel
theorem dX12_isOrder_99 : decode cX12_isOrder 99 = .ok (.invokevirtual 307, 3) := by decide +kernel
theorem dX12_isOrder_102 : decode cX12_isOrder 102 = .ok (.istore 4, 2) := by decide +kernel
theorem dX12_isOrder_104 : decode cX12_isOrder 104 = .ok (.iload 4, 2) := by decide +kernel
theorem dX12_isOrder_106 : decode cX12_isOrder 106 = .ok (.ifCond .ne 5, 3) := by decide +kernel
theorem dX12_isOrder_109 : decode cX12_isOrder 109 = .ok (.iconst 0, 1) := by decide +kernel
theorem dX12_isOrder_110 : decode cX12_isOrder 110 = .ok (.ireturn, 1) := by decide +kernel
theorem dX12_isOrder_111 : decode cX12_isOrder 111 = .ok (.aload_n 1, 1) := by decide +kernel
theorem dX12_isOrder_112 : decode cX12_isOrder 112 = .ok (.getfield 170, 3) := by decide +kernel
theorem dX12_isOrder_115 : decode cX12_isOrder 115 = .ok (.iload_n 2, 1) := by decide +kernel
theorem dX12_isOrder_116 : decode cX12_isOrder 116 = .ok (.aload_n 1, 1) := by decide +kernel
theorem dX12_isOrder_117 : decode cX12_isOrder 117 = .ok (.getfield 274, 3) := by decide +kernel
theorem dX12_isOrder_120 : decode cX12_isOrder 120 = .ok (.iastore, 1) := by decide +kernel
theorem dX12_isOrder_121 : decode cX12_isOrder 121 = .ok (.aload_n 0, 1) := by decide +kernel
theorem dX12_isOrder_122 : decode cX12_isOrder 122 = .ok (.iconst 5, 1) := by decide +kernel
theorem dX12_isOrder_123 : decode cX12_isOrder 123 = .ok (.invokevirtual 268, 3) := by decide +kernel
theorem dX12_isOrder_126 : decode cX12_isOrder 126 = .ok (.ifCond .eq 13, 3) := by decide +kernel
theorem dX12_isOrder_129 : decode cX12_isOrder 129 = .ok (.aload_n 0, 1) := by decide +kernel
theorem dX12_isOrder_130 : decode cX12_isOrder 130 = .ok (.aload_n 1, 1) := by decide +kernel
theorem dX12_isOrder_131 : decode cX12_isOrder 131 = .ok (.invokevirtual 294, 3) := by decide +kernel
theorem dX12_isOrder_134 : decode cX12_isOrder 134 = .ok (.ifCond .ne 5, 3) := by decide +kernel
theorem dX12_isOrder_137 : decode cX12_isOrder 137 = .ok (.iconst 0, 1) := by decide +kernel
theorem dX12_isOrder_138 : decode cX12_isOrder 138 = .ok (.ireturn, 1) := by decide +kernel
theorem dX12_isOrder_139 : decode cX12_isOrder 139 = .ok (.aload_n 1, 1) := by decide +kernel
theorem dX12_isOrder_140 : decode cX12_isOrder 140 = .ok (.getfield 188, 3) := by decide +kernel
theorem dX12_isOrder_143 : decode cX12_isOrder 143 = .ok (.iload_n 2, 1) := by decide +kernel
theorem dX12_isOrder_144 : decode cX12_isOrder 144 = .ok (.aload_n 1, 1) := by decide +kernel
theorem dX12_isOrder_145 : decode cX12_isOrder 145 = .ok (.getfield 274, 3) := by decide +kernel
theorem dX12_isOrder_148 : decode cX12_isOrder 148 = .ok (.iastore, 1) := by decide +kernel
theorem dX12_isOrder_149 : decode cX12_isOrder 149 = .ok (.iconst 1, 1) := by decide +kernel
theorem dX12_isOrder_150 : decode cX12_isOrder 150 = .ok (.ireturn, 1) := by decide +kernel
theorem dX12_isLine_0 : decode cX12_isLine 0 = .ok (.aload_n 0, 1) := by decide +kernel
theorem dX12_isLine_1 : decode cX12_isLine 1 = .ok (.iconst 0, 1) := by decide +kernel
theorem dX12_isLine_2 : decode cX12_isLine 2 = .ok (.invokevirtual 268, 3) := by decide +kernel
theorem dX12_isLine_5 : decode cX12_isLine 5 = .ok (.ifCond .eq 11, 3) := by decide +kernel
theorem dX12_isLine_8 : decode cX12_isLine 8 = .ok (.aload_n 0, 1) := by decide +kernel
theorem dX12_isLine_9 : decode cX12_isLine 9 = .ok (.bipush 30, 2) := by decide +kernel
theorem dX12_isLine_11 : decode cX12_isLine 11 = .ok (.iconst 1, 1) := by decide +kernel
theorem dX12_isLine_12 : decode cX12_isLine 12 = .ok (.invokevirtual 277, 3) := by decide +kernel
theorem dX12_isLine_15 : decode cX12_isLine 15 = .ok (.ireturn, 1) := by decide +kernel
theorem dX12_isLine_16 : decode cX12_isLine 16 = .ok (.aload_n 0, 1) := by decide +kernel
theorem dX12_isLine_17 : decode cX12_isLine 17 = .ok (.getfield 24, 3) := by decide +kernel
theorem dX12_isLine_20 : decode cX12_isLine 20 = .ok (.aload_n 0, 1) := by decide +kernel
theorem dX12_isLine_21 : decode cX12_isLine 21 = .ok (.getfield 265, 3) := by decide +kernel
theorem dX12_isLine_24 : decode cX12_isLine 24 = .ok (.iaload, 1) := by decide +kernel
theorem dX12_isLine_25 : decode cX12_isLine 25 = .ok (.iconst 1, 1) := by decide +kernel
theorem dX12_isLine_26 : decode cX12_isLine 26 = .ok (.iconst 4, 1) := by decide +kernel
theorem dX12_isLine_27 : decode cX12_isLine 27 = .ok (.invokestatic 64, 3) := by decide +kernel
theorem dX12_isLine_30 : decode cX12_isLine 30 = .ok (.ifCond .eq 15, 3) := by decide +kernel
theorem dX12_isLine_33 : decode cX12_isLine 33 = .ok (.aload_n 0, 1) := by decide +kernel
theorem dX12_isLine_34 : decode cX12_isLine 34 = .ok (.aload_n 1, 1) := by decide +kernel
theorem dX12_isLine_35 : decode cX12_isLine 35 = .ok (.invokevirtual 323, 3) := by decide +kernel
theorem dX12_isLine_38 : decode cX12_isLine 38 = .ok (.ifCond .eq 7, 3) := by decide +kernel
theorem dX12_isLine_41 : decode cX12_isLine 41 = .ok (.iconst 1, 1) := by decide +kernel
theorem dX12_isLine_42 : decode cX12_isLine 42 = .ok (.goto 4, 3) := by decide +kernel
theorem dX12_isLine_45 : decode cX12_isLine 45 = .ok (.iconst 0, 1) := by decide +kernel
theorem dX12_isLine_46 : decode cX12_isLine 46 = .ok (.ireturn, 1) := by decide +kernel
theorem dX12_isBook_0 : decode cX12_isBook 0 = .ok (.aload_n 0, 1) := by decide +kernel
theorem dX12_isBook_1 : decode cX12_isBook 1 = .ok (.getfield 24, 3) := by decide +kernel
theorem dX12_isBook_4 : decode cX12_isBook 4 = .ok (.aload_n 0, 1) := by decide +kernel
theorem dX12_isBook_5 : decode cX12_isBook 5 = .ok (.getfield 265, 3) := by decide +kernel
theorem dX12_isBook_8 : decode cX12_isBook 8 = .ok (.iaload, 1) := by decide +kernel
theorem dX12_isBook_9 : decode cX12_isBook 9 = .ok (.bipush 33, 2) := by decide +kernel
theorem dX12_isBook_11 : decode cX12_isBook 11 = .ok (.if_icmp .eq 22, 3) := by decide +kernel
theorem dX12_isBook_14 : decode cX12_isBook 14 = .ok (.aload_n 0, 1) := by decide +kernel
theorem dX12_isBook_15 : decode cX12_isBook 15 = .ok (.aload_n 1, 1) := by decide +kernel
theorem dX12_isBook_16 : decode cX12_isBook 16 = .ok (.invokevirtual 326, 3) := by decide +kernel
theorem dX12_isBook_19 : decode cX12_isBook 19 = .ok (.ifCond .eq 12, 3) := by decide +kernel
theorem dX12_isBook_22 : decode cX12_isBook 22 = .ok (.aload_n 0, 1) := by decide +kernel
theorem dX12_isBook_23 : decode cX12_isBook 23 = .ok (.bipush 59, 2) := by decide +kernel
theorem dX12_isBook_25 : decode cX12_isBook 25 = .ok (.invokevirtual 268, 3) := by decide +kernel
theorem dX12_isBook_28 : decode cX12_isBook 28 = .ok (.ifCond .ne (-28), 3) := by decide +kernel
theorem dX12_isBook_31 : decode cX12_isBook 31 = .ok (.iconst 0, 1) := by decide +kernel
theorem dX12_isBook_32 : decode cX12_isBook 32 = .ok (.ireturn, 1) := by decide +kernel
theorem dX12_isBook_33 : decode cX12_isBook 33 = .ok (.iconst 1, 1) := by decide +kernel
theorem dX12_isBook_34 : decode cX12_isBook 34 = .ok (.ireturn, 1) := by decide +kernel
theorem dX12_find_0 : decode cX12_find 0 = .ok (.iconst 0, 1) := by decide +kernel
theorem dX12_find_1 : decode cX12_find 1 = .ok (.istore_n 3, 1) := by decide +kernel
theorem dX12_find_2 : decode cX12_find 2 = .ok (.iload_n 3, 1) := by decide +kernel
theorem dX12_find_3 : decode cX12_find 3 = .ok (.aload_n 0, 1) := by decide +kernel
theorem dX12_find_4 : decode cX12_find 4 = .ok (.getfield 68, 3) := by decide +kernel
theorem dX12_find_7 : decode cX12_find 7 = .ok (.if_icmp .ge 22, 3) := by decide +kernel
theorem dX12_find_10 : decode cX12_find 10 = .ok (.aload_n 0, 1) := by decide +kernel
theorem dX12_find_11 : decode cX12_find 11 = .ok (.getfield 329, 3) := by decide +kernel
theorem dX12_find_14 : decode cX12_find 14 = .ok (.iload_n 3, 1) := by decide +kernel
theorem dX12_find_15 : decode cX12_find 15 = .ok (.laload, 1) := by decide +kernel
theorem dX12_find_16 : decode cX12_find 16 = .ok (.lload_n 1, 1) := by decide +kernel
theorem dX12_find_17 : decode cX12_find 17 = .ok (.lcmp, 1) := by decide +kernel
theorem dX12_find_18 : decode cX12_find 18 = .ok (.ifCond .ne 5, 3) := by decide +kernel
theorem dX12_find_21 : decode cX12_find 21 = .ok (.iload_n 3, 1) := by decide +kernel
theorem dX12_find_22 : decode cX12_find 22 = .ok (.ireturn, 1) := by decide +kernel
theorem dX12_find_23 : decode cX12_find 23 = .ok (.iinc 3 1, 3) := by decide +kernel
theorem dX12_find_26 : decode cX12_find 26 = .ok (.goto (-24), 3) := by decide +kernel
theorem dX12_find_29 : decode cX12_find 29 = .ok (.iconst (-1), 1) := by decide +kernel
theorem dX12_find_30 : decode cX12_find 30 = .ok (.ireturn, 1) := by decide +kernel
theorem dX12_hasDigit_0 : decode cX12_hasDigit 0 = .ok (.lload_n 0, 1) := by decide +kernel
theorem dX12_hasDigit_1 : decode cX12_hasDigit 1 = .ok (.lstore_n 2, 1) := by decide +kernel
theorem dX12_hasDigit_2 : decode cX12_hasDigit 2 = .ok (.lload_n 2, 1) := by decide +kernel
theorem dX12_hasDigit_3 : decode cX12_hasDigit 3 = .ok (.lconst 0, 1) := by decide +kernel
theorem dX12_hasDigit_4 : decode cX12_hasDigit 4 = .ok (.lcmp, 1) := by decide +kernel
theorem dX12_hasDigit_5 : decode cX12_hasDigit 5 = .ok (.ifCond .le 26, 3) := by decide +kernel
theorem dX12_hasDigit_8 : decode cX12_hasDigit 8 = .ok (.lload_n 2, 1) := by decide +kernel
theorem dX12_hasDigit_9 : decode cX12_hasDigit 9 = .ok (.ldc2_w 86, 3) := by decide +kernel
theorem dX12_hasDigit_12 : decode cX12_hasDigit 12 = .ok (.lrem, 1) := by decide +kernel
theorem dX12_hasDigit_13 : decode cX12_hasDigit 13 = .ok (.ldc2_w 332, 3) := by decide +kernel
theorem dX12_hasDigit_16 : decode cX12_hasDigit 16 = .ok (.lcmp, 1) := by decide +kernel
theorem dX12_hasDigit_17 : decode cX12_hasDigit 17 = .ok (.ifCond .le 5, 3) := by decide +kernel
theorem dX12_hasDigit_20 : decode cX12_hasDigit 20 = .ok (.iconst 1, 1) := by decide +kernel
theorem dX12_hasDigit_21 : decode cX12_hasDigit 21 = .ok (.ireturn, 1) := by decide +kernel
theorem dX12_hasDigit_22 : decode cX12_hasDigit 22 = .ok (.lload_n 2, 1) := by decide +kernel
theorem dX12_hasDigit_23 : decode cX12_hasDigit 23 = .ok (.ldc2_w 86, 3) := by decide +kernel
theorem dX12_hasDigit_26 : decode cX12_hasDigit 26 = .ok (.ldiv, 1) := by decide +kernel
theorem dX12_hasDigit_27 : decode cX12_hasDigit 27 = .ok (.lstore_n 2, 1) := by decide +kernel
theorem dX12_hasDigit_28 : decode cX12_hasDigit 28 = .ok (.goto (-26), 3) := by decide +kernel
theorem dX12_hasDigit_31 : decode cX12_hasDigit 31 = .ok (.iconst 0, 1) := by decide +kernel
theorem dX12_hasDigit_32 : decode cX12_hasDigit 32 = .ok (.ireturn, 1) := by decide +kernel
theorem dX12_newInsult_0 : decode cX12_newInsult 0 = .ok (.aload_n 1, 1) := by decide +kernel
theorem dX12_newInsult_1 : decode cX12_newInsult 1 = .ok (.lload_n 2, 1) := by decide +kernel
theorem dX12_newInsult_2 : decode cX12_newInsult 2 = .ok (.invokestatic 334, 3) := by decide +kernel
theorem dX12_newInsult_5 : decode cX12_newInsult 5 = .ok (.iconst (-1), 1) := by decide +kernel
theorem dX12_newInsult_6 : decode cX12_newInsult 6 = .ok (.if_icmp .eq 5, 3) := by decide +kernel
theorem dX12_newInsult_9 : decode cX12_newInsult 9 = .ok (.iconst 2, 1) := by decide +kernel
theorem dX12_newInsult_10 : decode cX12_newInsult 10 = .ok (.ireturn, 1) := by decide +kernel
theorem dX12_newInsult_11 : decode cX12_newInsult 11 = .ok (.aload_n 1, 1) := by decide +kernel
theorem dX12_newInsult_12 : decode cX12_newInsult 12 = .ok (.getfield 68, 3) := by decide +kernel
theorem dX12_newInsult_15 : decode cX12_newInsult 15 = .ok (.bipush 8, 2) := by decide +kernel
theorem dX12_newInsult_17 : decode cX12_newInsult 17 = .ok (.if_icmp .ne 5, 3) := by decide +kernel
theorem dX12_newInsult_20 : decode cX12_newInsult 20 = .ok (.iconst 4, 1) := by decide +kernel
theorem dX12_newInsult_21 : decode cX12_newInsult 21 = .ok (.ireturn, 1) := by decide +kernel
theorem dX12_newInsult_22 : decode cX12_newInsult 22 = .ok (.lload_n 2, 1) := by decide +kernel
theorem dX12_newInsult_23 : decode cX12_newInsult 23 = .ok (.invokestatic 338, 3) := by decide +kernel
theorem dX12_newInsult_26 : decode cX12_newInsult 26 = .ok (.ifCond .eq 5, 3) := by decide +kernel
theorem dX12_newInsult_29 : decode cX12_newInsult 29 = .ok (.iconst 5, 1) := by decide +kernel
theorem dX12_newInsult_30 : decode cX12_newInsult 30 = .ok (.ireturn, 1) := by decide +kernel
theorem dX12_newInsult_31 : decode cX12_newInsult 31 = .ok (.iconst 0, 1) := by decide +kernel
theorem dX12_newInsult_32 : decode cX12_newInsult 32 = .ok (.istore 4, 2) := by decide +kernel
theorem dX12_newInsult_34 : decode cX12_newInsult 34 = .ok (.lload_n 2, 1) := by decide +kernel
theorem dX12_newInsult_35 : decode cX12_newInsult 35 = .ok (.lstore 5, 2) := by decide +kernel
theorem dX12_newInsult_37 : decode cX12_newInsult 37 = .ok (.lload 5, 2) := by decide +kernel
theorem dX12_newInsult_39 : decode cX12_newInsult 39 = .ok (.lconst 0, 1) := by decide +kernel
theorem dX12_newInsult_40 : decode cX12_newInsult 40 = .ok (.lcmp, 1) := by decide +kernel
theorem dX12_newInsult_41 : decode cX12_newInsult 41 = .ok (.ifCond .le 17, 3) := by decide +kernel
theorem dX12_newInsult_44 : decode cX12_newInsult 44 = .ok (.iinc 4 1, 3) := by decide +kernel
theorem dX12_newInsult_47 : decode cX12_newInsult 47 = .ok (.lload 5, 2) := by decide +kernel
theorem dX12_newInsult_49 : decode cX12_newInsult 49 = .ok (.ldc2_w 86, 3) := by decide +kernel
theorem dX12_newInsult_52 : decode cX12_newInsult 52 = .ok (.ldiv, 1) := by decide +kernel
theorem dX12_newInsult_53 : decode cX12_newInsult 53 = .ok (.lstore 5, 2) := by decide +kernel
theorem dX12_newInsult_55 : decode cX12_newInsult 55 = .ok (.goto (-18), 3) := by decide +kernel
theorem dX12_newInsult_58 : decode cX12_newInsult 58 = .ok (.bipush 10, 2) := by decide +kernel
theorem dX12_newInsult_60 : decode cX12_newInsult 60 = .ok (.aload_n 1, 1) := by decide +kernel
theorem dX12_newInsult_61 : decode cX12_newInsult 61 = .ok (.getfield 68, 3) := by decide +kernel
theorem dX12_newInsult_64 : decode cX12_newInsult 64 = .ok (.imul, 1) := by decide +kernel
theorem dX12_newInsult_65 : decode cX12_newInsult 65 = .ok (.iload 4, 2) := by decide +kernel
theorem dX12_newInsult_67 : decode cX12_newInsult 67 = .ok (.iadd, 1) := by decide +kernel
theorem dX12_newInsult_68 : decode cX12_newInsult 68 = .ok (.istore 5, 2) := by decide +kernel
theorem dX12_newInsult_70 : decode cX12_newInsult 70 = .ok (.lload_n 2, 1) := by decide +kernel
theorem dX12_newInsult_71 : decode cX12_newInsult 71 = .ok (.lstore 6, 2) := by decide +kernel
theorem dX12_newInsult_73 : decode cX12_newInsult 73 = .ok (.lload 6, 2) := by decide +kernel
theorem dX12_newInsult_75 : decode cX12_newInsult 75 = .ok (.lconst 0, 1) := by decide +kernel
theorem dX12_newInsult_76 : decode cX12_newInsult 76 = .ok (.lcmp, 1) := by decide +kernel
theorem dX12_newInsult_77 : decode cX12_newInsult 77 = .ok (.ifCond .le 31, 3) := by decide +kernel
theorem dX12_newInsult_80 : decode cX12_newInsult 80 = .ok (.iinc 5 (-1), 3) := by decide +kernel
theorem dX12_newInsult_83 : decode cX12_newInsult 83 = .ok (.aload_n 1, 1) := by decide +kernel
theorem dX12_newInsult_84 : decode cX12_newInsult 84 = .ok (.getfield 85, 3) := by decide +kernel
theorem dX12_newInsult_87 : decode cX12_newInsult 87 = .ok (.iload 5, 2) := by decide +kernel
theorem dX12_newInsult_89 : decode cX12_newInsult 89 = .ok (.lload 6, 2) := by decide +kernel
theorem dX12_newInsult_91 : decode cX12_newInsult 91 = .ok (.ldc2_w 86, 3) := by decide +kernel
theorem dX12_newInsult_94 : decode cX12_newInsult 94 = .ok (.lrem, 1) := by decide +kernel
theorem dX12_newInsult_95 : decode cX12_newInsult 95 = .ok (.l2i, 1) := by decide +kernel
theorem dX12_newInsult_96 : decode cX12_newInsult 96 = .ok (.iastore, 1) := by decide +kernel
theorem dX12_newInsult_97 : decode cX12_newInsult 97 = .ok (.lload 6, 2) := by decide +kernel
theorem dX12_newInsult_99 : decode cX12_newInsult 99 = .ok (.ldc2_w 86, 3) := by decide +kernel
theorem dX12_newInsult_102 : decode cX12_newInsult 102 = .ok (.ldiv, 1) := by decide +kernel
theorem dX12_newInsult_103 : decode cX12_newInsult 103 = .ok (.lstore 6, 2) := by decide +kernel
theorem dX12_newInsult_105 : decode cX12_newInsult 105 = .ok (.goto (-32), 3) := by decide +kernel
theorem dX12_newInsult_108 : decode cX12_newInsult 108 = .ok (.aload_n 1, 1) := by decide +kernel
theorem dX12_newInsult_109 : decode cX12_newInsult 109 = .ok (.getfield 329, 3) := by decide +kernel
theorem dX12_newInsult_112 : decode cX12_newInsult 112 = .ok (.aload_n 1, 1) := by decide +kernel
theorem dX12_newInsult_113 : decode cX12_newInsult 113 = .ok (.getfield 68, 3) := by decide +kernel
theorem dX12_newInsult_116 : decode cX12_newInsult 116 = .ok (.lload_n 2, 1) := by decide +kernel
theorem dX12_newInsult_117 : decode cX12_newInsult 117 = .ok (.lastore, 1) := by decide +kernel
theorem dX12_newInsult_118 : decode cX12_newInsult 118 = .ok (.aload_n 1, 1) := by decide +kernel
theorem dX12_newInsult_119 : decode cX12_newInsult 119 = .ok (.getfield 82, 3) := by decide +kernel
theorem dX12_newInsult_122 : decode cX12_newInsult 122 = .ok (.aload_n 1, 1) := by decide +kernel
theorem dX12_newInsult_123 : decode cX12_newInsult 123 = .ok (.getfield 68, 3) := by decide +kernel
theorem dX12_newInsult_126 : decode cX12_newInsult 126 = .ok (.iload 4, 2) := by decide +kernel
theorem dX12_newInsult_128 : decode cX12_newInsult 128 = .ok (.iastore, 1) := by decide +kernel
theorem dX12_newInsult_129 : decode cX12_newInsult 129 = .ok (.aload_n 1, 1) := by decide +kernel
theorem dX12_newInsult_130 : decode cX12_newInsult 130 = .ok (.dup, 1) := by decide +kernel
theorem dX12_newInsult_131 : decode cX12_newInsult 131 = .ok (.getfield 68, 3) := by decide +kernel
theorem dX12_newInsult_134 : decode cX12_newInsult 134 = .ok (.iconst 1, 1) := by decide +kernel
theorem dX12_newInsult_135 : decode cX12_newInsult 135 = .ok (.iadd, 1) := by decide +kernel
theorem dX12_newInsult_136 : decode cX12_newInsult 136 = .ok (.putfield 68, 3) := by decide +kernel
theorem dX12_newInsult_139 : decode cX12_newInsult 139 = .ok (.iconst 0, 1) := by decide +kernel
theorem dX12_newInsult_140 : decode cX12_newInsult 140 = .ok (.ireturn, 1) := by decide +kernel
theorem dX12_newOrder_0 : decode cX12_newOrder 0 = .ok (.aload_n 1, 1) := by decide +kernel
theorem dX12_newOrder_1 : decode cX12_newOrder 1 = .ok (.getfield 185, 3) := by decide +kernel
theorem dX12_newOrder_4 : decode cX12_newOrder 4 = .ok (.bipush 16, 2) := by decide +kernel
theorem dX12_newOrder_6 : decode cX12_newOrder 6 = .ok (.if_icmp .ne 5, 3) := by decide +kernel
theorem dX12_newOrder_9 : decode cX12_newOrder 9 = .ok (.iconst 4, 1) := by decide +kernel
theorem dX12_newOrder_10 : decode cX12_newOrder 10 = .ok (.ireturn, 1) := by decide +kernel
theorem dX12_newOrder_11 : decode cX12_newOrder 11 = .ok (.aload_n 1, 1) := by decide +kernel
theorem dX12_newOrder_12 : decode cX12_newOrder 12 = .ok (.dup, 1) := by decide +kernel
theorem dX12_newOrder_13 : decode cX12_newOrder 13 = .ok (.getfield 185, 3) := by decide +kernel
theorem dX12_newOrder_16 : decode cX12_newOrder 16 = .ok (.iconst 1, 1) := by decide +kernel
theorem dX12_newOrder_17 : decode cX12_newOrder 17 = .ok (.iadd, 1) := by decide +kernel
theorem dX12_newOrder_18 : decode cX12_newOrder 18 = .ok (.putfield 185, 3) := by decide +kernel
theorem dX12_newOrder_21 : decode cX12_newOrder 21 = .ok (.iconst 0, 1) := by decide +kernel
theorem dX12_newOrder_22 : decode cX12_newOrder 22 = .ok (.ireturn, 1) := by decide +kernel
theorem dX12_anInsult_0 : decode cX12_anInsult 0 = .ok (.aload_n 0, 1) := by decide +kernel
theorem dX12_anInsult_1 : decode cX12_anInsult 1 = .ok (.getfield 37, 3) := by decide +kernel
theorem dX12_anInsult_4 : decode cX12_anInsult 4 = .ok (.iload_n 2, 1) := by decide +kernel
theorem dX12_anInsult_5 : decode cX12_anInsult 5 = .ok (.aload_n 1, 1) := by decide +kernel
theorem dX12_anInsult_6 : decode cX12_anInsult 6 = .ok (.aload_n 0, 1) := by decide +kernel
theorem dX12_anInsult_7 : decode cX12_anInsult 7 = .ok (.getfield 33, 3) := by decide +kernel
theorem dX12_anInsult_10 : decode cX12_anInsult 10 = .ok (.iload_n 2, 1) := by decide +kernel
theorem dX12_anInsult_11 : decode cX12_anInsult 11 = .ok (.laload, 1) := by decide +kernel
theorem dX12_anInsult_12 : decode cX12_anInsult 12 = .ok (.invokestatic 334, 3) := by decide +kernel
theorem dX12_anInsult_15 : decode cX12_anInsult 15 = .ok (.iastore, 1) := by decide +kernel
theorem dX12_anInsult_16 : decode cX12_anInsult 16 = .ok (.aload_n 0, 1) := by decide +kernel
theorem dX12_anInsult_17 : decode cX12_anInsult 17 = .ok (.getfield 37, 3) := by decide +kernel
theorem dX12_anInsult_20 : decode cX12_anInsult 20 = .ok (.iload_n 2, 1) := by decide +kernel
theorem dX12_anInsult_21 : decode cX12_anInsult 21 = .ok (.iaload, 1) := by decide +kernel
theorem dX12_anInsult_22 : decode cX12_anInsult 22 = .ok (.iconst (-1), 1) := by decide +kernel
theorem dX12_anInsult_23 : decode cX12_anInsult 23 = .ok (.if_icmp .ne 7, 3) := by decide +kernel
theorem dX12_anInsult_26 : decode cX12_anInsult 26 = .ok (.iconst 3, 1) := by decide +kernel
theorem dX12_anInsult_27 : decode cX12_anInsult 27 = .ok (.goto 4, 3) := by decide +kernel
theorem dX12_anInsult_30 : decode cX12_anInsult 30 = .ok (.iconst 0, 1) := by decide +kernel
theorem dX12_anInsult_31 : decode cX12_anInsult 31 = .ok (.ireturn, 1) := by decide +kernel
theorem dX12_errorOf_0 : decode cX12_errorOf 0 = .ok (.aload_n 0, 1) := by decide +kernel
theorem dX12_errorOf_1 : decode cX12_errorOf 1 = .ok (.getfield 30, 3) := by decide +kernel
theorem dX12_errorOf_4 : decode cX12_errorOf 4 = .ok (.iload_n 2, 1) := by decide +kernel
theorem dX12_errorOf_5 : decode cX12_errorOf 5 = .ok (.iaload, 1) := by decide +kernel
theorem dX12_errorOf_6 : decode cX12_errorOf 6 = .ok (.tableswitch 120 1 5 #[34, 46, 52, 87, 113], 34) := by decide +kernel
theorem dX12_errorOf_40 : decode cX12_errorOf 40 = .ok (.aload_n 0, 1) := by decide +kernel
theorem dX12_errorOf_41 : decode cX12_errorOf 41 = .ok (.aload_n 1, 1) := by decide +kernel
theorem dX12_errorOf_42 : decode cX12_errorOf 42 = .ok (.aload_n 0, 1) := by decide +kernel
theorem dX12_errorOf_43 : decode cX12_errorOf 43 = .ok (.getfield 33, 3) := by decide +kernel
theorem dX12_errorOf_46 : decode cX12_errorOf 46 = .ok (.iload_n 2, 1) := by decide +kernel
theorem dX12_errorOf_47 : decode cX12_errorOf 47 = .ok (.laload, 1) := by decide +kernel
theorem dX12_errorOf_48 : decode cX12_errorOf 48 = .ok (.invokevirtual 342, 3) := by decide +kernel
theorem dX12_errorOf_51 : decode cX12_errorOf 51 = .ok (.ireturn, 1) := by decide +kernel
theorem dX12_errorOf_52 : decode cX12_errorOf 52 = .ok (.aload_n 0, 1) := by decide +kernel
theorem dX12_errorOf_53 : decode cX12_errorOf 53 = .ok (.aload_n 1, 1) := by decide +kernel
theorem dX12_errorOf_54 : decode cX12_errorOf 54 = .ok (.invokevirtual 345, 3) := by decide +kernel
theorem dX12_errorOf_57 : decode cX12_errorOf 57 = .ok (.ireturn, 1) := by decide +kernel
theorem dX12_errorOf_58 : decode cX12_errorOf 58 = .ok (.aload_n 1, 1) := by decide +kernel
theorem dX12_errorOf_59 : decode cX12_errorOf 59 = .ok (.getfield 154, 3) := by decide +kernel
theorem dX12_errorOf_62 : decode cX12_errorOf 62 = .ok (.aload_n 1, 1) := by decide +kernel
theorem dX12_errorOf_63 : decode cX12_errorOf 63 = .ok (.getfield 185, 3) := by decide +kernel
theorem dX12_errorOf_66 : decode cX12_errorOf 66 = .ok (.iconst 1, 1) := by decide +kernel
theorem dX12_errorOf_67 : decode cX12_errorOf 67 = .ok (.isub, 1) := by decide +kernel
theorem dX12_errorOf_68 : decode cX12_errorOf 68 = .ok (.aload_n 0, 1) := by decide +kernel
theorem dX12_errorOf_69 : decode cX12_errorOf 69 = .ok (.getfield 33, 3) := by decide +kernel
theorem dX12_errorOf_72 : decode cX12_errorOf 72 = .ok (.iload_n 2, 1) := by decide +kernel
theorem dX12_errorOf_73 : decode cX12_errorOf 73 = .ok (.laload, 1) := by decide +kernel
theorem dX12_errorOf_74 : decode cX12_errorOf 74 = .ok (.lastore, 1) := by decide +kernel
theorem dX12_errorOf_75 : decode cX12_errorOf 75 = .ok (.aload_n 0, 1) := by decide +kernel
theorem dX12_errorOf_76 : decode cX12_errorOf 76 = .ok (.getfield 33, 3) := by decide +kernel
theorem dX12_errorOf_79 : decode cX12_errorOf 79 = .ok (.iload_n 2, 1) := by decide +kernel
theorem dX12_errorOf_80 : decode cX12_errorOf 80 = .ok (.laload, 1) := by decide +kernel
theorem dX12_errorOf_81 : decode cX12_errorOf 81 = .ok (.invokestatic 338, 3) := by decide +kernel
theorem dX12_errorOf_84 : decode cX12_errorOf 84 = .ok (.ifCond .eq 7, 3) := by decide +kernel
theorem dX12_errorOf_87 : decode cX12_errorOf 87 = .ok (.iconst 5, 1) := by decide +kernel
theorem dX12_errorOf_88 : decode cX12_errorOf 88 = .ok (.goto 4, 3) := by decide +kernel
theorem dX12_errorOf_91 : decode cX12_errorOf 91 = .ok (.iconst 0, 1) := by decide +kernel
theorem dX12_errorOf_92 : decode cX12_errorOf 92 = .ok (.ireturn, 1) := by decide +kernel
theorem dX12_errorOf_93 : decode cX12_errorOf 93 = .ok (.aload_n 0, 1) := by decide +kernel
theorem dX12_errorOf_94 : decode cX12_errorOf 94 = .ok (.aload_n 1, 1) := by decide +kernel
theorem dX12_errorOf_95 : decode cX12_errorOf 95 = .ok (.iload_n 2, 1) := by decide +kernel
theorem dX12_errorOf_96 : decode cX12_errorOf 96 = .ok (.invokevirtual 349, 3) := by decide +kernel
theorem dX12_errorOf_99 : decode cX12_errorOf 99 = .ok (.istore_n 3, 1) := by decide +kernel
theorem dX12_errorOf_100 : decode cX12_errorOf 100 = .ok (.aload_n 1, 1) := by decide +kernel
theorem dX12_errorOf_101 : decode cX12_errorOf 101 = .ok (.getfield 161, 3) := by decide +kernel
theorem dX12_errorOf_104 : decode cX12_errorOf 104 = .ok (.aload_n 1, 1) := by decide +kernel
theorem dX12_errorOf_105 : decode cX12_errorOf 105 = .ok (.getfield 185, 3) := by decide +kernel
theorem dX12_errorOf_108 : decode cX12_errorOf 108 = .ok (.iconst 1, 1) := by decide +kernel
theorem dX12_errorOf_109 : decode cX12_errorOf 109 = .ok (.isub, 1) := by decide +kernel
theorem dX12_errorOf_110 : decode cX12_errorOf 110 = .ok (.aload_n 0, 1) := by decide +kernel
theorem dX12_errorOf_111 : decode cX12_errorOf 111 = .ok (.getfield 37, 3) := by decide +kernel
theorem dX12_errorOf_114 : decode cX12_errorOf 114 = .ok (.iload_n 2, 1) := by decide +kernel
theorem dX12_errorOf_115 : decode cX12_errorOf 115 = .ok (.iaload, 1) := by decide +kernel
theorem dX12_errorOf_116 : decode cX12_errorOf 116 = .ok (.iastore, 1) := by decide +kernel
theorem dX12_errorOf_117 : decode cX12_errorOf 117 = .ok (.iload_n 3, 1) := by decide +kernel
theorem dX12_errorOf_118 : decode cX12_errorOf 118 = .ok (.ireturn, 1) := by decide +kernel
theorem dX12_errorOf_119 : decode cX12_errorOf 119 = .ok (.aload_n 0, 1) := by decide +kernel
theorem dX12_errorOf_120 : decode cX12_errorOf 120 = .ok (.aload_n 1, 1) := by decide +kernel
theorem dX12_errorOf_121 : decode cX12_errorOf 121 = .ok (.iload_n 2, 1) := by decide +kernel
theorem dX12_errorOf_122 : decode cX12_errorOf 122 = .ok (.invokevirtual 349, 3) := by decide +kernel
theorem dX12_errorOf_125 : decode cX12_errorOf 125 = .ok (.ireturn, 1) := by decide +kernel
theorem dX12_errorOf_126 : decode cX12_errorOf 126 = .ok (.iconst 0, 1) := by decide +kernel
theorem dX12_errorOf_127 : decode cX12_errorOf 127 = .ok (.ireturn, 1) := by decide +kernel
theorem dX12_settle_0 : decode cX12_settle 0 = .ok (.iconst 0, 1) := by decide +kernel
theorem dX12_settle_1 : decode cX12_settle 1 = .ok (.istore_n 2, 1) := by decide +kernel
theorem dX12_settle_2 : decode cX12_settle 2 = .ok (.iload_n 2, 1) := by decide +kernel
theorem dX12_settle_3 : decode cX12_settle 3 = .ok (.aload_n 1, 1) := by decide +kernel
theorem dX12_settle_4 : decode cX12_settle 4 = .ok (.getfield 274, 3) := by decide +kernel
theorem dX12_settle_7 : decode cX12_settle 7 = .ok (.if_icmp .ge 59, 3) := by decide +kernel
theorem dX12_settle_10 : decode cX12_settle 10 = .ok (.aload_n 1, 1) := by decide +kernel
theorem dX12_settle_11 : decode cX12_settle 11 = .ok (.getfield 205, 3) := by decide +kernel
theorem dX12_settle_14 : decode cX12_settle 14 = .ok (.iload_n 2, 1) := by decide +kernel
theorem dX12_settle_15 : decode cX12_settle 15 = .ok (.iaload, 1) := by decide +kernel
theorem dX12_settle_16 : decode cX12_settle 16 = .ok (.bipush 10, 2) := by decide +kernel
theorem dX12_settle_18 : decode cX12_settle 18 = .ok (.if_icmp .eq 25, 3) := by decide +kernel
theorem dX12_settle_21 : decode cX12_settle 21 = .ok (.aload_n 1, 1) := by decide +kernel
theorem dX12_settle_22 : decode cX12_settle 22 = .ok (.getfield 205, 3) := by decide +kernel
theorem dX12_settle_25 : decode cX12_settle 25 = .ok (.iload_n 2, 1) := by decide +kernel
theorem dX12_settle_26 : decode cX12_settle 26 = .ok (.iaload, 1) := by decide +kernel
theorem dX12_settle_27 : decode cX12_settle 27 = .ok (.bipush 11, 2) := by decide +kernel
theorem dX12_settle_29 : decode cX12_settle 29 = .ok (.if_icmp .eq 14, 3) := by decide +kernel
theorem dX12_settle_32 : decode cX12_settle 32 = .ok (.aload_n 1, 1) := by decide +kernel
theorem dX12_settle_33 : decode cX12_settle 33 = .ok (.getfield 205, 3) := by decide +kernel
theorem dX12_settle_36 : decode cX12_settle 36 = .ok (.iload_n 2, 1) := by decide +kernel
theorem dX12_settle_37 : decode cX12_settle 37 = .ok (.iaload, 1) := by decide +kernel
theorem dX12_settle_38 : decode cX12_settle 38 = .ok (.bipush 13, 2) := by decide +kernel
theorem dX12_settle_40 : decode cX12_settle 40 = .ok (.if_icmp .ne 20, 3) := by decide +kernel
theorem dX12_settle_43 : decode cX12_settle 43 = .ok (.aload_n 1, 1) := by decide +kernel
theorem dX12_settle_44 : decode cX12_settle 44 = .ok (.getfield 211, 3) := by decide +kernel
theorem dX12_settle_47 : decode cX12_settle 47 = .ok (.iload_n 2, 1) := by decide +kernel
theorem dX12_settle_48 : decode cX12_settle 48 = .ok (.aload_n 0, 1) := by decide +kernel
theorem dX12_settle_49 : decode cX12_settle 49 = .ok (.getfield 37, 3) := by decide +kernel
theorem dX12_settle_52 : decode cX12_settle 52 = .ok (.aload_n 1, 1) := by decide +kernel
theorem dX12_settle_53 : decode cX12_settle 53 = .ok (.getfield 211, 3) := by decide +kernel
theorem dX12_settle_56 : decode cX12_settle 56 = .ok (.iload_n 2, 1) := by decide +kernel
theorem dX12_settle_57 : decode cX12_settle 57 = .ok (.iaload, 1) := by decide +kernel
theorem dX12_settle_58 : decode cX12_settle 58 = .ok (.iaload, 1) := by decide +kernel
theorem dX12_settle_59 : decode cX12_settle 59 = .ok (.iastore, 1) := by decide +kernel
theorem dX12_settle_60 : decode cX12_settle 60 = .ok (.iinc 2 1, 3) := by decide +kernel
theorem dX12_settle_63 : decode cX12_settle 63 = .ok (.goto (-61), 3) := by decide +kernel
theorem dX12_settle_66 : decode cX12_settle 66 = .ok (.return_, 1) := by decide +kernel
theorem dX12_read_0 : decode cX12_read 0 = .ok (.aload_n 0, 1) := by decide +kernel
theorem dX12_read_1 : decode cX12_read 1 = .ok (.invokevirtual 353, 3) := by decide +kernel
theorem dX12_read_4 : decode cX12_read 4 = .ok (.aload_n 0, 1) := by decide +kernel
theorem dX12_read_5 : decode cX12_read 5 = .ok (.iconst 0, 1) := by decide +kernel
theorem dX12_read_6 : decode cX12_read 6 = .ok (.putfield 265, 3) := by decide +kernel
theorem dX12_read_9 : decode cX12_read 9 = .ok (.aload_n 0, 1) := by decide +kernel
theorem dX12_read_10 : decode cX12_read 10 = .ok (.iconst 0, 1) := by decide +kernel
theorem dX12_read_11 : decode cX12_read 11 = .ok (.putfield 271, 3) := by decide +kernel
theorem dX12_read_14 : decode cX12_read 14 = .ok (.aload_n 0, 1) := by decide +kernel
theorem dX12_read_15 : decode cX12_read 15 = .ok (.iconst 0, 1) := by decide +kernel
theorem dX12_read_16 : decode cX12_read 16 = .ok (.putfield 320, 3) := by decide +kernel
theorem dX12_read_19 : decode cX12_read 19 = .ok (.aload_n 0, 1) := by decide +kernel
theorem dX12_read_20 : decode cX12_read 20 = .ok (.aload_n 1, 1) := by decide +kernel
theorem dX12_read_21 : decode cX12_read 21 = .ok (.invokevirtual 356, 3) := by decide +kernel
theorem dX12_read_24 : decode cX12_read 24 = .ok (.ifCond .ne 18, 3) := by decide +kernel
theorem dX12_read_27 : decode cX12_read 27 = .ok (.aload_n 0, 1) := by decide +kernel
theorem dX12_read_28 : decode cX12_read 28 = .ok (.aload_n 0, 1) := by decide +kernel
theorem dX12_read_29 : decode cX12_read 29 = .ok (.getfield 27, 3) := by decide +kernel
theorem dX12_read_32 : decode cX12_read 32 = .ok (.aload_n 0, 1) := by decide +kernel
theorem dX12_read_33 : decode cX12_read 33 = .ok (.getfield 265, 3) := by decide +kernel
theorem dX12_read_36 : decode cX12_read 36 = .ok (.iaload, 1) := by decide +kernel
theorem dX12_read_37 : decode cX12_read 37 = .ok (.putfield 13, 3) := by decide +kernel
theorem dX12_read_40 : decode cX12_read 40 = .ok (.iconst 1, 1) := by decide +kernel
theorem dX12_read_41 : decode cX12_read 41 = .ok (.ireturn, 1) := by decide +kernel
theorem dX12_read_42 : decode cX12_read 42 = .ok (.iconst 0, 1) := by decide +kernel
theorem dX12_read_43 : decode cX12_read 43 = .ok (.istore_n 2, 1) := by decide +kernel
theorem dX12_read_44 : decode cX12_read 44 = .ok (.iload_n 2, 1) := by decide +kernel
theorem dX12_read_45 : decode cX12_read 45 = .ok (.aload_n 0, 1) := by decide +kernel
theorem dX12_read_46 : decode cX12_read 46 = .ok (.getfield 265, 3) := by decide +kernel
theorem dX12_read_49 : decode cX12_read 49 = .ok (.if_icmp .ge 35, 3) := by decide +kernel
theorem dX12_read_52 : decode cX12_read 52 = .ok (.aload_n 0, 1) := by decide +kernel
theorem dX12_read_53 : decode cX12_read 53 = .ok (.aload_n 1, 1) := by decide +kernel
theorem dX12_read_54 : decode cX12_read 54 = .ok (.iload_n 2, 1) := by decide +kernel
theorem dX12_read_55 : decode cX12_read 55 = .ok (.invokevirtual 359, 3) := by decide +kernel
theorem dX12_read_58 : decode cX12_read 58 = .ok (.istore_n 3, 1) := by decide +kernel
theorem dX12_read_59 : decode cX12_read 59 = .ok (.iload_n 3, 1) := by decide +kernel
theorem dX12_read_60 : decode cX12_read 60 = .ok (.ifCond .ne 6, 3) := by decide +kernel
theorem dX12_read_63 : decode cX12_read 63 = .ok (.goto 15, 3) := by decide +kernel
theorem dX12_read_66 : decode cX12_read 66 = .ok (.aload_n 0, 1) := by decide +kernel
theorem dX12_read_67 : decode cX12_read 67 = .ok (.aload_n 0, 1) := by decide +kernel
theorem dX12_read_68 : decode cX12_read 68 = .ok (.getfield 27, 3) := by decide +kernel
theorem dX12_read_71 : decode cX12_read 71 = .ok (.iload_n 2, 1) := by decide +kernel
theorem dX12_read_72 : decode cX12_read 72 = .ok (.iaload, 1) := by decide +kernel
theorem dX12_read_73 : decode cX12_read 73 = .ok (.putfield 13, 3) := by decide +kernel
theorem dX12_read_76 : decode cX12_read 76 = .ok (.iload_n 3, 1) := by decide +kernel
theorem dX12_read_77 : decode cX12_read 77 = .ok (.ireturn, 1) := by decide +kernel
theorem dX12_read_78 : decode cX12_read 78 = .ok (.iinc 2 1, 3) := by decide +kernel
theorem dX12_read_81 : decode cX12_read 81 = .ok (.goto (-37), 3) := by decide +kernel
theorem dX12_read_84 : decode cX12_read 84 = .ok (.aload_n 0, 1) := by decide +kernel
theorem dX12_read_85 : decode cX12_read 85 = .ok (.aload_n 1, 1) := by decide +kernel
theorem dX12_read_86 : decode cX12_read 86 = .ok (.invokevirtual 362, 3) := by decide +kernel
theorem dX12_read_89 : decode cX12_read 89 = .ok (.iconst 0, 1) := by decide +kernel
theorem dX12_read_90 : decode cX12_read 90 = .ok (.ireturn, 1) := by decide +kernel
theorem dX12_feed_0 : decode cX12_feed 0 = .ok (.aload_n 0, 1) := by decide +kernel
theorem dX12_feed_1 : decode cX12_feed 1 = .ok (.iconst 0, 1) := by decide +kernel
theorem dX12_feed_2 : decode cX12_feed 2 = .ok (.putfield 58, 3) := by decide +kernel
theorem dX12_feed_5 : decode cX12_feed 5 = .ok (.aload_n 0, 1) := by decide +kernel
theorem dX12_feed_6 : decode cX12_feed 6 = .ok (.getfield 221, 3) := by decide +kernel
theorem dX12_feed_9 : decode cX12_feed 9 = .ok (.sipush 1980, 3) := by decide +kernel
theorem dX12_feed_12 : decode cX12_feed 12 = .ok (.if_icmp .le 9, 3) := by decide +kernel
theorem dX12_feed_15 : decode cX12_feed 15 = .ok (.aload_n 0, 1) := by decide +kernel
theorem dX12_feed_16 : decode cX12_feed 16 = .ok (.iconst 1, 1) := by decide +kernel
theorem dX12_feed_17 : decode cX12_feed 17 = .ok (.invokevirtual 366, 3) := by decide +kernel
theorem dX12_feed_20 : decode cX12_feed 20 = .ok (.ireturn, 1) := by decide +kernel
theorem dX12_feed_21 : decode cX12_feed 21 = .ok (.iconst 5, 1) := by decide +kernel
theorem dX12_feed_22 : decode cX12_feed 22 = .ok (.newarray .int, 2) := by decide +kernel
theorem dX12_feed_24 : decode cX12_feed 24 = .ok (.dup, 1) := by decide +kernel
theorem dX12_feed_25 : decode cX12_feed 25 = .ok (.iconst 0, 1) := by decide +kernel
theorem dX12_feed_26 : decode cX12_feed 26 = .ok (.iload_n 1, 1) := by decide +kernel
theorem dX12_feed_27 : decode cX12_feed 27 = .ok (.iastore, 1) := by decide +kernel
theorem dX12_feed_28 : decode cX12_feed 28 = .ok (.dup, 1) := by decide +kernel
theorem dX12_feed_29 : decode cX12_feed 29 = .ok (.iconst 1, 1) := by decide +kernel
theorem dX12_feed_30 : decode cX12_feed 30 = .ok (.iload_n 2, 1) := by decide +kernel
theorem dX12_feed_31 : decode cX12_feed 31 = .ok (.iastore, 1) := by decide +kernel
theorem dX12_feed_32 : decode cX12_feed 32 = .ok (.dup, 1) := by decide +kernel
theorem dX12_feed_33 : decode cX12_feed 33 = .ok (.iconst 2, 1) := by decide +kernel
theorem dX12_feed_34 : decode cX12_feed 34 = .ok (.iload_n 3, 1) := by decide +kernel
theorem dX12_feed_35 : decode cX12_feed 35 = .ok (.iastore, 1) := by decide +kernel
theorem dX12_feed_36 : decode cX12_feed 36 = .ok (.dup, 1) := by decide +kernel
theorem dX12_feed_37 : decode cX12_feed 37 = .ok (.iconst 3, 1) := by decide +kernel
theorem dX12_feed_38 : decode cX12_feed 38 = .ok (.iload 4, 2) := by decide +kernel
theorem dX12_feed_40 : decode cX12_feed 40 = .ok (.iastore, 1) := by decide +kernel
theorem dX12_feed_41 : decode cX12_feed 41 = .ok (.dup, 1) := by decide +kernel
theorem dX12_feed_42 : decode cX12_feed 42 = .ok (.iconst 4, 1) := by decide +kernel
theorem dX12_feed_43 : decode cX12_feed 43 = .ok (.iload 5, 2) := by decide +kernel
theorem dX12_feed_45 : decode cX12_feed 45 = .ok (.iastore, 1) := by decide +kernel
theorem dX12_feed_46 : decode cX12_feed 46 = .ok (.astore 6, 2) := by decide +kernel
theorem dX12_feed_48 : decode cX12_feed 48 = .ok (.iconst 0, 1) := by decide +kernel
theorem dX12_feed_49 : decode cX12_feed 49 = .ok (.istore 7, 2) := by decide +kernel
theorem dX12_feed_51 : decode cX12_feed 51 = .ok (.iload 7, 2) := by decide +kernel
theorem dX12_feed_53 : decode cX12_feed 53 = .ok (.bipush 20, 2) := by decide +kernel
theorem dX12_feed_55 : decode cX12_feed 55 = .ok (.if_icmp .ge 43, 3) := by decide +kernel
theorem dX12_feed_58 : decode cX12_feed 58 = .ok (.aload_n 0, 1) := by decide +kernel
theorem dX12_feed_59 : decode cX12_feed 59 = .ok (.getfield 9, 3) := by decide +kernel
theorem dX12_feed_62 : decode cX12_feed 62 = .ok (.aload_n 0, 1) := by decide +kernel
theorem dX12_feed_63 : decode cX12_feed 63 = .ok (.getfield 221, 3) := by decide +kernel
theorem dX12_feed_66 : decode cX12_feed 66 = .ok (.iload 7, 2) := by decide +kernel
theorem dX12_feed_68 : decode cX12_feed 68 = .ok (.iadd, 1) := by decide +kernel
theorem dX12_feed_69 : decode cX12_feed 69 = .ok (.aload 6, 2) := by decide +kernel
theorem dX12_feed_71 : decode cX12_feed 71 = .ok (.iload 7, 2) := by decide +kernel
theorem dX12_feed_73 : decode cX12_feed 73 = .ok (.iconst 4, 1) := by decide +kernel
theorem dX12_feed_74 : decode cX12_feed 74 = .ok (.idiv, 1) := by decide +kernel
theorem dX12_feed_75 : decode cX12_feed 75 = .ok (.iaload, 1) := by decide +kernel
theorem dX12_feed_76 : decode cX12_feed 76 = .ok (.bipush 24, 2) := by decide +kernel
theorem dX12_feed_78 : decode cX12_feed 78 = .ok (.bipush 8, 2) := by decide +kernel
theorem dX12_feed_80 : decode cX12_feed 80 = .ok (.iload 7, 2) := by decide +kernel
theorem dX12_feed_82 : decode cX12_feed 82 = .ok (.iconst 4, 1) := by decide +kernel
theorem dX12_feed_83 : decode cX12_feed 83 = .ok (.irem, 1) := by decide +kernel
theorem dX12_feed_84 : decode cX12_feed 84 = .ok (.imul, 1) := by decide +kernel
theorem dX12_feed_85 : decode cX12_feed 85 = .ok (.isub, 1) := by decide +kernel
theorem dX12_feed_86 : decode cX12_feed 86 = .ok (.ishr, 1) := by decide +kernel
theorem dX12_feed_87 : decode cX12_feed 87 = .ok (.sipush 255, 3) := by decide +kernel
theorem dX12_feed_90 : decode cX12_feed 90 = .ok (.iand, 1) := by decide +kernel
theorem dX12_feed_91 : decode cX12_feed 91 = .ok (.iastore, 1) := by decide +kernel
theorem dX12_feed_92 : decode cX12_feed 92 = .ok (.iinc 7 1, 3) := by decide +kernel
theorem dX12_feed_95 : decode cX12_feed 95 = .ok (.goto (-44), 3) := by decide +kernel
theorem dX12_feed_98 : decode cX12_feed 98 = .ok (.aload_n 0, 1) := by decide +kernel
theorem dX12_feed_99 : decode cX12_feed 99 = .ok (.dup, 1) := by decide +kernel
theorem dX12_feed_100 : decode cX12_feed 100 = .ok (.getfield 221, 3) := by decide +kernel
theorem dX12_feed_103 : decode cX12_feed 103 = .ok (.bipush 20, 2) := by decide +kernel
theorem dX12_feed_105 : decode cX12_feed 105 = .ok (.iadd, 1) := by decide +kernel
theorem dX12_feed_106 : decode cX12_feed 106 = .ok (.putfield 221, 3) := by decide +kernel
theorem dX12_feed_109 : decode cX12_feed 109 = .ok (.aload_n 0, 1) := by decide +kernel
theorem dX12_feed_110 : decode cX12_feed 110 = .ok (.getfield 221, 3) := by decide +kernel
theorem dX12_feed_113 : decode cX12_feed 113 = .ok (.ireturn, 1) := by decide +kernel
theorem dX12_trim_0 : decode cX12_trim 0 = .ok (.aload_n 0, 1) := by decide +kernel
theorem dX12_trim_1 : decode cX12_trim 1 = .ok (.iconst 0, 1) := by decide +kernel
theorem dX12_trim_2 : decode cX12_trim 2 = .ok (.putfield 58, 3) := by decide +kernel
theorem dX12_trim_5 : decode cX12_trim 5 = .ok (.iload_n 1, 1) := by decide +kernel
theorem dX12_trim_6 : decode cX12_trim 6 = .ok (.iconst 0, 1) := by decide +kernel
theorem dX12_trim_7 : decode cX12_trim 7 = .ok (.aload_n 0, 1) := by decide +kernel
theorem dX12_trim_8 : decode cX12_trim 8 = .ok (.getfield 221, 3) := by decide +kernel
theorem dX12_trim_11 : decode cX12_trim 11 = .ok (.invokestatic 64, 3) := by decide +kernel
theorem dX12_trim_14 : decode cX12_trim 14 = .ok (.ifCond .ne 9, 3) := by decide +kernel
theorem dX12_trim_17 : decode cX12_trim 17 = .ok (.aload_n 0, 1) := by decide +kernel
theorem dX12_trim_18 : decode cX12_trim 18 = .ok (.iconst 1, 1) := by decide +kernel
theorem dX12_trim_19 : decode cX12_trim 19 = .ok (.invokevirtual 366, 3) := by decide +kernel
theorem dX12_trim_22 : decode cX12_trim 22 = .ok (.ireturn, 1) := by decide +kernel
theorem dX12_trim_23 : decode cX12_trim 23 = .ok (.aload_n 0, 1) := by decide +kernel
theorem dX12_trim_24 : decode cX12_trim 24 = .ok (.iload_n 1, 1) := by decide +kernel
theorem dX12_trim_25 : decode cX12_trim 25 = .ok (.putfield 221, 3) := by decide +kernel
theorem dX12_trim_28 : decode cX12_trim 28 = .ok (.iload_n 1, 1) := by decide +kernel
theorem dX12_trim_29 : decode cX12_trim 29 = .ok (.ireturn, 1) := by decide +kernel
theorem dX12_teach_0 : decode cX12_teach 0 = .ok (.aload_n 0, 1) := by decide +kernel
theorem dX12_teach_1 : decode cX12_teach 1 = .ok (.iconst 0, 1) := by decide +kernel
theorem dX12_teach_2 : decode cX12_teach 2 = .ok (.putfield 58, 3) := by decide +kernel
theorem dX12_teach_5 : decode cX12_teach 5 = .ok (.aload_n 0, 1) := by decide +kernel
theorem dX12_teach_6 : decode cX12_teach 6 = .ok (.iconst (-1), 1) := by decide +kernel
theorem dX12_teach_7 : decode cX12_teach 7 = .ok (.putfield 13, 3) := by decide +kernel
theorem dX12_teach_10 : decode cX12_teach 10 = .ok (.new 17, 3) := by decide +kernel
theorem dX12_teach_13 : decode cX12_teach 13 = .ok (.dup, 1) := by decide +kernel
theorem dX12_teach_14 : decode cX12_teach 14 = .ok (.invokespecial 19, 3) := by decide +kernel
theorem dX12_teach_17 : decode cX12_teach 17 = .ok (.astore_n 1, 1) := by decide +kernel
theorem dX12_teach_18 : decode cX12_teach 18 = .ok (.aload_n 0, 1) := by decide +kernel
theorem dX12_teach_19 : decode cX12_teach 19 = .ok (.aload_n 1, 1) := by decide +kernel
theorem dX12_teach_20 : decode cX12_teach 20 = .ok (.invokevirtual 369, 3) := by decide +kernel
theorem dX12_teach_23 : decode cX12_teach 23 = .ok (.istore_n 2, 1) := by decide +kernel
theorem dX12_teach_24 : decode cX12_teach 24 = .ok (.aload_n 0, 1) := by decide +kernel
theorem dX12_teach_25 : decode cX12_teach 25 = .ok (.iconst 0, 1) := by decide +kernel
theorem dX12_teach_26 : decode cX12_teach 26 = .ok (.putfield 221, 3) := by decide +kernel
theorem dX12_teach_29 : decode cX12_teach 29 = .ok (.iload_n 2, 1) := by decide +kernel
theorem dX12_teach_30 : decode cX12_teach 30 = .ok (.ifCond .le 5, 3) := by decide +kernel
theorem dX12_teach_33 : decode cX12_teach 33 = .ok (.iload_n 2, 1) := by decide +kernel
theorem dX12_teach_34 : decode cX12_teach 34 = .ok (.ireturn, 1) := by decide +kernel
theorem dX12_teach_35 : decode cX12_teach 35 = .ok (.aload_n 0, 1) := by decide +kernel
theorem dX12_teach_36 : decode cX12_teach 36 = .ok (.aload_n 1, 1) := by decide +kernel
theorem dX12_teach_37 : decode cX12_teach 37 = .ok (.putfield 20, 3) := by decide +kernel
theorem dX12_teach_40 : decode cX12_teach 40 = .ok (.aload_n 0, 1) := by decide +kernel
theorem dX12_teach_41 : decode cX12_teach 41 = .ok (.iconst 0, 1) := by decide +kernel
theorem dX12_teach_42 : decode cX12_teach 42 = .ok (.putfield 71, 3) := by decide +kernel
theorem dX12_teach_45 : decode cX12_teach 45 = .ok (.aload_n 0, 1) := by decide +kernel
theorem dX12_teach_46 : decode cX12_teach 46 = .ok (.iconst 0, 1) := by decide +kernel
theorem dX12_teach_47 : decode cX12_teach 47 = .ok (.putfield 61, 3) := by decide +kernel
theorem dX12_teach_50 : decode cX12_teach 50 = .ok (.aload_n 0, 1) := by decide +kernel
theorem dX12_teach_51 : decode cX12_teach 51 = .ok (.iconst 0, 1) := by decide +kernel
theorem dX12_teach_52 : decode cX12_teach 52 = .ok (.putfield 97, 3) := by decide +kernel
theorem dX12_teach_55 : decode cX12_teach 55 = .ok (.aload_n 0, 1) := by decide +kernel
theorem dX12_teach_56 : decode cX12_teach 56 = .ok (.iconst 0, 1) := by decide +kernel
theorem dX12_teach_57 : decode cX12_teach 57 = .ok (.putfield 103, 3) := by decide +kernel
theorem dX12_teach_60 : decode cX12_teach 60 = .ok (.iconst 0, 1) := by decide +kernel
theorem dX12_teach_61 : decode cX12_teach 61 = .ok (.ireturn, 1) := by decide +kernel
theorem dX12_errorAt_0 : decode cX12_errorAt 0 = .ok (.aload_n 0, 1) := by decide +kernel
theorem dX12_errorAt_1 : decode cX12_errorAt 1 = .ok (.aload_n 0, 1) := by decide +kernel
theorem dX12_errorAt_2 : decode cX12_errorAt 2 = .ok (.getfield 13, 3) := by decide +kernel
theorem dX12_errorAt_5 : decode cX12_errorAt 5 = .ok (.invokevirtual 372, 3) := by decide +kernel
theorem dX12_errorAt_8 : decode cX12_errorAt 8 = .ok (.ireturn, 1) := by decide +kernel
theorem dX12_length_0 : decode cX12_length 0 = .ok (.aload_n 0, 1) := by decide +kernel
theorem dX12_length_1 : decode cX12_length 1 = .ok (.aload_n 0, 1) := by decide +kernel
theorem dX12_length_2 : decode cX12_length 2 = .ok (.getfield 61, 3) := by decide +kernel
theorem dX12_length_5 : decode cX12_length 5 = .ok (.invokevirtual 372, 3) := by decide +kernel
theorem dX12_length_8 : decode cX12_length 8 = .ok (.ireturn, 1) := by decide +kernel
theorem dX12_insults_0 : decode cX12_insults 0 = .ok (.aload_n 0, 1) := by decide +kernel
theorem dX12_insults_1 : decode cX12_insults 1 = .ok (.aload_n 0, 1) := by decide +kernel
theorem dX12_insults_2 : decode cX12_insults 2 = .ok (.getfield 20, 3) := by decide +kernel
theorem dX12_insults_5 : decode cX12_insults 5 = .ok (.getfield 68, 3) := by decide +kernel
theorem dX12_insults_8 : decode cX12_insults 8 = .ok (.invokevirtual 372, 3) := by decide +kernel
theorem dX12_insults_11 : decode cX12_insults 11 = .ok (.ireturn, 1) := by decide +kernel
theorem dX12_day_0 : decode cX12_day 0 = .ok (.aload_n 0, 1) := by decide +kernel
theorem dX12_day_1 : decode cX12_day 1 = .ok (.aload_n 0, 1) := by decide +kernel
theorem dX12_day_2 : decode cX12_day 2 = .ok (.getfield 97, 3) := by decide +kernel
theorem dX12_day_5 : decode cX12_day 5 = .ok (.invokevirtual 372, 3) := by decide +kernel
theorem dX12_day_8 : decode cX12_day 8 = .ok (.ireturn, 1) := by decide +kernel
theorem dX12_ordersCarriedOut_0 : decode cX12_ordersCarriedOut 0 = .ok (.aload_n 0, 1) := by decide +kernel
theorem dX12_ordersCarriedOut_1 : decode cX12_ordersCarriedOut 1 = .ok (.aload_n 0, 1) := by decide +kernel
theorem dX12_ordersCarriedOut_2 : decode cX12_ordersCarriedOut 2 = .ok (.getfield 103, 3) := by decide +kernel
theorem dX12_ordersCarriedOut_5 : decode cX12_ordersCarriedOut 5 = .ok (.invokevirtual 372, 3) := by decide +kernel
theorem dX12_ordersCarriedOut_8 : decode cX12_ordersCarriedOut 8 = .ok (.ireturn, 1) := by decide +kernel
theorem dX12_kinds_0 : decode cX12_kinds 0 = .ok (.aload_n 0, 1) := by decide +kernel
theorem dX12_kinds_1 : decode cX12_kinds 1 = .ok (.aload_n 0, 1) := by decide +kernel
theorem dX12_kinds_2 : decode cX12_kinds 2 = .ok (.invokevirtual 195, 3) := by decide +kernel
theorem dX12_kinds_5 : decode cX12_kinds 5 = .ok (.invokevirtual 372, 3) := by decide +kernel
theorem dX12_kinds_8 : decode cX12_kinds 8 = .ok (.ireturn, 1) := by decide +kernel
theorem dX12_letterAt_0 : decode cX12_letterAt 0 = .ok (.aload_n 0, 1) := by decide +kernel
theorem dX12_letterAt_1 : decode cX12_letterAt 1 = .ok (.iconst 0, 1) := by decide +kernel
theorem dX12_letterAt_2 : decode cX12_letterAt 2 = .ok (.putfield 58, 3) := by decide +kernel
theorem dX12_letterAt_5 : decode cX12_letterAt 5 = .ok (.aload_n 0, 1) := by decide +kernel
theorem dX12_letterAt_6 : decode cX12_letterAt 6 = .ok (.iload_n 1, 1) := by decide +kernel
theorem dX12_letterAt_7 : decode cX12_letterAt 7 = .ok (.invokevirtual 375, 3) := by decide +kernel
theorem dX12_letterAt_10 : decode cX12_letterAt 10 = .ok (.ifCond .eq 12, 3) := by decide +kernel
theorem dX12_letterAt_13 : decode cX12_letterAt 13 = .ok (.aload_n 0, 1) := by decide +kernel
theorem dX12_letterAt_14 : decode cX12_letterAt 14 = .ok (.getfield 40, 3) := by decide +kernel
theorem dX12_letterAt_17 : decode cX12_letterAt 17 = .ok (.iload_n 1, 1) := by decide +kernel
theorem dX12_letterAt_18 : decode cX12_letterAt 18 = .ok (.iaload, 1) := by decide +kernel
theorem dX12_letterAt_19 : decode cX12_letterAt 19 = .ok (.goto 8, 3) := by decide +kernel
theorem dX12_letterAt_22 : decode cX12_letterAt 22 = .ok (.aload_n 0, 1) := by decide +kernel
theorem dX12_letterAt_23 : decode cX12_letterAt 23 = .ok (.iconst 1, 1) := by decide +kernel
theorem dX12_letterAt_24 : decode cX12_letterAt 24 = .ok (.invokevirtual 366, 3) := by decide +kernel
theorem dX12_letterAt_27 : decode cX12_letterAt 27 = .ok (.ireturn, 1) := by decide +kernel
theorem dX12_rankOf_0 : decode cX12_rankOf 0 = .ok (.aload_n 0, 1) := by decide +kernel
theorem dX12_rankOf_1 : decode cX12_rankOf 1 = .ok (.iconst 0, 1) := by decide +kernel
theorem dX12_rankOf_2 : decode cX12_rankOf 2 = .ok (.putfield 58, 3) := by decide +kernel
theorem dX12_rankOf_5 : decode cX12_rankOf 5 = .ok (.aload_n 0, 1) := by decide +kernel
theorem dX12_rankOf_6 : decode cX12_rankOf 6 = .ok (.iload_n 1, 1) := by decide +kernel
theorem dX12_rankOf_7 : decode cX12_rankOf 7 = .ok (.invokevirtual 375, 3) := by decide +kernel
theorem dX12_rankOf_10 : decode cX12_rankOf 10 = .ok (.ifCond .eq 11, 3) := by decide +kernel
theorem dX12_rankOf_13 : decode cX12_rankOf 13 = .ok (.aload_n 0, 1) := by decide +kernel
theorem dX12_rankOf_14 : decode cX12_rankOf 14 = .ok (.iload_n 1, 1) := by decide +kernel
theorem dX12_rankOf_15 : decode cX12_rankOf 15 = .ok (.invokevirtual 378, 3) := by decide +kernel
theorem dX12_rankOf_18 : decode cX12_rankOf 18 = .ok (.goto 8, 3) := by decide +kernel
theorem dX12_rankOf_21 : decode cX12_rankOf 21 = .ok (.aload_n 0, 1) := by decide +kernel
theorem dX12_rankOf_22 : decode cX12_rankOf 22 = .ok (.iconst 1, 1) := by decide +kernel
theorem dX12_rankOf_23 : decode cX12_rankOf 23 = .ok (.invokevirtual 366, 3) := by decide +kernel
theorem dX12_rankOf_26 : decode cX12_rankOf 26 = .ok (.ireturn, 1) := by decide +kernel
theorem dX12_placeAt_0 : decode cX12_placeAt 0 = .ok (.aload_n 0, 1) := by decide +kernel
theorem dX12_placeAt_1 : decode cX12_placeAt 1 = .ok (.iconst 0, 1) := by decide +kernel
theorem dX12_placeAt_2 : decode cX12_placeAt 2 = .ok (.putfield 58, 3) := by decide +kernel
theorem dX12_placeAt_5 : decode cX12_placeAt 5 = .ok (.aload_n 0, 1) := by decide +kernel
theorem dX12_placeAt_6 : decode cX12_placeAt 6 = .ok (.iload_n 1, 1) := by decide +kernel
theorem dX12_placeAt_7 : decode cX12_placeAt 7 = .ok (.invokevirtual 375, 3) := by decide +kernel
theorem dX12_placeAt_10 : decode cX12_placeAt 10 = .ok (.ifCond .eq 11, 3) := by decide +kernel
theorem dX12_placeAt_13 : decode cX12_placeAt 13 = .ok (.aload_n 0, 1) := by decide +kernel
theorem dX12_placeAt_14 : decode cX12_placeAt 14 = .ok (.iload_n 1, 1) := by decide +kernel
theorem dX12_placeAt_15 : decode cX12_placeAt 15 = .ok (.invokevirtual 381, 3) := by decide +kernel
theorem dX12_placeAt_18 : decode cX12_placeAt 18 = .ok (.goto 8, 3) := by decide +kernel
theorem dX12_placeAt_21 : decode cX12_placeAt 21 = .ok (.aload_n 0, 1) := by decide +kernel
theorem dX12_placeAt_22 : decode cX12_placeAt 22 = .ok (.iconst 1, 1) := by decide +kernel
theorem dX12_placeAt_23 : decode cX12_placeAt 23 = .ok (.invokevirtual 366, 3) := by decide +kernel
theorem dX12_placeAt_26 : decode cX12_placeAt 26 = .ok (.ireturn, 1) := by decide +kernel
theorem dX12_sharedAt_0 : decode cX12_sharedAt 0 = .ok (.aload_n 0, 1) := by decide +kernel
theorem dX12_sharedAt_1 : decode cX12_sharedAt 1 = .ok (.iconst 0, 1) := by decide +kernel
theorem dX12_sharedAt_2 : decode cX12_sharedAt 2 = .ok (.putfield 58, 3) := by decide +kernel
theorem dX12_sharedAt_5 : decode cX12_sharedAt 5 = .ok (.aload_n 0, 1) := by decide +kernel
theorem dX12_sharedAt_6 : decode cX12_sharedAt 6 = .ok (.iload_n 1, 1) := by decide +kernel
theorem dX12_sharedAt_7 : decode cX12_sharedAt 7 = .ok (.invokevirtual 375, 3) := by decide +kernel
theorem dX12_sharedAt_10 : decode cX12_sharedAt 10 = .ok (.ifCond .eq 11, 3) := by decide +kernel
theorem dX12_sharedAt_13 : decode cX12_sharedAt 13 = .ok (.aload_n 0, 1) := by decide +kernel
theorem dX12_sharedAt_14 : decode cX12_sharedAt 14 = .ok (.iload_n 1, 1) := by decide +kernel
theorem dX12_sharedAt_15 : decode cX12_sharedAt 15 = .ok (.invokevirtual 384, 3) := by decide +kernel
theorem dX12_sharedAt_18 : decode cX12_sharedAt 18 = .ok (.goto 8, 3) := by decide +kernel
theorem dX12_sharedAt_21 : decode cX12_sharedAt 21 = .ok (.aload_n 0, 1) := by decide +kernel
theorem dX12_sharedAt_22 : decode cX12_sharedAt 22 = .ok (.iconst 1, 1) := by decide +kernel
theorem dX12_sharedAt_23 : decode cX12_sharedAt 23 = .ok (.invokevirtual 366, 3) := by decide +kernel
theorem dX12_sharedAt_26 : decode cX12_sharedAt 26 = .ok (.ireturn, 1) := by decide +kernel
theorem dX12_shared_0 : decode cX12_shared 0 = .ok (.aload_n 0, 1) := by decide +kernel
theorem dX12_shared_1 : decode cX12_shared 1 = .ok (.iconst 0, 1) := by decide +kernel
theorem dX12_shared_2 : decode cX12_shared 2 = .ok (.putfield 58, 3) := by decide +kernel
theorem dX12_shared_5 : decode cX12_shared 5 = .ok (.aload_n 0, 1) := by decide +kernel
theorem dX12_shared_6 : decode cX12_shared 6 = .ok (.iload_n 1, 1) := by decide +kernel
theorem dX12_shared_7 : decode cX12_shared 7 = .ok (.invokevirtual 375, 3) := by decide +kernel
theorem dX12_shared_10 : decode cX12_shared 10 = .ok (.ifCond .eq 20, 3) := by decide +kernel
theorem dX12_shared_13 : decode cX12_shared 13 = .ok (.aload_n 0, 1) := by decide +kernel
theorem dX12_shared_14 : decode cX12_shared 14 = .ok (.iload_n 2, 1) := by decide +kernel
theorem dX12_shared_15 : decode cX12_shared 15 = .ok (.invokevirtual 375, 3) := by decide +kernel
theorem dX12_shared_18 : decode cX12_shared 18 = .ok (.ifCond .eq 12, 3) := by decide +kernel
theorem dX12_shared_21 : decode cX12_shared 21 = .ok (.aload_n 0, 1) := by decide +kernel
theorem dX12_shared_22 : decode cX12_shared 22 = .ok (.iload_n 1, 1) := by decide +kernel
theorem dX12_shared_23 : decode cX12_shared 23 = .ok (.iload_n 2, 1) := by decide +kernel
theorem dX12_shared_24 : decode cX12_shared 24 = .ok (.invokevirtual 109, 3) := by decide +kernel
theorem dX12_shared_27 : decode cX12_shared 27 = .ok (.goto 8, 3) := by decide +kernel
theorem dX12_shared_30 : decode cX12_shared 30 = .ok (.aload_n 0, 1) := by decide +kernel
theorem dX12_shared_31 : decode cX12_shared 31 = .ok (.iconst 1, 1) := by decide +kernel
theorem dX12_shared_32 : decode cX12_shared 32 = .ok (.invokevirtual 366, 3) := by decide +kernel
theorem dX12_shared_35 : decode cX12_shared 35 = .ok (.ireturn, 1) := by decide +kernel
theorem dX12_isAhead_0 : decode cX12_isAhead 0 = .ok (.aload_n 0, 1) := by decide +kernel
theorem dX12_isAhead_1 : decode cX12_isAhead 1 = .ok (.iconst 0, 1) := by decide +kernel
theorem dX12_isAhead_2 : decode cX12_isAhead 2 = .ok (.putfield 58, 3) := by decide +kernel
theorem dX12_isAhead_5 : decode cX12_isAhead 5 = .ok (.aload_n 0, 1) := by decide +kernel
theorem dX12_isAhead_6 : decode cX12_isAhead 6 = .ok (.iload_n 1, 1) := by decide +kernel
theorem dX12_isAhead_7 : decode cX12_isAhead 7 = .ok (.invokevirtual 375, 3) := by decide +kernel
theorem dX12_isAhead_10 : decode cX12_isAhead 10 = .ok (.ifCond .eq 33, 3) := by decide +kernel
theorem dX12_isAhead_13 : decode cX12_isAhead 13 = .ok (.aload_n 0, 1) := by decide +kernel
theorem dX12_isAhead_14 : decode cX12_isAhead 14 = .ok (.iload_n 2, 1) := by decide +kernel
theorem dX12_isAhead_15 : decode cX12_isAhead 15 = .ok (.invokevirtual 375, 3) := by decide +kernel
theorem dX12_isAhead_18 : decode cX12_isAhead 18 = .ok (.ifCond .eq 25, 3) := by decide +kernel
theorem dX12_isAhead_21 : decode cX12_isAhead 21 = .ok (.iload_n 1, 1) := by decide +kernel
theorem dX12_isAhead_22 : decode cX12_isAhead 22 = .ok (.iload_n 2, 1) := by decide +kernel
theorem dX12_isAhead_23 : decode cX12_isAhead 23 = .ok (.if_icmp .eq 16, 3) := by decide +kernel
theorem dX12_isAhead_26 : decode cX12_isAhead 26 = .ok (.aload_n 0, 1) := by decide +kernel
theorem dX12_isAhead_27 : decode cX12_isAhead 27 = .ok (.iload_n 1, 1) := by decide +kernel
theorem dX12_isAhead_28 : decode cX12_isAhead 28 = .ok (.iload_n 2, 1) := by decide +kernel
theorem dX12_isAhead_29 : decode cX12_isAhead 29 = .ok (.invokevirtual 113, 3) := by decide +kernel
theorem dX12_isAhead_32 : decode cX12_isAhead 32 = .ok (.ifCond .eq 7, 3) := by decide +kernel
theorem dX12_isAhead_35 : decode cX12_isAhead 35 = .ok (.iconst 1, 1) := by decide +kernel
theorem dX12_isAhead_36 : decode cX12_isAhead 36 = .ok (.goto 12, 3) := by decide +kernel
theorem dX12_isAhead_39 : decode cX12_isAhead 39 = .ok (.iconst 0, 1) := by decide +kernel
theorem dX12_isAhead_40 : decode cX12_isAhead 40 = .ok (.goto 8, 3) := by decide +kernel
theorem dX12_isAhead_43 : decode cX12_isAhead 43 = .ok (.aload_n 0, 1) := by decide +kernel
theorem dX12_isAhead_44 : decode cX12_isAhead 44 = .ok (.iconst 1, 1) := by decide +kernel
theorem dX12_isAhead_45 : decode cX12_isAhead 45 = .ok (.invokevirtual 387, 3) := by decide +kernel
theorem dX12_isAhead_48 : decode cX12_isAhead 48 = .ok (.ireturn, 1) := by decide +kernel
theorem dX12_longestRepeat_0 : decode cX12_longestRepeat 0 = .ok (.aload_n 0, 1) := by decide +kernel
theorem dX12_longestRepeat_1 : decode cX12_longestRepeat 1 = .ok (.aload_n 0, 1) := by decide +kernel
theorem dX12_longestRepeat_2 : decode cX12_longestRepeat 2 = .ok (.invokevirtual 125, 3) := by decide +kernel
theorem dX12_longestRepeat_5 : decode cX12_longestRepeat 5 = .ok (.invokevirtual 372, 3) := by decide +kernel
theorem dX12_longestRepeat_8 : decode cX12_longestRepeat 8 = .ok (.ireturn, 1) := by decide +kernel
theorem dX12_repeatPlace_0 : decode cX12_repeatPlace 0 = .ok (.aload_n 0, 1) := by decide +kernel
theorem dX12_repeatPlace_1 : decode cX12_repeatPlace 1 = .ok (.aload_n 0, 1) := by decide +kernel
theorem dX12_repeatPlace_2 : decode cX12_repeatPlace 2 = .ok (.invokevirtual 135, 3) := by decide +kernel
theorem dX12_repeatPlace_5 : decode cX12_repeatPlace 5 = .ok (.invokevirtual 372, 3) := by decide +kernel
theorem dX12_repeatPlace_8 : decode cX12_repeatPlace 8 = .ok (.ireturn, 1) := by decide +kernel
theorem dX12_repeatCount_0 : decode cX12_repeatCount 0 = .ok (.aload_n 0, 1) := by decide +kernel
theorem dX12_repeatCount_1 : decode cX12_repeatCount 1 = .ok (.aload_n 0, 1) := by decide +kernel
theorem dX12_repeatCount_2 : decode cX12_repeatCount 2 = .ok (.invokevirtual 390, 3) := by decide +kernel
theorem dX12_repeatCount_5 : decode cX12_repeatCount 5 = .ok (.invokevirtual 372, 3) := by decide +kernel
theorem dX12_repeatCount_8 : decode cX12_repeatCount 8 = .ok (.ireturn, 1) := by decide +kernel
theorem dX12_kindsOf_0 : decode cX12_kindsOf 0 = .ok (.aload_n 0, 1) := by decide +kernel
theorem dX12_kindsOf_1 : decode cX12_kindsOf 1 = .ok (.iconst 0, 1) := by decide +kernel
theorem dX12_kindsOf_2 : decode cX12_kindsOf 2 = .ok (.putfield 58, 3) := by decide +kernel
theorem dX12_kindsOf_5 : decode cX12_kindsOf 5 = .ok (.iload_n 1, 1) := by decide +kernel
theorem dX12_kindsOf_6 : decode cX12_kindsOf 6 = .ok (.iconst 1, 1) := by decide +kernel
theorem dX12_kindsOf_7 : decode cX12_kindsOf 7 = .ok (.bipush 40, 2) := by decide +kernel
theorem dX12_kindsOf_9 : decode cX12_kindsOf 9 = .ok (.invokestatic 64, 3) := by decide +kernel
theorem dX12_kindsOf_12 : decode cX12_kindsOf 12 = .ok (.ifCond .eq 12, 3) := by decide +kernel
theorem dX12_kindsOf_15 : decode cX12_kindsOf 15 = .ok (.aload_n 0, 1) := by decide +kernel
theorem dX12_kindsOf_16 : decode cX12_kindsOf 16 = .ok (.iload_n 1, 1) := by decide +kernel
theorem dX12_kindsOf_17 : decode cX12_kindsOf 17 = .ok (.iconst 1, 1) := by decide +kernel
theorem dX12_kindsOf_18 : decode cX12_kindsOf 18 = .ok (.invokevirtual 393, 3) := by decide +kernel
theorem dX12_kindsOf_21 : decode cX12_kindsOf 21 = .ok (.goto 8, 3) := by decide +kernel
theorem dX12_kindsOf_24 : decode cX12_kindsOf 24 = .ok (.aload_n 0, 1) := by decide +kernel
theorem dX12_kindsOf_25 : decode cX12_kindsOf 25 = .ok (.iconst 1, 1) := by decide +kernel
theorem dX12_kindsOf_26 : decode cX12_kindsOf 26 = .ok (.invokevirtual 366, 3) := by decide +kernel
theorem dX12_kindsOf_29 : decode cX12_kindsOf 29 = .ok (.ireturn, 1) := by decide +kernel
theorem dX12_repeatedOf_0 : decode cX12_repeatedOf 0 = .ok (.aload_n 0, 1) := by decide +kernel
theorem dX12_repeatedOf_1 : decode cX12_repeatedOf 1 = .ok (.iconst 0, 1) := by decide +kernel
theorem dX12_repeatedOf_2 : decode cX12_repeatedOf 2 = .ok (.putfield 58, 3) := by decide +kernel
theorem dX12_repeatedOf_5 : decode cX12_repeatedOf 5 = .ok (.iload_n 1, 1) := by decide +kernel
theorem dX12_repeatedOf_6 : decode cX12_repeatedOf 6 = .ok (.iconst 1, 1) := by decide +kernel
theorem dX12_repeatedOf_7 : decode cX12_repeatedOf 7 = .ok (.bipush 40, 2) := by decide +kernel
theorem dX12_repeatedOf_9 : decode cX12_repeatedOf 9 = .ok (.invokestatic 64, 3) := by decide +kernel
theorem dX12_repeatedOf_12 : decode cX12_repeatedOf 12 = .ok (.ifCond .eq 12, 3) := by decide +kernel
theorem dX12_repeatedOf_15 : decode cX12_repeatedOf 15 = .ok (.aload_n 0, 1) := by decide +kernel
theorem dX12_repeatedOf_16 : decode cX12_repeatedOf 16 = .ok (.iload_n 1, 1) := by decide +kernel
theorem dX12_repeatedOf_17 : decode cX12_repeatedOf 17 = .ok (.iconst 2, 1) := by decide +kernel
theorem dX12_repeatedOf_18 : decode cX12_repeatedOf 18 = .ok (.invokevirtual 393, 3) := by decide +kernel
theorem dX12_repeatedOf_21 : decode cX12_repeatedOf 21 = .ok (.goto 8, 3) := by decide +kernel
theorem dX12_repeatedOf_24 : decode cX12_repeatedOf 24 = .ok (.aload_n 0, 1) := by decide +kernel
theorem dX12_repeatedOf_25 : decode cX12_repeatedOf 25 = .ok (.iconst 1, 1) := by decide +kernel
theorem dX12_repeatedOf_26 : decode cX12_repeatedOf 26 = .ok (.invokevirtual 366, 3) := by decide +kernel
theorem dX12_repeatedOf_29 : decode cX12_repeatedOf 29 = .ok (.ireturn, 1) := by decide +kernel
theorem dX12_mockedAtEnd_0 : decode cX12_mockedAtEnd 0 = .ok (.aload_n 0, 1) := by decide +kernel
theorem dX12_mockedAtEnd_1 : decode cX12_mockedAtEnd 1 = .ok (.aload_n 0, 1) := by decide +kernel
theorem dX12_mockedAtEnd_2 : decode cX12_mockedAtEnd 2 = .ok (.invokevirtual 396, 3) := by decide +kernel
theorem dX12_mockedAtEnd_5 : decode cX12_mockedAtEnd 5 = .ok (.invokevirtual 372, 3) := by decide +kernel
theorem dX12_mockedAtEnd_8 : decode cX12_mockedAtEnd 8 = .ok (.ireturn, 1) := by decide +kernel
theorem dX12_lettersOf_0 : decode cX12_lettersOf 0 = .ok (.aload_n 0, 1) := by decide +kernel
theorem dX12_lettersOf_1 : decode cX12_lettersOf 1 = .ok (.iconst 0, 1) := by decide +kernel
theorem dX12_lettersOf_2 : decode cX12_lettersOf 2 = .ok (.putfield 58, 3) := by decide +kernel
theorem dX12_lettersOf_5 : decode cX12_lettersOf 5 = .ok (.aload_n 0, 1) := by decide +kernel
theorem dX12_lettersOf_6 : decode cX12_lettersOf 6 = .ok (.iload_n 1, 1) := by decide +kernel
theorem dX12_lettersOf_7 : decode cX12_lettersOf 7 = .ok (.invokevirtual 399, 3) := by decide +kernel
theorem dX12_lettersOf_10 : decode cX12_lettersOf 10 = .ok (.ifCond .eq 15, 3) := by decide +kernel
theorem dX12_lettersOf_13 : decode cX12_lettersOf 13 = .ok (.aload_n 0, 1) := by decide +kernel
theorem dX12_lettersOf_14 : decode cX12_lettersOf 14 = .ok (.getfield 20, 3) := by decide +kernel
theorem dX12_lettersOf_17 : decode cX12_lettersOf 17 = .ok (.getfield 82, 3) := by decide +kernel
theorem dX12_lettersOf_20 : decode cX12_lettersOf 20 = .ok (.iload_n 1, 1) := by decide +kernel
theorem dX12_lettersOf_21 : decode cX12_lettersOf 21 = .ok (.iaload, 1) := by decide +kernel
theorem dX12_lettersOf_22 : decode cX12_lettersOf 22 = .ok (.goto 8, 3) := by decide +kernel
theorem dX12_lettersOf_25 : decode cX12_lettersOf 25 = .ok (.aload_n 0, 1) := by decide +kernel
theorem dX12_lettersOf_26 : decode cX12_lettersOf 26 = .ok (.iconst 1, 1) := by decide +kernel
theorem dX12_lettersOf_27 : decode cX12_lettersOf 27 = .ok (.invokevirtual 366, 3) := by decide +kernel
theorem dX12_lettersOf_30 : decode cX12_lettersOf 30 = .ok (.ireturn, 1) := by decide +kernel
theorem dX12_countOf_0 : decode cX12_countOf 0 = .ok (.aload_n 0, 1) := by decide +kernel
theorem dX12_countOf_1 : decode cX12_countOf 1 = .ok (.iconst 0, 1) := by decide +kernel
theorem dX12_countOf_2 : decode cX12_countOf 2 = .ok (.putfield 58, 3) := by decide +kernel
theorem dX12_countOf_5 : decode cX12_countOf 5 = .ok (.aload_n 0, 1) := by decide +kernel
theorem dX12_countOf_6 : decode cX12_countOf 6 = .ok (.iload_n 1, 1) := by decide +kernel
theorem dX12_countOf_7 : decode cX12_countOf 7 = .ok (.invokevirtual 399, 3) := by decide +kernel
theorem dX12_countOf_10 : decode cX12_countOf 10 = .ok (.ifCond .eq 11, 3) := by decide +kernel
theorem dX12_countOf_13 : decode cX12_countOf 13 = .ok (.aload_n 0, 1) := by decide +kernel
theorem dX12_countOf_14 : decode cX12_countOf 14 = .ok (.iload_n 1, 1) := by decide +kernel
theorem dX12_countOf_15 : decode cX12_countOf 15 = .ok (.invokevirtual 148, 3) := by decide +kernel
theorem dX12_countOf_18 : decode cX12_countOf 18 = .ok (.goto 8, 3) := by decide +kernel
theorem dX12_countOf_21 : decode cX12_countOf 21 = .ok (.aload_n 0, 1) := by decide +kernel
theorem dX12_countOf_22 : decode cX12_countOf 22 = .ok (.iconst 1, 1) := by decide +kernel
theorem dX12_countOf_23 : decode cX12_countOf 23 = .ok (.invokevirtual 366, 3) := by decide +kernel
theorem dX12_countOf_26 : decode cX12_countOf 26 = .ok (.ireturn, 1) := by decide +kernel
theorem dX12_firstOf_0 : decode cX12_firstOf 0 = .ok (.aload_n 0, 1) := by decide +kernel
theorem dX12_firstOf_1 : decode cX12_firstOf 1 = .ok (.iconst 0, 1) := by decide +kernel
theorem dX12_firstOf_2 : decode cX12_firstOf 2 = .ok (.putfield 58, 3) := by decide +kernel
theorem dX12_firstOf_5 : decode cX12_firstOf 5 = .ok (.aload_n 0, 1) := by decide +kernel
theorem dX12_firstOf_6 : decode cX12_firstOf 6 = .ok (.iload_n 1, 1) := by decide +kernel
theorem dX12_firstOf_7 : decode cX12_firstOf 7 = .ok (.invokevirtual 399, 3) := by decide +kernel
theorem dX12_firstOf_10 : decode cX12_firstOf 10 = .ok (.ifCond .eq 11, 3) := by decide +kernel
theorem dX12_firstOf_13 : decode cX12_firstOf 13 = .ok (.aload_n 0, 1) := by decide +kernel
theorem dX12_firstOf_14 : decode cX12_firstOf 14 = .ok (.iload_n 1, 1) := by decide +kernel
theorem dX12_firstOf_15 : decode cX12_firstOf 15 = .ok (.invokevirtual 198, 3) := by decide +kernel
theorem dX12_firstOf_18 : decode cX12_firstOf 18 = .ok (.goto 8, 3) := by decide +kernel
theorem dX12_firstOf_21 : decode cX12_firstOf 21 = .ok (.aload_n 0, 1) := by decide +kernel
theorem dX12_firstOf_22 : decode cX12_firstOf 22 = .ok (.iconst 1, 1) := by decide +kernel
theorem dX12_firstOf_23 : decode cX12_firstOf 23 = .ok (.invokevirtual 366, 3) := by decide +kernel
theorem dX12_firstOf_26 : decode cX12_firstOf 26 = .ok (.ireturn, 1) := by decide +kernel
theorem dX12_lastOf_0 : decode cX12_lastOf 0 = .ok (.aload_n 0, 1) := by decide +kernel
theorem dX12_lastOf_1 : decode cX12_lastOf 1 = .ok (.iconst 0, 1) := by decide +kernel
theorem dX12_lastOf_2 : decode cX12_lastOf 2 = .ok (.putfield 58, 3) := by decide +kernel
theorem dX12_lastOf_5 : decode cX12_lastOf 5 = .ok (.aload_n 0, 1) := by decide +kernel
theorem dX12_lastOf_6 : decode cX12_lastOf 6 = .ok (.iload_n 1, 1) := by decide +kernel
theorem dX12_lastOf_7 : decode cX12_lastOf 7 = .ok (.invokevirtual 399, 3) := by decide +kernel
theorem dX12_lastOf_10 : decode cX12_lastOf 10 = .ok (.ifCond .eq 11, 3) := by decide +kernel
theorem dX12_lastOf_13 : decode cX12_lastOf 13 = .ok (.aload_n 0, 1) := by decide +kernel
theorem dX12_lastOf_14 : decode cX12_lastOf 14 = .ok (.iload_n 1, 1) := by decide +kernel
theorem dX12_lastOf_15 : decode cX12_lastOf 15 = .ok (.invokevirtual 402, 3) := by decide +kernel
theorem dX12_lastOf_18 : decode cX12_lastOf 18 = .ok (.goto 8, 3) := by decide +kernel
theorem dX12_lastOf_21 : decode cX12_lastOf 21 = .ok (.aload_n 0, 1) := by decide +kernel
theorem dX12_lastOf_22 : decode cX12_lastOf 22 = .ok (.iconst 1, 1) := by decide +kernel
theorem dX12_lastOf_23 : decode cX12_lastOf 23 = .ok (.invokevirtual 366, 3) := by decide +kernel
theorem dX12_lastOf_26 : decode cX12_lastOf 26 = .ok (.ireturn, 1) := by decide +kernel
theorem dX12_stepsTo_0 : decode cX12_stepsTo 0 = .ok (.aload_n 0, 1) := by decide +kernel
theorem dX12_stepsTo_1 : decode cX12_stepsTo 1 = .ok (.iconst 0, 1) := by decide +kernel
theorem dX12_stepsTo_2 : decode cX12_stepsTo 2 = .ok (.putfield 58, 3) := by decide +kernel
theorem dX12_stepsTo_5 : decode cX12_stepsTo 5 = .ok (.aload_n 0, 1) := by decide +kernel
theorem dX12_stepsTo_6 : decode cX12_stepsTo 6 = .ok (.iload_n 1, 1) := by decide +kernel
theorem dX12_stepsTo_7 : decode cX12_stepsTo 7 = .ok (.invokevirtual 399, 3) := by decide +kernel
theorem dX12_stepsTo_10 : decode cX12_stepsTo 10 = .ok (.ifCond .eq 11, 3) := by decide +kernel
theorem dX12_stepsTo_13 : decode cX12_stepsTo 13 = .ok (.aload_n 0, 1) := by decide +kernel
theorem dX12_stepsTo_14 : decode cX12_stepsTo 14 = .ok (.iload_n 1, 1) := by decide +kernel
theorem dX12_stepsTo_15 : decode cX12_stepsTo 15 = .ok (.invokevirtual 405, 3) := by decide +kernel
theorem dX12_stepsTo_18 : decode cX12_stepsTo 18 = .ok (.goto 8, 3) := by decide +kernel
theorem dX12_stepsTo_21 : decode cX12_stepsTo 21 = .ok (.aload_n 0, 1) := by decide +kernel
theorem dX12_stepsTo_22 : decode cX12_stepsTo 22 = .ok (.iconst 1, 1) := by decide +kernel
theorem dX12_stepsTo_23 : decode cX12_stepsTo 23 = .ok (.invokevirtual 366, 3) := by decide +kernel
theorem dX12_stepsTo_26 : decode cX12_stepsTo 26 = .ok (.ireturn, 1) := by decide +kernel
theorem dX12_mostSaid_0 : decode cX12_mostSaid 0 = .ok (.aload_n 0, 1) := by decide +kernel
theorem dX12_mostSaid_1 : decode cX12_mostSaid 1 = .ok (.aload_n 0, 1) := by decide +kernel
theorem dX12_mostSaid_2 : decode cX12_mostSaid 2 = .ok (.invokevirtual 408, 3) := by decide +kernel
theorem dX12_mostSaid_5 : decode cX12_mostSaid 5 = .ok (.invokevirtual 372, 3) := by decide +kernel
theorem dX12_mostSaid_8 : decode cX12_mostSaid 8 = .ok (.ireturn, 1) := by decide +kernel
theorem dX12_hear_0 : decode cX12_hear 0 = .ok (.aload_n 0, 1) := by decide +kernel
theorem dX12_hear_1 : decode cX12_hear 1 = .ok (.iconst 0, 1) := by decide +kernel
theorem dX12_hear_2 : decode cX12_hear 2 = .ok (.putfield 58, 3) := by decide +kernel
theorem dX12_hear_5 : decode cX12_hear 5 = .ok (.iload_n 1, 1) := by decide +kernel
theorem dX12_hear_6 : decode cX12_hear 6 = .ok (.iconst 1, 1) := by decide +kernel
theorem dX12_hear_7 : decode cX12_hear 7 = .ok (.bipush 26, 2) := by decide +kernel
theorem dX12_hear_9 : decode cX12_hear 9 = .ok (.invokestatic 64, 3) := by decide +kernel
theorem dX12_hear_12 : decode cX12_hear 12 = .ok (.ifCond .ne 9, 3) := by decide +kernel
theorem dX12_hear_15 : decode cX12_hear 15 = .ok (.aload_n 0, 1) := by decide +kernel
theorem dX12_hear_16 : decode cX12_hear 16 = .ok (.iconst 1, 1) := by decide +kernel
theorem dX12_hear_17 : decode cX12_hear 17 = .ok (.invokevirtual 366, 3) := by decide +kernel
theorem dX12_hear_20 : decode cX12_hear 20 = .ok (.ireturn, 1) := by decide +kernel
theorem dX12_hear_21 : decode cX12_hear 21 = .ok (.aload_n 0, 1) := by decide +kernel
theorem dX12_hear_22 : decode cX12_hear 22 = .ok (.iload_n 1, 1) := by decide +kernel
theorem dX12_hear_23 : decode cX12_hear 23 = .ok (.invokevirtual 79, 3) := by decide +kernel
theorem dX12_hear_26 : decode cX12_hear 26 = .ok (.aload_n 0, 1) := by decide +kernel
theorem dX12_hear_27 : decode cX12_hear 27 = .ok (.getfield 61, 3) := by decide +kernel
theorem dX12_hear_30 : decode cX12_hear 30 = .ok (.ireturn, 1) := by decide +kernel
theorem dX12_mock_0 : decode cX12_mock 0 = .ok (.aload_n 0, 1) := by decide +kernel
theorem dX12_mock_1 : decode cX12_mock 1 = .ok (.iconst 0, 1) := by decide +kernel
theorem dX12_mock_2 : decode cX12_mock 2 = .ok (.putfield 58, 3) := by decide +kernel
theorem dX12_mock_5 : decode cX12_mock 5 = .ok (.aload_n 0, 1) := by decide +kernel
theorem dX12_mock_6 : decode cX12_mock 6 = .ok (.iload_n 1, 1) := by decide +kernel
theorem dX12_mock_7 : decode cX12_mock 7 = .ok (.invokevirtual 399, 3) := by decide +kernel
theorem dX12_mock_10 : decode cX12_mock 10 = .ok (.ifCond .ne 9, 3) := by decide +kernel
theorem dX12_mock_13 : decode cX12_mock 13 = .ok (.aload_n 0, 1) := by decide +kernel
theorem dX12_mock_14 : decode cX12_mock 14 = .ok (.iconst 1, 1) := by decide +kernel
theorem dX12_mock_15 : decode cX12_mock 15 = .ok (.invokevirtual 366, 3) := by decide +kernel
theorem dX12_mock_18 : decode cX12_mock 18 = .ok (.ireturn, 1) := by decide +kernel
theorem dX12_mock_19 : decode cX12_mock 19 = .ok (.aload_n 0, 1) := by decide +kernel
theorem dX12_mock_20 : decode cX12_mock 20 = .ok (.iload_n 1, 1) := by decide +kernel
theorem dX12_mock_21 : decode cX12_mock 21 = .ok (.invokevirtual 164, 3) := by decide +kernel
theorem dX12_mock_24 : decode cX12_mock 24 = .ok (.aload_n 0, 1) := by decide +kernel
theorem dX12_mock_25 : decode cX12_mock 25 = .ok (.getfield 61, 3) := by decide +kernel
theorem dX12_mock_28 : decode cX12_mock 28 = .ok (.ireturn, 1) := by decide +kernel
theorem dX12_echo_0 : decode cX12_echo 0 = .ok (.aload_n 0, 1) := by decide +kernel
theorem dX12_echo_1 : decode cX12_echo 1 = .ok (.iconst 0, 1) := by decide +kernel
theorem dX12_echo_2 : decode cX12_echo 2 = .ok (.putfield 58, 3) := by decide +kernel
theorem dX12_echo_5 : decode cX12_echo 5 = .ok (.iload_n 1, 1) := by decide +kernel
theorem dX12_echo_6 : decode cX12_echo 6 = .ok (.iconst 1, 1) := by decide +kernel
theorem dX12_echo_7 : decode cX12_echo 7 = .ok (.aload_n 0, 1) := by decide +kernel
theorem dX12_echo_8 : decode cX12_echo 8 = .ok (.getfield 61, 3) := by decide +kernel
theorem dX12_echo_11 : decode cX12_echo 11 = .ok (.invokestatic 64, 3) := by decide +kernel
theorem dX12_echo_14 : decode cX12_echo 14 = .ok (.ifCond .ne 9, 3) := by decide +kernel
theorem dX12_echo_17 : decode cX12_echo 17 = .ok (.aload_n 0, 1) := by decide +kernel
theorem dX12_echo_18 : decode cX12_echo 18 = .ok (.iconst 1, 1) := by decide +kernel
theorem dX12_echo_19 : decode cX12_echo 19 = .ok (.invokevirtual 366, 3) := by decide +kernel
theorem dX12_echo_22 : decode cX12_echo 22 = .ok (.ireturn, 1) := by decide +kernel
theorem dX12_echo_23 : decode cX12_echo 23 = .ok (.aload_n 0, 1) := by decide +kernel
theorem dX12_echo_24 : decode cX12_echo 24 = .ok (.iload_n 1, 1) := by decide +kernel
theorem dX12_echo_25 : decode cX12_echo 25 = .ok (.invokevirtual 182, 3) := by decide +kernel
theorem dX12_echo_28 : decode cX12_echo 28 = .ok (.aload_n 0, 1) := by decide +kernel
theorem dX12_echo_29 : decode cX12_echo 29 = .ok (.getfield 61, 3) := by decide +kernel
theorem dX12_echo_32 : decode cX12_echo 32 = .ok (.ireturn, 1) := by decide +kernel
theorem dX12_forget_0 : decode cX12_forget 0 = .ok (.aload_n 0, 1) := by decide +kernel
theorem dX12_forget_1 : decode cX12_forget 1 = .ok (.iconst 0, 1) := by decide +kernel
theorem dX12_forget_2 : decode cX12_forget 2 = .ok (.putfield 58, 3) := by decide +kernel
theorem dX12_forget_5 : decode cX12_forget 5 = .ok (.iload_n 1, 1) := by decide +kernel
theorem dX12_forget_6 : decode cX12_forget 6 = .ok (.iconst 1, 1) := by decide +kernel
theorem dX12_forget_7 : decode cX12_forget 7 = .ok (.aload_n 0, 1) := by decide +kernel
theorem dX12_forget_8 : decode cX12_forget 8 = .ok (.getfield 61, 3) := by decide +kernel
theorem dX12_forget_11 : decode cX12_forget 11 = .ok (.invokestatic 64, 3) := by decide +kernel
theorem dX12_forget_14 : decode cX12_forget 14 = .ok (.ifCond .ne 9, 3) := by decide +kernel
theorem dX12_forget_17 : decode cX12_forget 17 = .ok (.aload_n 0, 1) := by decide +kernel
theorem dX12_forget_18 : decode cX12_forget 18 = .ok (.iconst 1, 1) := by decide +kernel
theorem dX12_forget_19 : decode cX12_forget 19 = .ok (.invokevirtual 366, 3) := by decide +kernel
theorem dX12_forget_22 : decode cX12_forget 22 = .ok (.ireturn, 1) := by decide +kernel
theorem dX12_forget_23 : decode cX12_forget 23 = .ok (.aload_n 0, 1) := by decide +kernel
theorem dX12_forget_24 : decode cX12_forget 24 = .ok (.iload_n 1, 1) := by decide +kernel
theorem dX12_forget_25 : decode cX12_forget 25 = .ok (.invokevirtual 75, 3) := by decide +kernel
theorem dX12_forget_28 : decode cX12_forget 28 = .ok (.aload_n 0, 1) := by decide +kernel
theorem dX12_forget_29 : decode cX12_forget 29 = .ok (.getfield 61, 3) := by decide +kernel
theorem dX12_forget_32 : decode cX12_forget 32 = .ok (.ireturn, 1) := by decide +kernel
theorem dX12_passDays_0 : decode cX12_passDays 0 = .ok (.aload_n 0, 1) := by decide +kernel
theorem dX12_passDays_1 : decode cX12_passDays 1 = .ok (.iconst 0, 1) := by decide +kernel
theorem dX12_passDays_2 : decode cX12_passDays 2 = .ok (.putfield 58, 3) := by decide +kernel
theorem dX12_passDays_5 : decode cX12_passDays 5 = .ok (.iload_n 1, 1) := by decide +kernel
theorem dX12_passDays_6 : decode cX12_passDays 6 = .ok (.iconst 1, 1) := by decide +kernel
theorem dX12_passDays_7 : decode cX12_passDays 7 = .ok (.bipush 30, 2) := by decide +kernel
theorem dX12_passDays_9 : decode cX12_passDays 9 = .ok (.invokestatic 64, 3) := by decide +kernel
theorem dX12_passDays_12 : decode cX12_passDays 12 = .ok (.ifCond .eq 11, 3) := by decide +kernel
theorem dX12_passDays_15 : decode cX12_passDays 15 = .ok (.aload_n 0, 1) := by decide +kernel
theorem dX12_passDays_16 : decode cX12_passDays 16 = .ok (.iload_n 1, 1) := by decide +kernel
theorem dX12_passDays_17 : decode cX12_passDays 17 = .ok (.invokevirtual 411, 3) := by decide +kernel
theorem dX12_passDays_20 : decode cX12_passDays 20 = .ok (.goto 8, 3) := by decide +kernel
theorem dX12_passDays_23 : decode cX12_passDays 23 = .ok (.aload_n 0, 1) := by decide +kernel
theorem dX12_passDays_24 : decode cX12_passDays 24 = .ok (.iconst 1, 1) := by decide +kernel
theorem dX12_passDays_25 : decode cX12_passDays 25 = .ok (.invokevirtual 366, 3) := by decide +kernel
theorem dX12_passDays_28 : decode cX12_passDays 28 = .ok (.ireturn, 1) := by decide +kernel
theorem dX12_repeatAfter_0 : decode cX12_repeatAfter 0 = .ok (.aload_n 0, 1) := by decide +kernel
theorem dX12_repeatAfter_1 : decode cX12_repeatAfter 1 = .ok (.iconst 0, 1) := by decide +kernel
theorem dX12_repeatAfter_2 : decode cX12_repeatAfter 2 = .ok (.putfield 58, 3) := by decide +kernel
theorem dX12_repeatAfter_5 : decode cX12_repeatAfter 5 = .ok (.iload_n 1, 1) := by decide +kernel
theorem dX12_repeatAfter_6 : decode cX12_repeatAfter 6 = .ok (.iconst 1, 1) := by decide +kernel
theorem dX12_repeatAfter_7 : decode cX12_repeatAfter 7 = .ok (.bipush 30, 2) := by decide +kernel
theorem dX12_repeatAfter_9 : decode cX12_repeatAfter 9 = .ok (.invokestatic 64, 3) := by decide +kernel
theorem dX12_repeatAfter_12 : decode cX12_repeatAfter 12 = .ok (.ifCond .ne 9, 3) := by decide +kernel
theorem dX12_repeatAfter_15 : decode cX12_repeatAfter 15 = .ok (.aload_n 0, 1) := by decide +kernel
theorem dX12_repeatAfter_16 : decode cX12_repeatAfter 16 = .ok (.iconst 1, 1) := by decide +kernel
theorem dX12_repeatAfter_17 : decode cX12_repeatAfter 17 = .ok (.invokevirtual 366, 3) := by decide +kernel
theorem dX12_repeatAfter_20 : decode cX12_repeatAfter 20 = .ok (.ireturn, 1) := by decide +kernel
theorem dX12_repeatAfter_21 : decode cX12_repeatAfter 21 = .ok (.aload_n 0, 1) := by decide +kernel
theorem dX12_repeatAfter_22 : decode cX12_repeatAfter 22 = .ok (.invokevirtual 414, 3) := by decide +kernel
theorem dX12_repeatAfter_25 : decode cX12_repeatAfter 25 = .ok (.aload_n 0, 1) := by decide +kernel
theorem dX12_repeatAfter_26 : decode cX12_repeatAfter 26 = .ok (.iload_n 1, 1) := by decide +kernel
theorem dX12_repeatAfter_27 : decode cX12_repeatAfter 27 = .ok (.invokevirtual 411, 3) := by decide +kernel
theorem dX12_repeatAfter_30 : decode cX12_repeatAfter 30 = .ok (.pop, 1) := by decide +kernel
theorem dX12_repeatAfter_31 : decode cX12_repeatAfter 31 = .ok (.aload_n 0, 1) := by decide +kernel
theorem dX12_repeatAfter_32 : decode cX12_repeatAfter 32 = .ok (.invokevirtual 125, 3) := by decide +kernel
theorem dX12_repeatAfter_35 : decode cX12_repeatAfter 35 = .ok (.istore_n 2, 1) := by decide +kernel
theorem dX12_repeatAfter_36 : decode cX12_repeatAfter 36 = .ok (.aload_n 0, 1) := by decide +kernel
theorem dX12_repeatAfter_37 : decode cX12_repeatAfter 37 = .ok (.invokevirtual 417, 3) := by decide +kernel
theorem dX12_repeatAfter_40 : decode cX12_repeatAfter 40 = .ok (.iload_n 2, 1) := by decide +kernel
theorem dX12_repeatAfter_41 : decode cX12_repeatAfter 41 = .ok (.ireturn, 1) := by decide +kernel
theorem dX12_until_0 : decode cX12_until 0 = .ok (.aload_n 0, 1) := by decide +kernel
theorem dX12_until_1 : decode cX12_until 1 = .ok (.invokevirtual 414, 3) := by decide +kernel
theorem dX12_until_4 : decode cX12_until 4 = .ok (.iconst 0, 1) := by decide +kernel
theorem dX12_until_5 : decode cX12_until 5 = .ok (.istore_n 2, 1) := by decide +kernel
theorem dX12_until_6 : decode cX12_until 6 = .ok (.iload_n 2, 1) := by decide +kernel
theorem dX12_until_7 : decode cX12_until 7 = .ok (.bipush 30, 2) := by decide +kernel
theorem dX12_until_9 : decode cX12_until 9 = .ok (.if_icmp .gt 24, 3) := by decide +kernel
theorem dX12_until_12 : decode cX12_until 12 = .ok (.aload_n 0, 1) := by decide +kernel
theorem dX12_until_13 : decode cX12_until 13 = .ok (.iload_n 1, 1) := by decide +kernel
theorem dX12_until_14 : decode cX12_until 14 = .ok (.invokevirtual 198, 3) := by decide +kernel
theorem dX12_until_17 : decode cX12_until 17 = .ok (.iconst (-1), 1) := by decide +kernel
theorem dX12_until_18 : decode cX12_until 18 = .ok (.if_icmp .ne 15, 3) := by decide +kernel
theorem dX12_until_21 : decode cX12_until 21 = .ok (.aload_n 0, 1) := by decide +kernel
theorem dX12_until_22 : decode cX12_until 22 = .ok (.iconst 1, 1) := by decide +kernel
theorem dX12_until_23 : decode cX12_until 23 = .ok (.invokevirtual 411, 3) := by decide +kernel
theorem dX12_until_26 : decode cX12_until 26 = .ok (.pop, 1) := by decide +kernel
theorem dX12_until_27 : decode cX12_until 27 = .ok (.iinc 2 1, 3) := by decide +kernel
theorem dX12_until_30 : decode cX12_until 30 = .ok (.goto (-24), 3) := by decide +kernel
theorem dX12_until_33 : decode cX12_until 33 = .ok (.aload_n 0, 1) := by decide +kernel
theorem dX12_until_34 : decode cX12_until 34 = .ok (.invokevirtual 417, 3) := by decide +kernel
theorem dX12_until_37 : decode cX12_until 37 = .ok (.iload_n 2, 1) := by decide +kernel
theorem dX12_until_38 : decode cX12_until 38 = .ok (.bipush 30, 2) := by decide +kernel
theorem dX12_until_40 : decode cX12_until 40 = .ok (.if_icmp .le 7, 3) := by decide +kernel
theorem dX12_until_43 : decode cX12_until 43 = .ok (.iconst (-1), 1) := by decide +kernel
theorem dX12_until_44 : decode cX12_until 44 = .ok (.goto 4, 3) := by decide +kernel
theorem dX12_until_47 : decode cX12_until 47 = .ok (.iload_n 2, 1) := by decide +kernel
theorem dX12_until_48 : decode cX12_until 48 = .ok (.ireturn, 1) := by decide +kernel
theorem dX12_daysUntilKnown_0 : decode cX12_daysUntilKnown 0 = .ok (.aload_n 0, 1) := by decide +kernel
theorem dX12_daysUntilKnown_1 : decode cX12_daysUntilKnown 1 = .ok (.iconst 0, 1) := by decide +kernel
theorem dX12_daysUntilKnown_2 : decode cX12_daysUntilKnown 2 = .ok (.putfield 58, 3) := by decide +kernel
theorem dX12_daysUntilKnown_5 : decode cX12_daysUntilKnown 5 = .ok (.aload_n 0, 1) := by decide +kernel
theorem dX12_daysUntilKnown_6 : decode cX12_daysUntilKnown 6 = .ok (.iload_n 1, 1) := by decide +kernel
theorem dX12_daysUntilKnown_7 : decode cX12_daysUntilKnown 7 = .ok (.invokevirtual 399, 3) := by decide +kernel
theorem dX12_daysUntilKnown_10 : decode cX12_daysUntilKnown 10 = .ok (.ifCond .eq 11, 3) := by decide +kernel
theorem dX12_daysUntilKnown_13 : decode cX12_daysUntilKnown 13 = .ok (.aload_n 0, 1) := by decide +kernel
theorem dX12_daysUntilKnown_14 : decode cX12_daysUntilKnown 14 = .ok (.iload_n 1, 1) := by decide +kernel
theorem dX12_daysUntilKnown_15 : decode cX12_daysUntilKnown 15 = .ok (.invokevirtual 420, 3) := by decide +kernel
theorem dX12_daysUntilKnown_18 : decode cX12_daysUntilKnown 18 = .ok (.goto 8, 3) := by decide +kernel
theorem dX12_daysUntilKnown_21 : decode cX12_daysUntilKnown 21 = .ok (.aload_n 0, 1) := by decide +kernel
theorem dX12_daysUntilKnown_22 : decode cX12_daysUntilKnown 22 = .ok (.iconst 1, 1) := by decide +kernel
theorem dX12_daysUntilKnown_23 : decode cX12_daysUntilKnown 23 = .ok (.invokevirtual 366, 3) := by decide +kernel
theorem dX12_daysUntilKnown_26 : decode cX12_daysUntilKnown 26 = .ok (.ireturn, 1) := by decide +kernel
theorem dX12_bestLetter_0 : decode cX12_bestLetter 0 = .ok (.aload_n 0, 1) := by decide +kernel
theorem dX12_bestLetter_1 : decode cX12_bestLetter 1 = .ok (.iconst 0, 1) := by decide +kernel
theorem dX12_bestLetter_2 : decode cX12_bestLetter 2 = .ok (.putfield 58, 3) := by decide +kernel
theorem dX12_bestLetter_5 : decode cX12_bestLetter 5 = .ok (.aload_n 0, 1) := by decide +kernel
theorem dX12_bestLetter_6 : decode cX12_bestLetter 6 = .ok (.invokevirtual 414, 3) := by decide +kernel
theorem dX12_bestLetter_9 : decode cX12_bestLetter 9 = .ok (.iconst 0, 1) := by decide +kernel
theorem dX12_bestLetter_10 : decode cX12_bestLetter 10 = .ok (.istore_n 1, 1) := by decide +kernel
theorem dX12_bestLetter_11 : decode cX12_bestLetter 11 = .ok (.iconst (-1), 1) := by decide +kernel
theorem dX12_bestLetter_12 : decode cX12_bestLetter 12 = .ok (.istore_n 2, 1) := by decide +kernel
theorem dX12_bestLetter_13 : decode cX12_bestLetter 13 = .ok (.iconst 1, 1) := by decide +kernel
theorem dX12_bestLetter_14 : decode cX12_bestLetter 14 = .ok (.istore_n 3, 1) := by decide +kernel
theorem dX12_bestLetter_15 : decode cX12_bestLetter 15 = .ok (.iload_n 3, 1) := by decide +kernel
theorem dX12_bestLetter_16 : decode cX12_bestLetter 16 = .ok (.bipush 26, 2) := by decide +kernel
theorem dX12_bestLetter_18 : decode cX12_bestLetter 18 = .ok (.if_icmp .gt 38, 3) := by decide +kernel
theorem dX12_bestLetter_21 : decode cX12_bestLetter 21 = .ok (.aload_n 0, 1) := by decide +kernel
theorem dX12_bestLetter_22 : decode cX12_bestLetter 22 = .ok (.iload_n 3, 1) := by decide +kernel
theorem dX12_bestLetter_23 : decode cX12_bestLetter 23 = .ok (.invokevirtual 79, 3) := by decide +kernel
theorem dX12_bestLetter_26 : decode cX12_bestLetter 26 = .ok (.aload_n 0, 1) := by decide +kernel
theorem dX12_bestLetter_27 : decode cX12_bestLetter 27 = .ok (.invokevirtual 125, 3) := by decide +kernel
theorem dX12_bestLetter_30 : decode cX12_bestLetter 30 = .ok (.istore 4, 2) := by decide +kernel
theorem dX12_bestLetter_32 : decode cX12_bestLetter 32 = .ok (.aload_n 0, 1) := by decide +kernel
theorem dX12_bestLetter_33 : decode cX12_bestLetter 33 = .ok (.invokevirtual 417, 3) := by decide +kernel
theorem dX12_bestLetter_36 : decode cX12_bestLetter 36 = .ok (.iload 4, 2) := by decide +kernel
theorem dX12_bestLetter_38 : decode cX12_bestLetter 38 = .ok (.iload_n 2, 1) := by decide +kernel
theorem dX12_bestLetter_39 : decode cX12_bestLetter 39 = .ok (.if_icmp .gt 6, 3) := by decide +kernel
theorem dX12_bestLetter_42 : decode cX12_bestLetter 42 = .ok (.goto 8, 3) := by decide +kernel
theorem dX12_bestLetter_45 : decode cX12_bestLetter 45 = .ok (.iload_n 3, 1) := by decide +kernel
theorem dX12_bestLetter_46 : decode cX12_bestLetter 46 = .ok (.istore_n 1, 1) := by decide +kernel
theorem dX12_bestLetter_47 : decode cX12_bestLetter 47 = .ok (.iload 4, 2) := by decide +kernel
theorem dX12_bestLetter_49 : decode cX12_bestLetter 49 = .ok (.istore_n 2, 1) := by decide +kernel
theorem dX12_bestLetter_50 : decode cX12_bestLetter 50 = .ok (.iinc 3 1, 3) := by decide +kernel
theorem dX12_bestLetter_53 : decode cX12_bestLetter 53 = .ok (.goto (-38), 3) := by decide +kernel
theorem dX12_bestLetter_56 : decode cX12_bestLetter 56 = .ok (.iload_n 1, 1) := by decide +kernel
theorem dX12_bestLetter_57 : decode cX12_bestLetter 57 = .ok (.ireturn, 1) := by decide +kernel
theorem dX12_meanShared_0 : decode cX12_meanShared 0 = .ok (.aload_n 0, 1) := by decide +kernel
theorem dX12_meanShared_1 : decode cX12_meanShared 1 = .ok (.iconst 0, 1) := by decide +kernel
theorem dX12_meanShared_2 : decode cX12_meanShared 2 = .ok (.putfield 58, 3) := by decide +kernel
theorem dX12_meanShared_5 : decode cX12_meanShared 5 = .ok (.iconst 0, 1) := by decide +kernel
theorem dX12_meanShared_6 : decode cX12_meanShared 6 = .ok (.istore_n 1, 1) := by decide +kernel
theorem dX12_meanShared_7 : decode cX12_meanShared 7 = .ok (.iconst 0, 1) := by decide +kernel
theorem dX12_meanShared_8 : decode cX12_meanShared 8 = .ok (.istore_n 2, 1) := by decide +kernel
theorem dX12_meanShared_9 : decode cX12_meanShared 9 = .ok (.iload_n 2, 1) := by decide +kernel
theorem dX12_meanShared_10 : decode cX12_meanShared 10 = .ok (.aload_n 0, 1) := by decide +kernel
theorem dX12_meanShared_11 : decode cX12_meanShared 11 = .ok (.getfield 61, 3) := by decide +kernel
theorem dX12_meanShared_14 : decode cX12_meanShared 14 = .ok (.if_icmp .ge 17, 3) := by decide +kernel
theorem dX12_meanShared_17 : decode cX12_meanShared 17 = .ok (.iload_n 1, 1) := by decide +kernel
theorem dX12_meanShared_18 : decode cX12_meanShared 18 = .ok (.aload_n 0, 1) := by decide +kernel
theorem dX12_meanShared_19 : decode cX12_meanShared 19 = .ok (.iload_n 2, 1) := by decide +kernel
theorem dX12_meanShared_20 : decode cX12_meanShared 20 = .ok (.invokevirtual 384, 3) := by decide +kernel
theorem dX12_meanShared_23 : decode cX12_meanShared 23 = .ok (.iadd, 1) := by decide +kernel
theorem dX12_meanShared_24 : decode cX12_meanShared 24 = .ok (.istore_n 1, 1) := by decide +kernel
theorem dX12_meanShared_25 : decode cX12_meanShared 25 = .ok (.iinc 2 1, 3) := by decide +kernel
theorem dX12_meanShared_28 : decode cX12_meanShared 28 = .ok (.goto (-19), 3) := by decide +kernel
theorem dX12_meanShared_31 : decode cX12_meanShared 31 = .ok (.aload_n 0, 1) := by decide +kernel
theorem dX12_meanShared_32 : decode cX12_meanShared 32 = .ok (.getfield 61, 3) := by decide +kernel
theorem dX12_meanShared_35 : decode cX12_meanShared 35 = .ok (.ifCond .ne 7, 3) := by decide +kernel
theorem dX12_meanShared_38 : decode cX12_meanShared 38 = .ok (.dconst 0, 1) := by decide +kernel
theorem dX12_meanShared_39 : decode cX12_meanShared 39 = .ok (.goto 11, 3) := by decide +kernel
theorem dX12_meanShared_42 : decode cX12_meanShared 42 = .ok (.iload_n 1, 1) := by decide +kernel
theorem dX12_meanShared_43 : decode cX12_meanShared 43 = .ok (.i2d, 1) := by decide +kernel
theorem dX12_meanShared_44 : decode cX12_meanShared 44 = .ok (.aload_n 0, 1) := by decide +kernel
theorem dX12_meanShared_45 : decode cX12_meanShared 45 = .ok (.getfield 61, 3) := by decide +kernel
theorem dX12_meanShared_48 : decode cX12_meanShared 48 = .ok (.i2d, 1) := by decide +kernel
theorem dX12_meanShared_49 : decode cX12_meanShared 49 = .ok (.ddiv, 1) := by decide +kernel
theorem dX12_meanShared_50 : decode cX12_meanShared 50 = .ok (.dreturn, 1) := by decide +kernel
theorem dX12_digest_0 : decode cX12_digest 0 = .ok (.aload_n 0, 1) := by decide +kernel
theorem dX12_digest_1 : decode cX12_digest 1 = .ok (.iconst 0, 1) := by decide +kernel
theorem dX12_digest_2 : decode cX12_digest 2 = .ok (.putfield 58, 3) := by decide +kernel
theorem dX12_digest_5 : decode cX12_digest 5 = .ok (.bipush 10, 2) := by decide +kernel
theorem dX12_digest_7 : decode cX12_digest 7 = .ok (.newarray .int, 2) := by decide +kernel
theorem dX12_digest_9 : decode cX12_digest 9 = .ok (.dup, 1) := by decide +kernel
theorem dX12_digest_10 : decode cX12_digest 10 = .ok (.iconst 0, 1) := by decide +kernel
theorem dX12_digest_11 : decode cX12_digest 11 = .ok (.aload_n 0, 1) := by decide +kernel
theorem dX12_digest_12 : decode cX12_digest 12 = .ok (.getfield 61, 3) := by decide +kernel
theorem dX12_digest_15 : decode cX12_digest 15 = .ok (.iastore, 1) := by decide +kernel
theorem dX12_digest_16 : decode cX12_digest 16 = .ok (.dup, 1) := by decide +kernel
theorem dX12_digest_17 : decode cX12_digest 17 = .ok (.iconst 1, 1) := by decide +kernel
theorem dX12_digest_18 : decode cX12_digest 18 = .ok (.aload_n 0, 1) := by decide +kernel
theorem dX12_digest_19 : decode cX12_digest 19 = .ok (.getfield 20, 3) := by decide +kernel
theorem dX12_digest_22 : decode cX12_digest 22 = .ok (.getfield 68, 3) := by decide +kernel
theorem dX12_digest_25 : decode cX12_digest 25 = .ok (.iastore, 1) := by decide +kernel
theorem dX12_digest_26 : decode cX12_digest 26 = .ok (.dup, 1) := by decide +kernel
theorem dX12_digest_27 : decode cX12_digest 27 = .ok (.iconst 2, 1) := by decide +kernel
theorem dX12_digest_28 : decode cX12_digest 28 = .ok (.aload_n 0, 1) := by decide +kernel
theorem dX12_digest_29 : decode cX12_digest 29 = .ok (.getfield 97, 3) := by decide +kernel
theorem dX12_digest_32 : decode cX12_digest 32 = .ok (.iastore, 1) := by decide +kernel
theorem dX12_digest_33 : decode cX12_digest 33 = .ok (.dup, 1) := by decide +kernel
theorem dX12_digest_34 : decode cX12_digest 34 = .ok (.iconst 3, 1) := by decide +kernel
theorem dX12_digest_35 : decode cX12_digest 35 = .ok (.aload_n 0, 1) := by decide +kernel
theorem dX12_digest_36 : decode cX12_digest 36 = .ok (.getfield 103, 3) := by decide +kernel
theorem dX12_digest_39 : decode cX12_digest 39 = .ok (.iastore, 1) := by decide +kernel
theorem dX12_digest_40 : decode cX12_digest 40 = .ok (.dup, 1) := by decide +kernel
theorem dX12_digest_41 : decode cX12_digest 41 = .ok (.iconst 4, 1) := by decide +kernel
theorem dX12_digest_42 : decode cX12_digest 42 = .ok (.aload_n 0, 1) := by decide +kernel
theorem dX12_digest_43 : decode cX12_digest 43 = .ok (.invokevirtual 195, 3) := by decide +kernel
theorem dX12_digest_46 : decode cX12_digest 46 = .ok (.iastore, 1) := by decide +kernel
theorem dX12_digest_47 : decode cX12_digest 47 = .ok (.dup, 1) := by decide +kernel
theorem dX12_digest_48 : decode cX12_digest 48 = .ok (.iconst 5, 1) := by decide +kernel
theorem dX12_digest_49 : decode cX12_digest 49 = .ok (.aload_n 0, 1) := by decide +kernel
theorem dX12_digest_50 : decode cX12_digest 50 = .ok (.invokevirtual 125, 3) := by decide +kernel
theorem dX12_digest_53 : decode cX12_digest 53 = .ok (.iastore, 1) := by decide +kernel
theorem dX12_digest_54 : decode cX12_digest 54 = .ok (.dup, 1) := by decide +kernel
theorem dX12_digest_55 : decode cX12_digest 55 = .ok (.bipush 6, 2) := by decide +kernel
theorem dX12_digest_57 : decode cX12_digest 57 = .ok (.aload_n 0, 1) := by decide +kernel
theorem dX12_digest_58 : decode cX12_digest 58 = .ok (.invokevirtual 135, 3) := by decide +kernel
theorem dX12_digest_61 : decode cX12_digest 61 = .ok (.iastore, 1) := by decide +kernel
theorem dX12_digest_62 : decode cX12_digest 62 = .ok (.dup, 1) := by decide +kernel
theorem dX12_digest_63 : decode cX12_digest 63 = .ok (.bipush 7, 2) := by decide +kernel
theorem dX12_digest_65 : decode cX12_digest 65 = .ok (.aload_n 0, 1) := by decide +kernel
theorem dX12_digest_66 : decode cX12_digest 66 = .ok (.invokevirtual 390, 3) := by decide +kernel
theorem dX12_digest_69 : decode cX12_digest 69 = .ok (.iastore, 1) := by decide +kernel
theorem dX12_digest_70 : decode cX12_digest 70 = .ok (.dup, 1) := by decide +kernel
theorem dX12_digest_71 : decode cX12_digest 71 = .ok (.bipush 8, 2) := by decide +kernel
theorem dX12_digest_73 : decode cX12_digest 73 = .ok (.aload_n 0, 1) := by decide +kernel
theorem dX12_digest_74 : decode cX12_digest 74 = .ok (.invokevirtual 396, 3) := by decide +kernel
theorem dX12_digest_77 : decode cX12_digest 77 = .ok (.iastore, 1) := by decide +kernel
theorem dX12_digest_78 : decode cX12_digest 78 = .ok (.dup, 1) := by decide +kernel
theorem dX12_digest_79 : decode cX12_digest 79 = .ok (.bipush 9, 2) := by decide +kernel
theorem dX12_digest_81 : decode cX12_digest 81 = .ok (.aload_n 0, 1) := by decide +kernel
theorem dX12_digest_82 : decode cX12_digest 82 = .ok (.invokevirtual 408, 3) := by decide +kernel
theorem dX12_digest_85 : decode cX12_digest 85 = .ok (.iastore, 1) := by decide +kernel
theorem dX12_digest_86 : decode cX12_digest 86 = .ok (.astore_n 1, 1) := by decide +kernel
theorem dX12_digest_87 : decode cX12_digest 87 = .ok (.ldc2_w 423, 3) := by decide +kernel
theorem dX12_digest_90 : decode cX12_digest 90 = .ok (.lstore_n 2, 1) := by decide +kernel
theorem dX12_digest_91 : decode cX12_digest 91 = .ok (.aload_n 1, 1) := by decide +kernel
theorem dX12_digest_92 : decode cX12_digest 92 = .ok (.astore 4, 2) := by decide +kernel
theorem dX12_digest_94 : decode cX12_digest 94 = .ok (.aload 4, 2) := by decide +kernel
theorem dX12_digest_96 : decode cX12_digest 96 = .ok (.arraylength, 1) := by decide +kernel
theorem dX12_digest_97 : decode cX12_digest 97 = .ok (.istore 5, 2) := by decide +kernel
theorem dX12_digest_99 : decode cX12_digest 99 = .ok (.iconst 0, 1) := by decide +kernel
theorem dX12_digest_100 : decode cX12_digest 100 = .ok (.istore 6, 2) := by decide +kernel
theorem dX12_digest_102 : decode cX12_digest 102 = .ok (.iload 6, 2) := by decide +kernel
theorem dX12_digest_104 : decode cX12_digest 104 = .ok (.iload 5, 2) := by decide +kernel
theorem dX12_digest_106 : decode cX12_digest 106 = .ok (.if_icmp .ge 26, 3) := by decide +kernel
theorem dX12_digest_109 : decode cX12_digest 109 = .ok (.aload 4, 2) := by decide +kernel
theorem dX12_digest_111 : decode cX12_digest 111 = .ok (.iload 6, 2) := by decide +kernel
theorem dX12_digest_113 : decode cX12_digest 113 = .ok (.iaload, 1) := by decide +kernel
theorem dX12_digest_114 : decode cX12_digest 114 = .ok (.istore 7, 2) := by decide +kernel
theorem dX12_digest_116 : decode cX12_digest 116 = .ok (.lload_n 2, 1) := by decide +kernel
theorem dX12_digest_117 : decode cX12_digest 117 = .ok (.ldc2_w 425, 3) := by decide +kernel
theorem dX12_digest_120 : decode cX12_digest 120 = .ok (.lmul, 1) := by decide +kernel
theorem dX12_digest_121 : decode cX12_digest 121 = .ok (.iload 7, 2) := by decide +kernel
theorem dX12_digest_123 : decode cX12_digest 123 = .ok (.i2l, 1) := by decide +kernel
theorem dX12_digest_124 : decode cX12_digest 124 = .ok (.ladd, 1) := by decide +kernel
theorem dX12_digest_125 : decode cX12_digest 125 = .ok (.lstore_n 2, 1) := by decide +kernel
theorem dX12_digest_126 : decode cX12_digest 126 = .ok (.iinc 6 1, 3) := by decide +kernel
theorem dX12_digest_129 : decode cX12_digest 129 = .ok (.goto (-27), 3) := by decide +kernel
theorem dX12_digest_132 : decode cX12_digest 132 = .ok (.iconst 0, 1) := by decide +kernel
theorem dX12_digest_133 : decode cX12_digest 133 = .ok (.istore 4, 2) := by decide +kernel
theorem dX12_digest_135 : decode cX12_digest 135 = .ok (.iload 4, 2) := by decide +kernel
theorem dX12_digest_137 : decode cX12_digest 137 = .ok (.aload_n 0, 1) := by decide +kernel
theorem dX12_digest_138 : decode cX12_digest 138 = .ok (.getfield 61, 3) := by decide +kernel
theorem dX12_digest_141 : decode cX12_digest 141 = .ok (.if_icmp .ge 36, 3) := by decide +kernel
theorem dX12_digest_144 : decode cX12_digest 144 = .ok (.lload_n 2, 1) := by decide +kernel
theorem dX12_digest_145 : decode cX12_digest 145 = .ok (.ldc2_w 425, 3) := by decide +kernel
theorem dX12_digest_148 : decode cX12_digest 148 = .ok (.lmul, 1) := by decide +kernel
theorem dX12_digest_149 : decode cX12_digest 149 = .ok (.aload_n 0, 1) := by decide +kernel
theorem dX12_digest_150 : decode cX12_digest 150 = .ok (.getfield 40, 3) := by decide +kernel
theorem dX12_digest_153 : decode cX12_digest 153 = .ok (.iload 4, 2) := by decide +kernel
theorem dX12_digest_155 : decode cX12_digest 155 = .ok (.iaload, 1) := by decide +kernel
theorem dX12_digest_156 : decode cX12_digest 156 = .ok (.i2l, 1) := by decide +kernel
theorem dX12_digest_157 : decode cX12_digest 157 = .ok (.ladd, 1) := by decide +kernel
theorem dX12_digest_158 : decode cX12_digest 158 = .ok (.ldc2_w 425, 3) := by decide +kernel
theorem dX12_digest_161 : decode cX12_digest 161 = .ok (.lmul, 1) := by decide +kernel
theorem dX12_digest_162 : decode cX12_digest 162 = .ok (.aload_n 0, 1) := by decide +kernel
theorem dX12_digest_163 : decode cX12_digest 163 = .ok (.iload 4, 2) := by decide +kernel
theorem dX12_digest_165 : decode cX12_digest 165 = .ok (.invokevirtual 378, 3) := by decide +kernel
theorem dX12_digest_168 : decode cX12_digest 168 = .ok (.i2l, 1) := by decide +kernel
theorem dX12_digest_169 : decode cX12_digest 169 = .ok (.ladd, 1) := by decide +kernel
theorem dX12_digest_170 : decode cX12_digest 170 = .ok (.lstore_n 2, 1) := by decide +kernel
theorem dX12_digest_171 : decode cX12_digest 171 = .ok (.iinc 4 1, 3) := by decide +kernel
theorem dX12_digest_174 : decode cX12_digest 174 = .ok (.goto (-39), 3) := by decide +kernel
theorem dX12_digest_177 : decode cX12_digest 177 = .ok (.iconst 0, 1) := by decide +kernel
theorem dX12_digest_178 : decode cX12_digest 178 = .ok (.istore 4, 2) := by decide +kernel
theorem dX12_digest_180 : decode cX12_digest 180 = .ok (.iload 4, 2) := by decide +kernel
theorem dX12_digest_182 : decode cX12_digest 182 = .ok (.aload_n 0, 1) := by decide +kernel
theorem dX12_digest_183 : decode cX12_digest 183 = .ok (.getfield 61, 3) := by decide +kernel
theorem dX12_digest_186 : decode cX12_digest 186 = .ok (.if_icmp .ge 23, 3) := by decide +kernel
theorem dX12_digest_189 : decode cX12_digest 189 = .ok (.lload_n 2, 1) := by decide +kernel
theorem dX12_digest_190 : decode cX12_digest 190 = .ok (.ldc2_w 425, 3) := by decide +kernel
theorem dX12_digest_193 : decode cX12_digest 193 = .ok (.lmul, 1) := by decide +kernel
theorem dX12_digest_194 : decode cX12_digest 194 = .ok (.aload_n 0, 1) := by decide +kernel
theorem dX12_digest_195 : decode cX12_digest 195 = .ok (.iload 4, 2) := by decide +kernel
theorem dX12_digest_197 : decode cX12_digest 197 = .ok (.invokevirtual 384, 3) := by decide +kernel
theorem dX12_digest_200 : decode cX12_digest 200 = .ok (.i2l, 1) := by decide +kernel
theorem dX12_digest_201 : decode cX12_digest 201 = .ok (.ladd, 1) := by decide +kernel
theorem dX12_digest_202 : decode cX12_digest 202 = .ok (.lstore_n 2, 1) := by decide +kernel
theorem dX12_digest_203 : decode cX12_digest 203 = .ok (.iinc 4 1, 3) := by decide +kernel
theorem dX12_digest_206 : decode cX12_digest 206 = .ok (.goto (-26), 3) := by decide +kernel
theorem dX12_digest_209 : decode cX12_digest 209 = .ok (.iconst 0, 1) := by decide +kernel
theorem dX12_digest_210 : decode cX12_digest 210 = .ok (.istore 4, 2) := by decide +kernel
theorem dX12_digest_212 : decode cX12_digest 212 = .ok (.iload 4, 2) := by decide +kernel
theorem dX12_digest_214 : decode cX12_digest 214 = .ok (.aload_n 0, 1) := by decide +kernel
theorem dX12_digest_215 : decode cX12_digest 215 = .ok (.getfield 20, 3) := by decide +kernel
theorem dX12_digest_218 : decode cX12_digest 218 = .ok (.getfield 68, 3) := by decide +kernel
theorem dX12_digest_221 : decode cX12_digest 221 = .ok (.if_icmp .ge 59, 3) := by decide +kernel
theorem dX12_digest_224 : decode cX12_digest 224 = .ok (.lload_n 2, 1) := by decide +kernel
theorem dX12_digest_225 : decode cX12_digest 225 = .ok (.ldc2_w 425, 3) := by decide +kernel
theorem dX12_digest_228 : decode cX12_digest 228 = .ok (.lmul, 1) := by decide +kernel
theorem dX12_digest_229 : decode cX12_digest 229 = .ok (.aload_n 0, 1) := by decide +kernel
theorem dX12_digest_230 : decode cX12_digest 230 = .ok (.iload 4, 2) := by decide +kernel
theorem dX12_digest_232 : decode cX12_digest 232 = .ok (.invokevirtual 148, 3) := by decide +kernel
theorem dX12_digest_235 : decode cX12_digest 235 = .ok (.i2l, 1) := by decide +kernel
theorem dX12_digest_236 : decode cX12_digest 236 = .ok (.ladd, 1) := by decide +kernel
theorem dX12_digest_237 : decode cX12_digest 237 = .ok (.ldc2_w 425, 3) := by decide +kernel
theorem dX12_digest_240 : decode cX12_digest 240 = .ok (.lmul, 1) := by decide +kernel
theorem dX12_digest_241 : decode cX12_digest 241 = .ok (.aload_n 0, 1) := by decide +kernel
theorem dX12_digest_242 : decode cX12_digest 242 = .ok (.iload 4, 2) := by decide +kernel
theorem dX12_digest_244 : decode cX12_digest 244 = .ok (.invokevirtual 198, 3) := by decide +kernel
theorem dX12_digest_247 : decode cX12_digest 247 = .ok (.i2l, 1) := by decide +kernel
theorem dX12_digest_248 : decode cX12_digest 248 = .ok (.ladd, 1) := by decide +kernel
theorem dX12_digest_249 : decode cX12_digest 249 = .ok (.ldc2_w 425, 3) := by decide +kernel
theorem dX12_digest_252 : decode cX12_digest 252 = .ok (.lmul, 1) := by decide +kernel
theorem dX12_digest_253 : decode cX12_digest 253 = .ok (.aload_n 0, 1) := by decide +kernel
theorem dX12_digest_254 : decode cX12_digest 254 = .ok (.iload 4, 2) := by decide +kernel
theorem dX12_digest_256 : decode cX12_digest 256 = .ok (.invokevirtual 402, 3) := by decide +kernel
theorem dX12_digest_259 : decode cX12_digest 259 = .ok (.i2l, 1) := by decide +kernel
theorem dX12_digest_260 : decode cX12_digest 260 = .ok (.ladd, 1) := by decide +kernel
theorem dX12_digest_261 : decode cX12_digest 261 = .ok (.ldc2_w 425, 3) := by decide +kernel
theorem dX12_digest_264 : decode cX12_digest 264 = .ok (.lmul, 1) := by decide +kernel
theorem dX12_digest_265 : decode cX12_digest 265 = .ok (.aload_n 0, 1) := by decide +kernel
theorem dX12_digest_266 : decode cX12_digest 266 = .ok (.iload 4, 2) := by decide +kernel
theorem dX12_digest_268 : decode cX12_digest 268 = .ok (.invokevirtual 405, 3) := by decide +kernel
theorem dX12_digest_271 : decode cX12_digest 271 = .ok (.i2l, 1) := by decide +kernel
theorem dX12_digest_272 : decode cX12_digest 272 = .ok (.ladd, 1) := by decide +kernel
theorem dX12_digest_273 : decode cX12_digest 273 = .ok (.lstore_n 2, 1) := by decide +kernel
theorem dX12_digest_274 : decode cX12_digest 274 = .ok (.iinc 4 1, 3) := by decide +kernel
theorem dX12_digest_277 : decode cX12_digest 277 = .ok (.goto (-65), 3) := by decide +kernel
theorem dX12_digest_280 : decode cX12_digest 280 = .ok (.lload_n 2, 1) := by decide +kernel
theorem dX12_digest_281 : decode cX12_digest 281 = .ok (.lreturn, 1) := by decide +kernel
