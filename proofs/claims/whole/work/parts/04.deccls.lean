theorem dX1_init_0 : decode cX1_init 0 = .ok (.aload_n 0, 1) := by decide +kernel
theorem dX1_init_1 : decode cX1_init 1 = .ok (.invokespecial 3, 3) := by decide +kernel
theorem dX1_init_4 : decode cX1_init 4 = .ok (.aload_n 0, 1) := by decide +kernel
theorem dX1_init_5 : decode cX1_init 5 = .ok (.new 9, 3) := by decide +kernel
theorem dX1_init_8 : decode cX1_init 8 = .ok (.dup, 1) := by decide +kernel
theorem dX1_init_9 : decode cX1_init 9 = .ok (.invokespecial 11, 3) := by decide +kernel
theorem dX1_init_12 : decode cX1_init 12 = .ok (.putfield 12, 3) := by decide +kernel
theorem dX1_init_15 : decode cX1_init 15 = .ok (.aload_n 0, 1) := by decide +kernel
theorem dX1_init_16 : decode cX1_init 16 = .ok (.new 18, 3) := by decide +kernel
theorem dX1_init_19 : decode cX1_init 19 = .ok (.dup, 1) := by decide +kernel
theorem dX1_init_20 : decode cX1_init 20 = .ok (.invokespecial 20, 3) := by decide +kernel
theorem dX1_init_23 : decode cX1_init 23 = .ok (.putfield 21, 3) := by decide +kernel
theorem dX1_init_26 : decode cX1_init 26 = .ok (.return_, 1) := by decide +kernel
theorem dX1_exchange_0 : decode cX1_exchange 0 = .ok (.aload_n 0, 1) := by decide +kernel
theorem dX1_exchange_1 : decode cX1_exchange 1 = .ok (.getfield 21, 3) := by decide +kernel
theorem dX1_exchange_4 : decode cX1_exchange 4 = .ok (.astore_n 2, 1) := by decide +kernel
theorem dX1_exchange_5 : decode cX1_exchange 5 = .ok (.aload_n 0, 1) := by decide +kernel
theorem dX1_exchange_6 : decode cX1_exchange 6 = .ok (.aload_n 1, 1) := by decide +kernel
theorem dX1_exchange_7 : decode cX1_exchange 7 = .ok (.putfield 21, 3) := by decide +kernel
theorem dX1_exchange_10 : decode cX1_exchange 10 = .ok (.aload_n 2, 1) := by decide +kernel
theorem dX1_exchange_11 : decode cX1_exchange 11 = .ok (.areturn, 1) := by decide +kernel
theorem dX1_readPlan_0 : decode cX1_readPlan 0 = .ok (.aload_n 0, 1) := by decide +kernel
theorem dX1_readPlan_1 : decode cX1_readPlan 1 = .ok (.getfield 12, 3) := by decide +kernel
theorem dX1_readPlan_4 : decode cX1_readPlan 4 = .ok (.invokevirtual 25, 3) := by decide +kernel
theorem dX1_readPlan_7 : decode cX1_readPlan 7 = .ok (.aload_n 0, 1) := by decide +kernel
theorem dX1_readPlan_8 : decode cX1_readPlan 8 = .ok (.getfield 21, 3) := by decide +kernel
theorem dX1_readPlan_11 : decode cX1_readPlan 11 = .ok (.invokevirtual 28, 3) := by decide +kernel
theorem dX1_readPlan_14 : decode cX1_readPlan 14 = .ok (.aload_n 0, 1) := by decide +kernel
theorem dX1_readPlan_15 : decode cX1_readPlan 15 = .ok (.iconst 0, 1) := by decide +kernel
theorem dX1_readPlan_16 : decode cX1_readPlan 16 = .ok (.putfield 31, 3) := by decide +kernel
theorem dX1_readPlan_19 : decode cX1_readPlan 19 = .ok (.aload_n 0, 1) := by decide +kernel
theorem dX1_readPlan_20 : decode cX1_readPlan 20 = .ok (.iconst 0, 1) := by decide +kernel
theorem dX1_readPlan_21 : decode cX1_readPlan 21 = .ok (.putfield 35, 3) := by decide +kernel
theorem dX1_readPlan_24 : decode cX1_readPlan 24 = .ok (.aload_n 0, 1) := by decide +kernel
theorem dX1_readPlan_25 : decode cX1_readPlan 25 = .ok (.iconst (-1), 1) := by decide +kernel
theorem dX1_readPlan_26 : decode cX1_readPlan 26 = .ok (.putfield 38, 3) := by decide +kernel
theorem dX1_readPlan_29 : decode cX1_readPlan 29 = .ok (.iconst 0, 1) := by decide +kernel
theorem dX1_readPlan_30 : decode cX1_readPlan 30 = .ok (.istore_n 1, 1) := by decide +kernel
theorem dX1_readPlan_31 : decode cX1_readPlan 31 = .ok (.iload_n 1, 1) := by decide +kernel
theorem dX1_readPlan_32 : decode cX1_readPlan 32 = .ok (.sipush 400, 3) := by decide +kernel
theorem dX1_readPlan_35 : decode cX1_readPlan 35 = .ok (.if_icmp .ge 80, 3) := by decide +kernel
theorem dX1_readPlan_38 : decode cX1_readPlan 38 = .ok (.aload_n 0, 1) := by decide +kernel
theorem dX1_readPlan_39 : decode cX1_readPlan 39 = .ok (.getfield 12, 3) := by decide +kernel
theorem dX1_readPlan_42 : decode cX1_readPlan 42 = .ok (.getfield 41, 3) := by decide +kernel
theorem dX1_readPlan_45 : decode cX1_readPlan 45 = .ok (.getstatic 45, 3) := by decide +kernel
theorem dX1_readPlan_48 : decode cX1_readPlan 48 = .ok (.if_acmp .eq 67, 3) := by decide +kernel
theorem dX1_readPlan_51 : decode cX1_readPlan 51 = .ok (.aload_n 0, 1) := by decide +kernel
theorem dX1_readPlan_52 : decode cX1_readPlan 52 = .ok (.getfield 12, 3) := by decide +kernel
theorem dX1_readPlan_55 : decode cX1_readPlan 55 = .ok (.getfield 41, 3) := by decide +kernel
theorem dX1_readPlan_58 : decode cX1_readPlan 58 = .ok (.getstatic 50, 3) := by decide +kernel
theorem dX1_readPlan_61 : decode cX1_readPlan 61 = .ok (.if_acmp .ne 10, 3) := by decide +kernel
theorem dX1_readPlan_64 : decode cX1_readPlan 64 = .ok (.aload_n 0, 1) := by decide +kernel
theorem dX1_readPlan_65 : decode cX1_readPlan 65 = .ok (.invokevirtual 53, 3) := by decide +kernel
theorem dX1_readPlan_68 : decode cX1_readPlan 68 = .ok (.goto 7, 3) := by decide +kernel
theorem dX1_readPlan_71 : decode cX1_readPlan 71 = .ok (.aload_n 0, 1) := by decide +kernel
theorem dX1_readPlan_72 : decode cX1_readPlan 72 = .ok (.invokevirtual 57, 3) := by decide +kernel
theorem dX1_readPlan_75 : decode cX1_readPlan 75 = .ok (.istore_n 2, 1) := by decide +kernel
theorem dX1_readPlan_76 : decode cX1_readPlan 76 = .ok (.iload_n 2, 1) := by decide +kernel
theorem dX1_readPlan_77 : decode cX1_readPlan 77 = .ok (.ifCond .eq 13, 3) := by decide +kernel
theorem dX1_readPlan_80 : decode cX1_readPlan 80 = .ok (.aload_n 0, 1) := by decide +kernel
theorem dX1_readPlan_81 : decode cX1_readPlan 81 = .ok (.getstatic 60, 3) := by decide +kernel
theorem dX1_readPlan_84 : decode cX1_readPlan 84 = .ok (.invokevirtual 63, 3) := by decide +kernel
theorem dX1_readPlan_87 : decode cX1_readPlan 87 = .ok (.ifCond .ne 22, 3) := by decide +kernel
theorem dX1_readPlan_90 : decode cX1_readPlan 90 = .ok (.aload_n 0, 1) := by decide +kernel
theorem dX1_readPlan_91 : decode cX1_readPlan 91 = .ok (.iconst 1, 1) := by decide +kernel
theorem dX1_readPlan_92 : decode cX1_readPlan 92 = .ok (.putfield 35, 3) := by decide +kernel
theorem dX1_readPlan_95 : decode cX1_readPlan 95 = .ok (.aload_n 0, 1) := by decide +kernel
theorem dX1_readPlan_96 : decode cX1_readPlan 96 = .ok (.aload_n 0, 1) := by decide +kernel
theorem dX1_readPlan_97 : decode cX1_readPlan 97 = .ok (.getfield 12, 3) := by decide +kernel
theorem dX1_readPlan_100 : decode cX1_readPlan 100 = .ok (.getfield 67, 3) := by decide +kernel
theorem dX1_readPlan_103 : decode cX1_readPlan 103 = .ok (.putfield 38, 3) := by decide +kernel
theorem dX1_readPlan_106 : decode cX1_readPlan 106 = .ok (.goto 9, 3) := by decide +kernel
theorem dX1_readPlan_109 : decode cX1_readPlan 109 = .ok (.iinc 1 1, 3) := by decide +kernel
theorem dX1_readPlan_112 : decode cX1_readPlan 112 = .ok (.goto (-81), 3) := by decide +kernel
theorem dX1_readPlan_115 : decode cX1_readPlan 115 = .ok (.aload_n 0, 1) := by decide +kernel
theorem dX1_readPlan_116 : decode cX1_readPlan 116 = .ok (.getfield 35, 3) := by decide +kernel
theorem dX1_readPlan_119 : decode cX1_readPlan 119 = .ok (.ireturn, 1) := by decide +kernel
theorem dX1_note_0 : decode cX1_note 0 = .ok (.aload_n 0, 1) := by decide +kernel
theorem dX1_note_1 : decode cX1_note 1 = .ok (.getfield 35, 3) := by decide +kernel
theorem dX1_note_4 : decode cX1_note 4 = .ok (.ifCond .ne 19, 3) := by decide +kernel
theorem dX1_note_7 : decode cX1_note 7 = .ok (.aload_n 0, 1) := by decide +kernel
theorem dX1_note_8 : decode cX1_note 8 = .ok (.iload_n 1, 1) := by decide +kernel
theorem dX1_note_9 : decode cX1_note 9 = .ok (.putfield 35, 3) := by decide +kernel
theorem dX1_note_12 : decode cX1_note 12 = .ok (.aload_n 0, 1) := by decide +kernel
theorem dX1_note_13 : decode cX1_note 13 = .ok (.aload_n 0, 1) := by decide +kernel
theorem dX1_note_14 : decode cX1_note 14 = .ok (.getfield 12, 3) := by decide +kernel
theorem dX1_note_17 : decode cX1_note 17 = .ok (.getfield 67, 3) := by decide +kernel
theorem dX1_note_20 : decode cX1_note 20 = .ok (.putfield 38, 3) := by decide +kernel
theorem dX1_note_23 : decode cX1_note 23 = .ok (.return_, 1) := by decide +kernel
theorem dX1_take_0 : decode cX1_take 0 = .ok (.aload_n 0, 1) := by decide +kernel
theorem dX1_take_1 : decode cX1_take 1 = .ok (.getfield 12, 3) := by decide +kernel
theorem dX1_take_4 : decode cX1_take 4 = .ok (.getfield 41, 3) := by decide +kernel
theorem dX1_take_7 : decode cX1_take 7 = .ok (.aload_n 1, 1) := by decide +kernel
theorem dX1_take_8 : decode cX1_take 8 = .ok (.if_acmp .eq 5, 3) := by decide +kernel
theorem dX1_take_11 : decode cX1_take 11 = .ok (.iconst 0, 1) := by decide +kernel
theorem dX1_take_12 : decode cX1_take 12 = .ok (.ireturn, 1) := by decide +kernel
theorem dX1_take_13 : decode cX1_take 13 = .ok (.aload_n 0, 1) := by decide +kernel
theorem dX1_take_14 : decode cX1_take 14 = .ok (.getfield 12, 3) := by decide +kernel
theorem dX1_take_17 : decode cX1_take 17 = .ok (.invokevirtual 70, 3) := by decide +kernel
theorem dX1_take_20 : decode cX1_take 20 = .ok (.iconst 1, 1) := by decide +kernel
theorem dX1_take_21 : decode cX1_take 21 = .ok (.ireturn, 1) := by decide +kernel
theorem dX1_takeDeeper_0 : decode cX1_takeDeeper 0 = .ok (.aload_n 0, 1) := by decide +kernel
theorem dX1_takeDeeper_1 : decode cX1_takeDeeper 1 = .ok (.getfield 31, 3) := by decide +kernel
theorem dX1_takeDeeper_4 : decode cX1_takeDeeper 4 = .ok (.bipush 8, 2) := by decide +kernel
theorem dX1_takeDeeper_6 : decode cX1_takeDeeper 6 = .ok (.if_icmp .ge 11, 3) := by decide +kernel
theorem dX1_takeDeeper_9 : decode cX1_takeDeeper 9 = .ok (.aload_n 0, 1) := by decide +kernel
theorem dX1_takeDeeper_10 : decode cX1_takeDeeper 10 = .ok (.aload_n 1, 1) := by decide +kernel
theorem dX1_takeDeeper_11 : decode cX1_takeDeeper 11 = .ok (.invokevirtual 63, 3) := by decide +kernel
theorem dX1_takeDeeper_14 : decode cX1_takeDeeper 14 = .ok (.ifCond .ne 5, 3) := by decide +kernel
theorem dX1_takeDeeper_17 : decode cX1_takeDeeper 17 = .ok (.iconst 0, 1) := by decide +kernel
theorem dX1_takeDeeper_18 : decode cX1_takeDeeper 18 = .ok (.ireturn, 1) := by decide +kernel
theorem dX1_takeDeeper_19 : decode cX1_takeDeeper 19 = .ok (.aload_n 0, 1) := by decide +kernel
theorem dX1_takeDeeper_20 : decode cX1_takeDeeper 20 = .ok (.dup, 1) := by decide +kernel
theorem dX1_takeDeeper_21 : decode cX1_takeDeeper 21 = .ok (.getfield 31, 3) := by decide +kernel
theorem dX1_takeDeeper_24 : decode cX1_takeDeeper 24 = .ok (.iconst 1, 1) := by decide +kernel
theorem dX1_takeDeeper_25 : decode cX1_takeDeeper 25 = .ok (.iadd, 1) := by decide +kernel
theorem dX1_takeDeeper_26 : decode cX1_takeDeeper 26 = .ok (.putfield 31, 3) := by decide +kernel
theorem dX1_takeDeeper_29 : decode cX1_takeDeeper 29 = .ok (.iconst 1, 1) := by decide +kernel
theorem dX1_takeDeeper_30 : decode cX1_takeDeeper 30 = .ok (.ireturn, 1) := by decide +kernel
theorem dX1_rise_0 : decode cX1_rise 0 = .ok (.aload_n 0, 1) := by decide +kernel
theorem dX1_rise_1 : decode cX1_rise 1 = .ok (.dup, 1) := by decide +kernel
theorem dX1_rise_2 : decode cX1_rise 2 = .ok (.getfield 31, 3) := by decide +kernel
theorem dX1_rise_5 : decode cX1_rise 5 = .ok (.iconst 1, 1) := by decide +kernel
theorem dX1_rise_6 : decode cX1_rise 6 = .ok (.isub, 1) := by decide +kernel
theorem dX1_rise_7 : decode cX1_rise 7 = .ok (.putfield 31, 3) := by decide +kernel
theorem dX1_rise_10 : decode cX1_rise 10 = .ok (.iconst 1, 1) := by decide +kernel
theorem dX1_rise_11 : decode cX1_rise 11 = .ok (.ireturn, 1) := by decide +kernel
theorem dX1_put_0 : decode cX1_put 0 = .ok (.aload_n 0, 1) := by decide +kernel
theorem dX1_put_1 : decode cX1_put 1 = .ok (.getfield 21, 3) := by decide +kernel
theorem dX1_put_4 : decode cX1_put 4 = .ok (.aload_n 1, 1) := by decide +kernel
theorem dX1_put_5 : decode cX1_put 5 = .ok (.iload_n 2, 1) := by decide +kernel
theorem dX1_put_6 : decode cX1_put 6 = .ok (.invokevirtual 73, 3) := by decide +kernel
theorem dX1_put_9 : decode cX1_put 9 = .ok (.iconst 1, 1) := by decide +kernel
theorem dX1_put_10 : decode cX1_put 10 = .ok (.ireturn, 1) := by decide +kernel
theorem dX1_readInsult_0 : decode cX1_readInsult 0 = .ok (.aload_n 0, 1) := by decide +kernel
theorem dX1_readInsult_1 : decode cX1_readInsult 1 = .ok (.getfield 12, 3) := by decide +kernel
theorem dX1_readInsult_4 : decode cX1_readInsult 4 = .ok (.invokevirtual 70, 3) := by decide +kernel
theorem dX1_readInsult_7 : decode cX1_readInsult 7 = .ok (.aload_n 0, 1) := by decide +kernel
theorem dX1_readInsult_8 : decode cX1_readInsult 8 = .ok (.getfield 12, 3) := by decide +kernel
theorem dX1_readInsult_11 : decode cX1_readInsult 11 = .ok (.getfield 41, 3) := by decide +kernel
theorem dX1_readInsult_14 : decode cX1_readInsult 14 = .ok (.getstatic 77, 3) := by decide +kernel
theorem dX1_readInsult_17 : decode cX1_readInsult 17 = .ok (.if_acmp .eq 5, 3) := by decide +kernel
theorem dX1_readInsult_20 : decode cX1_readInsult 20 = .ok (.iconst 0, 1) := by decide +kernel
theorem dX1_readInsult_21 : decode cX1_readInsult 21 = .ok (.ireturn, 1) := by decide +kernel
theorem dX1_readInsult_22 : decode cX1_readInsult 22 = .ok (.aload_n 0, 1) := by decide +kernel
theorem dX1_readInsult_23 : decode cX1_readInsult 23 = .ok (.getfield 21, 3) := by decide +kernel
theorem dX1_readInsult_26 : decode cX1_readInsult 26 = .ok (.aload_n 0, 1) := by decide +kernel
theorem dX1_readInsult_27 : decode cX1_readInsult 27 = .ok (.getfield 12, 3) := by decide +kernel
theorem dX1_readInsult_30 : decode cX1_readInsult 30 = .ok (.invokevirtual 80, 3) := by decide +kernel
theorem dX1_readInsult_33 : decode cX1_readInsult 33 = .ok (.ifCond .lt 11, 3) := by decide +kernel
theorem dX1_readInsult_36 : decode cX1_readInsult 36 = .ok (.aload_n 0, 1) := by decide +kernel
theorem dX1_readInsult_37 : decode cX1_readInsult 37 = .ok (.iconst 2, 1) := by decide +kernel
theorem dX1_readInsult_38 : decode cX1_readInsult 38 = .ok (.invokevirtual 84, 3) := by decide +kernel
theorem dX1_readInsult_41 : decode cX1_readInsult 41 = .ok (.goto 52, 3) := by decide +kernel
theorem dX1_readInsult_44 : decode cX1_readInsult 44 = .ok (.aload_n 0, 1) := by decide +kernel
theorem dX1_readInsult_45 : decode cX1_readInsult 45 = .ok (.getfield 21, 3) := by decide +kernel
theorem dX1_readInsult_48 : decode cX1_readInsult 48 = .ok (.getfield 88, 3) := by decide +kernel
theorem dX1_readInsult_51 : decode cX1_readInsult 51 = .ok (.bipush 8, 2) := by decide +kernel
theorem dX1_readInsult_53 : decode cX1_readInsult 53 = .ok (.if_icmp .lt 11, 3) := by decide +kernel
theorem dX1_readInsult_56 : decode cX1_readInsult 56 = .ok (.aload_n 0, 1) := by decide +kernel
theorem dX1_readInsult_57 : decode cX1_readInsult 57 = .ok (.iconst 4, 1) := by decide +kernel
theorem dX1_readInsult_58 : decode cX1_readInsult 58 = .ok (.invokevirtual 84, 3) := by decide +kernel
theorem dX1_readInsult_61 : decode cX1_readInsult 61 = .ok (.goto 32, 3) := by decide +kernel
theorem dX1_readInsult_64 : decode cX1_readInsult 64 = .ok (.aload_n 0, 1) := by decide +kernel
theorem dX1_readInsult_65 : decode cX1_readInsult 65 = .ok (.getfield 12, 3) := by decide +kernel
theorem dX1_readInsult_68 : decode cX1_readInsult 68 = .ok (.invokevirtual 91, 3) := by decide +kernel
theorem dX1_readInsult_71 : decode cX1_readInsult 71 = .ok (.ifCond .eq 11, 3) := by decide +kernel
theorem dX1_readInsult_74 : decode cX1_readInsult 74 = .ok (.aload_n 0, 1) := by decide +kernel
theorem dX1_readInsult_75 : decode cX1_readInsult 75 = .ok (.iconst 5, 1) := by decide +kernel
theorem dX1_readInsult_76 : decode cX1_readInsult 76 = .ok (.invokevirtual 84, 3) := by decide +kernel
theorem dX1_readInsult_79 : decode cX1_readInsult 79 = .ok (.goto 14, 3) := by decide +kernel
theorem dX1_readInsult_82 : decode cX1_readInsult 82 = .ok (.aload_n 0, 1) := by decide +kernel
theorem dX1_readInsult_83 : decode cX1_readInsult 83 = .ok (.getfield 21, 3) := by decide +kernel
theorem dX1_readInsult_86 : decode cX1_readInsult 86 = .ok (.aload_n 0, 1) := by decide +kernel
theorem dX1_readInsult_87 : decode cX1_readInsult 87 = .ok (.getfield 12, 3) := by decide +kernel
theorem dX1_readInsult_90 : decode cX1_readInsult 90 = .ok (.invokevirtual 94, 3) := by decide +kernel
theorem dX1_readInsult_93 : decode cX1_readInsult 93 = .ok (.aload_n 0, 1) := by decide +kernel
theorem dX1_readInsult_94 : decode cX1_readInsult 94 = .ok (.getfield 12, 3) := by decide +kernel
theorem dX1_readInsult_97 : decode cX1_readInsult 97 = .ok (.invokevirtual 70, 3) := by decide +kernel
theorem dX1_readInsult_100 : decode cX1_readInsult 100 = .ok (.iconst 1, 1) := by decide +kernel
theorem dX1_readInsult_101 : decode cX1_readInsult 101 = .ok (.ireturn, 1) := by decide +kernel
theorem dX1_readOrder_0 : decode cX1_readOrder 0 = .ok (.aload_n 0, 1) := by decide +kernel
theorem dX1_readOrder_1 : decode cX1_readOrder 1 = .ok (.getfield 12, 3) := by decide +kernel
theorem dX1_readOrder_4 : decode cX1_readOrder 4 = .ok (.getfield 41, 3) := by decide +kernel
theorem dX1_readOrder_7 : decode cX1_readOrder 7 = .ok (.invokestatic 98, 3) := by decide +kernel
theorem dX1_readOrder_10 : decode cX1_readOrder 10 = .ok (.ifCond .ne 5, 3) := by decide +kernel
theorem dX1_readOrder_13 : decode cX1_readOrder 13 = .ok (.iconst 0, 1) := by decide +kernel
theorem dX1_readOrder_14 : decode cX1_readOrder 14 = .ok (.ireturn, 1) := by decide +kernel
theorem dX1_readOrder_15 : decode cX1_readOrder 15 = .ok (.aload_n 0, 1) := by decide +kernel
theorem dX1_readOrder_16 : decode cX1_readOrder 16 = .ok (.getfield 21, 3) := by decide +kernel
theorem dX1_readOrder_19 : decode cX1_readOrder 19 = .ok (.getfield 101, 3) := by decide +kernel
theorem dX1_readOrder_22 : decode cX1_readOrder 22 = .ok (.bipush 16, 2) := by decide +kernel
theorem dX1_readOrder_24 : decode cX1_readOrder 24 = .ok (.if_icmp .lt 8, 3) := by decide +kernel
theorem dX1_readOrder_27 : decode cX1_readOrder 27 = .ok (.aload_n 0, 1) := by decide +kernel
theorem dX1_readOrder_28 : decode cX1_readOrder 28 = .ok (.iconst 4, 1) := by decide +kernel
theorem dX1_readOrder_29 : decode cX1_readOrder 29 = .ok (.invokevirtual 84, 3) := by decide +kernel
theorem dX1_readOrder_32 : decode cX1_readOrder 32 = .ok (.aload_n 0, 1) := by decide +kernel
theorem dX1_readOrder_33 : decode cX1_readOrder 33 = .ok (.getfield 21, 3) := by decide +kernel
theorem dX1_readOrder_36 : decode cX1_readOrder 36 = .ok (.invokevirtual 104, 3) := by decide +kernel
theorem dX1_readOrder_39 : decode cX1_readOrder 39 = .ok (.astore_n 1, 1) := by decide +kernel
theorem dX1_readOrder_40 : decode cX1_readOrder 40 = .ok (.aload_n 1, 1) := by decide +kernel
theorem dX1_readOrder_41 : decode cX1_readOrder 41 = .ok (.aload_n 0, 1) := by decide +kernel
theorem dX1_readOrder_42 : decode cX1_readOrder 42 = .ok (.getfield 12, 3) := by decide +kernel
theorem dX1_readOrder_45 : decode cX1_readOrder 45 = .ok (.getfield 41, 3) := by decide +kernel
theorem dX1_readOrder_48 : decode cX1_readOrder 48 = .ok (.putfield 108, 3) := by decide +kernel
theorem dX1_readOrder_51 : decode cX1_readOrder 51 = .ok (.aload_n 1, 1) := by decide +kernel
theorem dX1_readOrder_52 : decode cX1_readOrder 52 = .ok (.aload_n 0, 1) := by decide +kernel
theorem dX1_readOrder_53 : decode cX1_readOrder 53 = .ok (.getfield 21, 3) := by decide +kernel
theorem dX1_readOrder_56 : decode cX1_readOrder 56 = .ok (.getfield 113, 3) := by decide +kernel
theorem dX1_readOrder_59 : decode cX1_readOrder 59 = .ok (.putfield 116, 3) := by decide +kernel
theorem dX1_readOrder_62 : decode cX1_readOrder 62 = .ok (.aload_n 0, 1) := by decide +kernel
theorem dX1_readOrder_63 : decode cX1_readOrder 63 = .ok (.getfield 12, 3) := by decide +kernel
theorem dX1_readOrder_66 : decode cX1_readOrder 66 = .ok (.invokevirtual 70, 3) := by decide +kernel
theorem dX1_readOrder_69 : decode cX1_readOrder 69 = .ok (.aload_n 0, 1) := by decide +kernel
theorem dX1_readOrder_70 : decode cX1_readOrder 70 = .ok (.aload_n 1, 1) := by decide +kernel
theorem dX1_readOrder_71 : decode cX1_readOrder 71 = .ok (.invokevirtual 119, 3) := by decide +kernel
theorem dX1_readOrder_74 : decode cX1_readOrder 74 = .ok (.ifCond .ne 5, 3) := by decide +kernel
theorem dX1_readOrder_77 : decode cX1_readOrder 77 = .ok (.iconst 0, 1) := by decide +kernel
theorem dX1_readOrder_78 : decode cX1_readOrder 78 = .ok (.ireturn, 1) := by decide +kernel
theorem dX1_readOrder_79 : decode cX1_readOrder 79 = .ok (.aload_n 1, 1) := by decide +kernel
theorem dX1_readOrder_80 : decode cX1_readOrder 80 = .ok (.aload_n 0, 1) := by decide +kernel
theorem dX1_readOrder_81 : decode cX1_readOrder 81 = .ok (.getfield 21, 3) := by decide +kernel
theorem dX1_readOrder_84 : decode cX1_readOrder 84 = .ok (.getfield 113, 3) := by decide +kernel
theorem dX1_readOrder_87 : decode cX1_readOrder 87 = .ok (.putfield 123, 3) := by decide +kernel
theorem dX1_readOrder_90 : decode cX1_readOrder 90 = .ok (.aload_n 0, 1) := by decide +kernel
theorem dX1_readOrder_91 : decode cX1_readOrder 91 = .ok (.getstatic 126, 3) := by decide +kernel
theorem dX1_readOrder_94 : decode cX1_readOrder 94 = .ok (.invokevirtual 63, 3) := by decide +kernel
theorem dX1_readOrder_97 : decode cX1_readOrder 97 = .ok (.ifCond .eq 12, 3) := by decide +kernel
theorem dX1_readOrder_100 : decode cX1_readOrder 100 = .ok (.aload_n 0, 1) := by decide +kernel
theorem dX1_readOrder_101 : decode cX1_readOrder 101 = .ok (.invokevirtual 129, 3) := by decide +kernel
theorem dX1_readOrder_104 : decode cX1_readOrder 104 = .ok (.ifCond .ne 5, 3) := by decide +kernel
theorem dX1_readOrder_107 : decode cX1_readOrder 107 = .ok (.iconst 0, 1) := by decide +kernel
theorem dX1_readOrder_108 : decode cX1_readOrder 108 = .ok (.ireturn, 1) := by decide +kernel
theorem dX1_readOrder_109 : decode cX1_readOrder 109 = .ok (.aload_n 1, 1) := by decide +kernel
theorem dX1_readOrder_110 : decode cX1_readOrder 110 = .ok (.aload_n 0, 1) := by decide +kernel
theorem dX1_readOrder_111 : decode cX1_readOrder 111 = .ok (.getfield 21, 3) := by decide +kernel
theorem dX1_readOrder_114 : decode cX1_readOrder 114 = .ok (.getfield 113, 3) := by decide +kernel
theorem dX1_readOrder_117 : decode cX1_readOrder 117 = .ok (.putfield 132, 3) := by decide +kernel
theorem dX1_readOrder_120 : decode cX1_readOrder 120 = .ok (.iconst 1, 1) := by decide +kernel
theorem dX1_readOrder_121 : decode cX1_readOrder 121 = .ok (.ireturn, 1) := by decide +kernel
theorem dX1_isAction_0 : decode cX1_isAction 0 = .ok (.aload_n 0, 1) := by decide +kernel
theorem dX1_isAction_1 : decode cX1_isAction 1 = .ok (.getstatic 135, 3) := by decide +kernel
theorem dX1_isAction_4 : decode cX1_isAction 4 = .ok (.if_acmp .eq 24, 3) := by decide +kernel
theorem dX1_isAction_7 : decode cX1_isAction 7 = .ok (.aload_n 0, 1) := by decide +kernel
theorem dX1_isAction_8 : decode cX1_isAction 8 = .ok (.getstatic 138, 3) := by decide +kernel
theorem dX1_isAction_11 : decode cX1_isAction 11 = .ok (.if_acmp .eq 17, 3) := by decide +kernel
theorem dX1_isAction_14 : decode cX1_isAction 14 = .ok (.aload_n 0, 1) := by decide +kernel
theorem dX1_isAction_15 : decode cX1_isAction 15 = .ok (.getstatic 141, 3) := by decide +kernel
theorem dX1_isAction_18 : decode cX1_isAction 18 = .ok (.if_acmp .eq 10, 3) := by decide +kernel
theorem dX1_isAction_21 : decode cX1_isAction 21 = .ok (.aload_n 0, 1) := by decide +kernel
theorem dX1_isAction_22 : decode cX1_isAction 22 = .ok (.getstatic 144, 3) := by decide +kernel
theorem dX1_isAction_25 : decode cX1_isAction 25 = .ok (.if_acmp .ne 7, 3) := by decide +kernel
theorem dX1_isAction_28 : decode cX1_isAction 28 = .ok (.iconst 1, 1) := by decide +kernel
theorem dX1_isAction_29 : decode cX1_isAction 29 = .ok (.goto 4, 3) := by decide +kernel
theorem dX1_isAction_32 : decode cX1_isAction 32 = .ok (.iconst 0, 1) := by decide +kernel
theorem dX1_isAction_33 : decode cX1_isAction 33 = .ok (.ireturn, 1) := by decide +kernel
theorem dX1_readWhat_0 : decode cX1_readWhat 0 = .ok (.aload_n 1, 1) := by decide +kernel
theorem dX1_readWhat_1 : decode cX1_readWhat 1 = .ok (.getfield 108, 3) := by decide +kernel
theorem dX1_readWhat_4 : decode cX1_readWhat 4 = .ok (.getstatic 135, 3) := by decide +kernel
theorem dX1_readWhat_7 : decode cX1_readWhat 7 = .ok (.if_acmp .ne 12, 3) := by decide +kernel
theorem dX1_readWhat_10 : decode cX1_readWhat 10 = .ok (.aload_n 0, 1) := by decide +kernel
theorem dX1_readWhat_11 : decode cX1_readWhat 11 = .ok (.aload_n 1, 1) := by decide +kernel
theorem dX1_readWhat_12 : decode cX1_readWhat 12 = .ok (.getfield 147, 3) := by decide +kernel
theorem dX1_readWhat_15 : decode cX1_readWhat 15 = .ok (.invokevirtual 151, 3) := by decide +kernel
theorem dX1_readWhat_18 : decode cX1_readWhat 18 = .ok (.ireturn, 1) := by decide +kernel
theorem dX1_readWhat_19 : decode cX1_readWhat 19 = .ok (.aload_n 1, 1) := by decide +kernel
theorem dX1_readWhat_20 : decode cX1_readWhat 20 = .ok (.getfield 108, 3) := by decide +kernel
theorem dX1_readWhat_23 : decode cX1_readWhat 23 = .ok (.getstatic 138, 3) := by decide +kernel
theorem dX1_readWhat_26 : decode cX1_readWhat 26 = .ok (.if_acmp .ne 18, 3) := by decide +kernel
theorem dX1_readWhat_29 : decode cX1_readWhat 29 = .ok (.aload_n 0, 1) := by decide +kernel
theorem dX1_readWhat_30 : decode cX1_readWhat 30 = .ok (.invokevirtual 155, 3) := by decide +kernel
theorem dX1_readWhat_33 : decode cX1_readWhat 33 = .ok (.istore_n 2, 1) := by decide +kernel
theorem dX1_readWhat_34 : decode cX1_readWhat 34 = .ok (.aload_n 1, 1) := by decide +kernel
theorem dX1_readWhat_35 : decode cX1_readWhat 35 = .ok (.aload_n 0, 1) := by decide +kernel
theorem dX1_readWhat_36 : decode cX1_readWhat 36 = .ok (.getfield 158, 3) := by decide +kernel
theorem dX1_readWhat_39 : decode cX1_readWhat 39 = .ok (.putfield 161, 3) := by decide +kernel
theorem dX1_readWhat_42 : decode cX1_readWhat 42 = .ok (.iload_n 2, 1) := by decide +kernel
theorem dX1_readWhat_43 : decode cX1_readWhat 43 = .ok (.ireturn, 1) := by decide +kernel
theorem dX1_readWhat_44 : decode cX1_readWhat 44 = .ok (.aload_n 0, 1) := by decide +kernel
theorem dX1_readWhat_45 : decode cX1_readWhat 45 = .ok (.invokevirtual 164, 3) := by decide +kernel
theorem dX1_readWhat_48 : decode cX1_readWhat 48 = .ok (.ireturn, 1) := by decide +kernel
theorem dX1_readHeard_0 : decode cX1_readHeard 0 = .ok (.aload_n 0, 1) := by decide +kernel
theorem dX1_readHeard_1 : decode cX1_readHeard 1 = .ok (.getfield 12, 3) := by decide +kernel
theorem dX1_readHeard_4 : decode cX1_readHeard 4 = .ok (.getfield 41, 3) := by decide +kernel
theorem dX1_readHeard_7 : decode cX1_readHeard 7 = .ok (.getstatic 77, 3) := by decide +kernel
theorem dX1_readHeard_10 : decode cX1_readHeard 10 = .ok (.if_acmp .eq 5, 3) := by decide +kernel
theorem dX1_readHeard_13 : decode cX1_readHeard 13 = .ok (.iconst 0, 1) := by decide +kernel
theorem dX1_readHeard_14 : decode cX1_readHeard 14 = .ok (.ireturn, 1) := by decide +kernel
theorem dX1_readHeard_15 : decode cX1_readHeard 15 = .ok (.aload_n 0, 1) := by decide +kernel
theorem dX1_readHeard_16 : decode cX1_readHeard 16 = .ok (.getfield 12, 3) := by decide +kernel
theorem dX1_readHeard_19 : decode cX1_readHeard 19 = .ok (.invokevirtual 91, 3) := by decide +kernel
theorem dX1_readHeard_22 : decode cX1_readHeard 22 = .ok (.ifCond .eq 8, 3) := by decide +kernel
theorem dX1_readHeard_25 : decode cX1_readHeard 25 = .ok (.aload_n 0, 1) := by decide +kernel
theorem dX1_readHeard_26 : decode cX1_readHeard 26 = .ok (.iconst 5, 1) := by decide +kernel
theorem dX1_readHeard_27 : decode cX1_readHeard 27 = .ok (.invokevirtual 84, 3) := by decide +kernel
theorem dX1_readHeard_30 : decode cX1_readHeard 30 = .ok (.aload_n 0, 1) := by decide +kernel
theorem dX1_readHeard_31 : decode cX1_readHeard 31 = .ok (.getfield 12, 3) := by decide +kernel
theorem dX1_readHeard_34 : decode cX1_readHeard 34 = .ok (.aload_n 1, 1) := by decide +kernel
theorem dX1_readHeard_35 : decode cX1_readHeard 35 = .ok (.invokevirtual 167, 3) := by decide +kernel
theorem dX1_readHeard_38 : decode cX1_readHeard 38 = .ok (.aload_n 0, 1) := by decide +kernel
theorem dX1_readHeard_39 : decode cX1_readHeard 39 = .ok (.getfield 12, 3) := by decide +kernel
theorem dX1_readHeard_42 : decode cX1_readHeard 42 = .ok (.invokevirtual 70, 3) := by decide +kernel
theorem dX1_readHeard_45 : decode cX1_readHeard 45 = .ok (.iconst 1, 1) := by decide +kernel
theorem dX1_readHeard_46 : decode cX1_readHeard 46 = .ok (.ireturn, 1) := by decide +kernel
theorem dX1_readInsultName_0 : decode cX1_readInsultName 0 = .ok (.aload_n 0, 1) := by decide +kernel
theorem dX1_readInsultName_1 : decode cX1_readInsultName 1 = .ok (.getfield 12, 3) := by decide +kernel
theorem dX1_readInsultName_4 : decode cX1_readInsultName 4 = .ok (.getfield 41, 3) := by decide +kernel
theorem dX1_readInsultName_7 : decode cX1_readInsultName 7 = .ok (.getstatic 77, 3) := by decide +kernel
theorem dX1_readInsultName_10 : decode cX1_readInsultName 10 = .ok (.if_acmp .eq 5, 3) := by decide +kernel
theorem dX1_readInsultName_13 : decode cX1_readInsultName 13 = .ok (.iconst 0, 1) := by decide +kernel
theorem dX1_readInsultName_14 : decode cX1_readInsultName 14 = .ok (.ireturn, 1) := by decide +kernel
theorem dX1_readInsultName_15 : decode cX1_readInsultName 15 = .ok (.aload_n 0, 1) := by decide +kernel
theorem dX1_readInsultName_16 : decode cX1_readInsultName 16 = .ok (.aload_n 0, 1) := by decide +kernel
theorem dX1_readInsultName_17 : decode cX1_readInsultName 17 = .ok (.getfield 21, 3) := by decide +kernel
theorem dX1_readInsultName_20 : decode cX1_readInsultName 20 = .ok (.aload_n 0, 1) := by decide +kernel
theorem dX1_readInsultName_21 : decode cX1_readInsultName 21 = .ok (.getfield 12, 3) := by decide +kernel
theorem dX1_readInsultName_24 : decode cX1_readInsultName 24 = .ok (.invokevirtual 80, 3) := by decide +kernel
theorem dX1_readInsultName_27 : decode cX1_readInsultName 27 = .ok (.putfield 158, 3) := by decide +kernel
theorem dX1_readInsultName_30 : decode cX1_readInsultName 30 = .ok (.aload_n 0, 1) := by decide +kernel
theorem dX1_readInsultName_31 : decode cX1_readInsultName 31 = .ok (.getfield 158, 3) := by decide +kernel
theorem dX1_readInsultName_34 : decode cX1_readInsultName 34 = .ok (.ifCond .ge 8, 3) := by decide +kernel
theorem dX1_readInsultName_37 : decode cX1_readInsultName 37 = .ok (.aload_n 0, 1) := by decide +kernel
theorem dX1_readInsultName_38 : decode cX1_readInsultName 38 = .ok (.iconst 3, 1) := by decide +kernel
theorem dX1_readInsultName_39 : decode cX1_readInsultName 39 = .ok (.invokevirtual 84, 3) := by decide +kernel
theorem dX1_readInsultName_42 : decode cX1_readInsultName 42 = .ok (.aload_n 0, 1) := by decide +kernel
theorem dX1_readInsultName_43 : decode cX1_readInsultName 43 = .ok (.getfield 12, 3) := by decide +kernel
theorem dX1_readInsultName_46 : decode cX1_readInsultName 46 = .ok (.invokevirtual 70, 3) := by decide +kernel
theorem dX1_readInsultName_49 : decode cX1_readInsultName 49 = .ok (.iconst 1, 1) := by decide +kernel
theorem dX1_readInsultName_50 : decode cX1_readInsultName 50 = .ok (.ireturn, 1) := by decide +kernel
theorem dX1_readTest_0 : decode cX1_readTest 0 = .ok (.aload_n 0, 1) := by decide +kernel
theorem dX1_readTest_1 : decode cX1_readTest 1 = .ok (.invokevirtual 171, 3) := by decide +kernel
theorem dX1_readTest_4 : decode cX1_readTest 4 = .ok (.istore_n 1, 1) := by decide +kernel
theorem dX1_readTest_5 : decode cX1_readTest 5 = .ok (.iconst 0, 1) := by decide +kernel
theorem dX1_readTest_6 : decode cX1_readTest 6 = .ok (.istore_n 2, 1) := by decide +kernel
theorem dX1_readTest_7 : decode cX1_readTest 7 = .ok (.iload_n 2, 1) := by decide +kernel
theorem dX1_readTest_8 : decode cX1_readTest 8 = .ok (.sipush 400, 3) := by decide +kernel
theorem dX1_readTest_11 : decode cX1_readTest 11 = .ok (.if_icmp .ge 47, 3) := by decide +kernel
theorem dX1_readTest_14 : decode cX1_readTest 14 = .ok (.iload_n 1, 1) := by decide +kernel
theorem dX1_readTest_15 : decode cX1_readTest 15 = .ok (.ifCond .eq 43, 3) := by decide +kernel
theorem dX1_readTest_18 : decode cX1_readTest 18 = .ok (.aload_n 0, 1) := by decide +kernel
theorem dX1_readTest_19 : decode cX1_readTest 19 = .ok (.getstatic 174, 3) := by decide +kernel
theorem dX1_readTest_22 : decode cX1_readTest 22 = .ok (.invokevirtual 63, 3) := by decide +kernel
theorem dX1_readTest_25 : decode cX1_readTest 25 = .ok (.ifCond .eq 33, 3) := by decide +kernel
theorem dX1_readTest_28 : decode cX1_readTest 28 = .ok (.aload_n 0, 1) := by decide +kernel
theorem dX1_readTest_29 : decode cX1_readTest 29 = .ok (.invokevirtual 171, 3) := by decide +kernel
theorem dX1_readTest_32 : decode cX1_readTest 32 = .ok (.ifCond .eq 18, 3) := by decide +kernel
theorem dX1_readTest_35 : decode cX1_readTest 35 = .ok (.aload_n 0, 1) := by decide +kernel
theorem dX1_readTest_36 : decode cX1_readTest 36 = .ok (.getstatic 174, 3) := by decide +kernel
theorem dX1_readTest_39 : decode cX1_readTest 39 = .ok (.iconst 0, 1) := by decide +kernel
theorem dX1_readTest_40 : decode cX1_readTest 40 = .ok (.invokevirtual 177, 3) := by decide +kernel
theorem dX1_readTest_43 : decode cX1_readTest 43 = .ok (.ifCond .eq 7, 3) := by decide +kernel
theorem dX1_readTest_46 : decode cX1_readTest 46 = .ok (.iconst 1, 1) := by decide +kernel
theorem dX1_readTest_47 : decode cX1_readTest 47 = .ok (.goto 4, 3) := by decide +kernel
theorem dX1_readTest_50 : decode cX1_readTest 50 = .ok (.iconst 0, 1) := by decide +kernel
theorem dX1_readTest_51 : decode cX1_readTest 51 = .ok (.istore_n 1, 1) := by decide +kernel
theorem dX1_readTest_52 : decode cX1_readTest 52 = .ok (.iinc 2 1, 3) := by decide +kernel
theorem dX1_readTest_55 : decode cX1_readTest 55 = .ok (.goto (-48), 3) := by decide +kernel
theorem dX1_readTest_58 : decode cX1_readTest 58 = .ok (.iload_n 1, 1) := by decide +kernel
theorem dX1_readTest_59 : decode cX1_readTest 59 = .ok (.ireturn, 1) := by decide +kernel
theorem dX1_readBoth_0 : decode cX1_readBoth 0 = .ok (.aload_n 0, 1) := by decide +kernel
theorem dX1_readBoth_1 : decode cX1_readBoth 1 = .ok (.invokevirtual 181, 3) := by decide +kernel
theorem dX1_readBoth_4 : decode cX1_readBoth 4 = .ok (.istore_n 1, 1) := by decide +kernel
theorem dX1_readBoth_5 : decode cX1_readBoth 5 = .ok (.iconst 0, 1) := by decide +kernel
theorem dX1_readBoth_6 : decode cX1_readBoth 6 = .ok (.istore_n 2, 1) := by decide +kernel
theorem dX1_readBoth_7 : decode cX1_readBoth 7 = .ok (.iload_n 2, 1) := by decide +kernel
theorem dX1_readBoth_8 : decode cX1_readBoth 8 = .ok (.sipush 400, 3) := by decide +kernel
theorem dX1_readBoth_11 : decode cX1_readBoth 11 = .ok (.if_icmp .ge 47, 3) := by decide +kernel
theorem dX1_readBoth_14 : decode cX1_readBoth 14 = .ok (.iload_n 1, 1) := by decide +kernel
theorem dX1_readBoth_15 : decode cX1_readBoth 15 = .ok (.ifCond .eq 43, 3) := by decide +kernel
theorem dX1_readBoth_18 : decode cX1_readBoth 18 = .ok (.aload_n 0, 1) := by decide +kernel
theorem dX1_readBoth_19 : decode cX1_readBoth 19 = .ok (.getstatic 184, 3) := by decide +kernel
theorem dX1_readBoth_22 : decode cX1_readBoth 22 = .ok (.invokevirtual 63, 3) := by decide +kernel
theorem dX1_readBoth_25 : decode cX1_readBoth 25 = .ok (.ifCond .eq 33, 3) := by decide +kernel
theorem dX1_readBoth_28 : decode cX1_readBoth 28 = .ok (.aload_n 0, 1) := by decide +kernel
theorem dX1_readBoth_29 : decode cX1_readBoth 29 = .ok (.invokevirtual 181, 3) := by decide +kernel
theorem dX1_readBoth_32 : decode cX1_readBoth 32 = .ok (.ifCond .eq 18, 3) := by decide +kernel
theorem dX1_readBoth_35 : decode cX1_readBoth 35 = .ok (.aload_n 0, 1) := by decide +kernel
theorem dX1_readBoth_36 : decode cX1_readBoth 36 = .ok (.getstatic 184, 3) := by decide +kernel
theorem dX1_readBoth_39 : decode cX1_readBoth 39 = .ok (.iconst 0, 1) := by decide +kernel
theorem dX1_readBoth_40 : decode cX1_readBoth 40 = .ok (.invokevirtual 177, 3) := by decide +kernel
theorem dX1_readBoth_43 : decode cX1_readBoth 43 = .ok (.ifCond .eq 7, 3) := by decide +kernel
theorem dX1_readBoth_46 : decode cX1_readBoth 46 = .ok (.iconst 1, 1) := by decide +kernel
theorem dX1_readBoth_47 : decode cX1_readBoth 47 = .ok (.goto 4, 3) := by decide +kernel
theorem dX1_readBoth_50 : decode cX1_readBoth 50 = .ok (.iconst 0, 1) := by decide +kernel
theorem dX1_readBoth_51 : decode cX1_readBoth 51 = .ok (.istore_n 1, 1) := by decide +kernel
theorem dX1_readBoth_52 : decode cX1_readBoth 52 = .ok (.iinc 2 1, 3) := by decide +kernel
theorem dX1_readBoth_55 : decode cX1_readBoth 55 = .ok (.goto (-48), 3) := by decide +kernel
theorem dX1_readBoth_58 : decode cX1_readBoth 58 = .ok (.iload_n 1, 1) := by decide +kernel
theorem dX1_readBoth_59 : decode cX1_readBoth 59 = .ok (.ireturn, 1) := by decide +kernel
theorem dX1_readSingle_0 : decode cX1_readSingle 0 = .ok (.getstatic 187, 3) := by decide +kernel
theorem dX1_readSingle_3 : decode cX1_readSingle 3 = .ok (.aload_n 0, 1) := by decide +kernel
theorem dX1_readSingle_4 : decode cX1_readSingle 4 = .ok (.getfield 12, 3) := by decide +kernel
theorem dX1_readSingle_7 : decode cX1_readSingle 7 = .ok (.getfield 41, 3) := by decide +kernel
theorem dX1_readSingle_10 : decode cX1_readSingle 10 = .ok (.invokevirtual 193, 3) := by decide +kernel
theorem dX1_readSingle_13 : decode cX1_readSingle 13 = .ok (.iaload, 1) := by decide +kernel
theorem dX1_readSingle_14 : decode cX1_readSingle 14 = .ok (.tableswitch 144 1 3 #[26, 67, 107], 26) := by decide +kernel
theorem dX1_readSingle_40 : decode cX1_readSingle 40 = .ok (.aload_n 0, 1) := by decide +kernel
theorem dX1_readSingle_41 : decode cX1_readSingle 41 = .ok (.getstatic 197, 3) := by decide +kernel
theorem dX1_readSingle_44 : decode cX1_readSingle 44 = .ok (.invokevirtual 200, 3) := by decide +kernel
theorem dX1_readSingle_47 : decode cX1_readSingle 47 = .ok (.ifCond .eq 32, 3) := by decide +kernel
theorem dX1_readSingle_50 : decode cX1_readSingle 50 = .ok (.aload_n 0, 1) := by decide +kernel
theorem dX1_readSingle_51 : decode cX1_readSingle 51 = .ok (.invokevirtual 181, 3) := by decide +kernel
theorem dX1_readSingle_54 : decode cX1_readSingle 54 = .ok (.ifCond .eq 25, 3) := by decide +kernel
theorem dX1_readSingle_57 : decode cX1_readSingle 57 = .ok (.aload_n 0, 1) := by decide +kernel
theorem dX1_readSingle_58 : decode cX1_readSingle 58 = .ok (.invokevirtual 203, 3) := by decide +kernel
theorem dX1_readSingle_61 : decode cX1_readSingle 61 = .ok (.ifCond .eq 18, 3) := by decide +kernel
theorem dX1_readSingle_64 : decode cX1_readSingle 64 = .ok (.aload_n 0, 1) := by decide +kernel
theorem dX1_readSingle_65 : decode cX1_readSingle 65 = .ok (.getstatic 197, 3) := by decide +kernel
theorem dX1_readSingle_68 : decode cX1_readSingle 68 = .ok (.iconst 0, 1) := by decide +kernel
theorem dX1_readSingle_69 : decode cX1_readSingle 69 = .ok (.invokevirtual 177, 3) := by decide +kernel
theorem dX1_readSingle_72 : decode cX1_readSingle 72 = .ok (.ifCond .eq 7, 3) := by decide +kernel
theorem dX1_readSingle_75 : decode cX1_readSingle 75 = .ok (.iconst 1, 1) := by decide +kernel
theorem dX1_readSingle_76 : decode cX1_readSingle 76 = .ok (.goto 4, 3) := by decide +kernel
theorem dX1_readSingle_79 : decode cX1_readSingle 79 = .ok (.iconst 0, 1) := by decide +kernel
theorem dX1_readSingle_80 : decode cX1_readSingle 80 = .ok (.ireturn, 1) := by decide +kernel
theorem dX1_readSingle_81 : decode cX1_readSingle 81 = .ok (.aload_n 0, 1) := by decide +kernel
theorem dX1_readSingle_82 : decode cX1_readSingle 82 = .ok (.getstatic 206, 3) := by decide +kernel
theorem dX1_readSingle_85 : decode cX1_readSingle 85 = .ok (.invokevirtual 200, 3) := by decide +kernel
theorem dX1_readSingle_88 : decode cX1_readSingle 88 = .ok (.ifCond .eq 31, 3) := by decide +kernel
theorem dX1_readSingle_91 : decode cX1_readSingle 91 = .ok (.aload_n 0, 1) := by decide +kernel
theorem dX1_readSingle_92 : decode cX1_readSingle 92 = .ok (.invokevirtual 129, 3) := by decide +kernel
theorem dX1_readSingle_95 : decode cX1_readSingle 95 = .ok (.ifCond .eq 24, 3) := by decide +kernel
theorem dX1_readSingle_98 : decode cX1_readSingle 98 = .ok (.aload_n 0, 1) := by decide +kernel
theorem dX1_readSingle_99 : decode cX1_readSingle 99 = .ok (.invokevirtual 203, 3) := by decide +kernel
theorem dX1_readSingle_102 : decode cX1_readSingle 102 = .ok (.ifCond .eq 17, 3) := by decide +kernel
theorem dX1_readSingle_105 : decode cX1_readSingle 105 = .ok (.aload_n 0, 1) := by decide +kernel
theorem dX1_readSingle_106 : decode cX1_readSingle 106 = .ok (.getstatic 209, 3) := by decide +kernel
theorem dX1_readSingle_109 : decode cX1_readSingle 109 = .ok (.invokevirtual 63, 3) := by decide +kernel
theorem dX1_readSingle_112 : decode cX1_readSingle 112 = .ok (.ifCond .eq 7, 3) := by decide +kernel
theorem dX1_readSingle_115 : decode cX1_readSingle 115 = .ok (.iconst 1, 1) := by decide +kernel
theorem dX1_readSingle_116 : decode cX1_readSingle 116 = .ok (.goto 4, 3) := by decide +kernel
theorem dX1_readSingle_119 : decode cX1_readSingle 119 = .ok (.iconst 0, 1) := by decide +kernel
theorem dX1_readSingle_120 : decode cX1_readSingle 120 = .ok (.ireturn, 1) := by decide +kernel
theorem dX1_readSingle_121 : decode cX1_readSingle 121 = .ok (.aload_n 0, 1) := by decide +kernel
theorem dX1_readSingle_122 : decode cX1_readSingle 122 = .ok (.getstatic 212, 3) := by decide +kernel
theorem dX1_readSingle_125 : decode cX1_readSingle 125 = .ok (.invokevirtual 63, 3) := by decide +kernel
theorem dX1_readSingle_128 : decode cX1_readSingle 128 = .ok (.ifCond .eq 28, 3) := by decide +kernel
theorem dX1_readSingle_131 : decode cX1_readSingle 131 = .ok (.aload_n 0, 1) := by decide +kernel
theorem dX1_readSingle_132 : decode cX1_readSingle 132 = .ok (.invokevirtual 155, 3) := by decide +kernel
theorem dX1_readSingle_135 : decode cX1_readSingle 135 = .ok (.ifCond .eq 21, 3) := by decide +kernel
theorem dX1_readSingle_138 : decode cX1_readSingle 138 = .ok (.aload_n 0, 1) := by decide +kernel
theorem dX1_readSingle_139 : decode cX1_readSingle 139 = .ok (.getstatic 212, 3) := by decide +kernel
theorem dX1_readSingle_142 : decode cX1_readSingle 142 = .ok (.aload_n 0, 1) := by decide +kernel
theorem dX1_readSingle_143 : decode cX1_readSingle 143 = .ok (.getfield 158, 3) := by decide +kernel
theorem dX1_readSingle_146 : decode cX1_readSingle 146 = .ok (.invokevirtual 177, 3) := by decide +kernel
theorem dX1_readSingle_149 : decode cX1_readSingle 149 = .ok (.ifCond .eq 7, 3) := by decide +kernel
theorem dX1_readSingle_152 : decode cX1_readSingle 152 = .ok (.iconst 1, 1) := by decide +kernel
theorem dX1_readSingle_153 : decode cX1_readSingle 153 = .ok (.goto 4, 3) := by decide +kernel
theorem dX1_readSingle_156 : decode cX1_readSingle 156 = .ok (.iconst 0, 1) := by decide +kernel
theorem dX1_readSingle_157 : decode cX1_readSingle 157 = .ok (.ireturn, 1) := by decide +kernel
theorem dX1_readSingle_158 : decode cX1_readSingle 158 = .ok (.aload_n 0, 1) := by decide +kernel
theorem dX1_readSingle_159 : decode cX1_readSingle 159 = .ok (.invokevirtual 215, 3) := by decide +kernel
theorem dX1_readSingle_162 : decode cX1_readSingle 162 = .ok (.ireturn, 1) := by decide +kernel
theorem dX1_readComparison_0 : decode cX1_readComparison 0 = .ok (.aload_n 0, 1) := by decide +kernel
theorem dX1_readComparison_1 : decode cX1_readComparison 1 = .ok (.invokevirtual 164, 3) := by decide +kernel
theorem dX1_readComparison_4 : decode cX1_readComparison 4 = .ok (.ifCond .ne 5, 3) := by decide +kernel
theorem dX1_readComparison_7 : decode cX1_readComparison 7 = .ok (.iconst 0, 1) := by decide +kernel
theorem dX1_readComparison_8 : decode cX1_readComparison 8 = .ok (.ireturn, 1) := by decide +kernel
theorem dX1_readComparison_9 : decode cX1_readComparison 9 = .ok (.aload_n 0, 1) := by decide +kernel
theorem dX1_readComparison_10 : decode cX1_readComparison 10 = .ok (.getfield 12, 3) := by decide +kernel
theorem dX1_readComparison_13 : decode cX1_readComparison 13 = .ok (.getfield 41, 3) := by decide +kernel
theorem dX1_readComparison_16 : decode cX1_readComparison 16 = .ok (.astore_n 1, 1) := by decide +kernel
theorem dX1_readComparison_17 : decode cX1_readComparison 17 = .ok (.aload_n 1, 1) := by decide +kernel
theorem dX1_readComparison_18 : decode cX1_readComparison 18 = .ok (.invokestatic 218, 3) := by decide +kernel
theorem dX1_readComparison_21 : decode cX1_readComparison 21 = .ok (.ifCond .eq 31, 3) := by decide +kernel
theorem dX1_readComparison_24 : decode cX1_readComparison 24 = .ok (.aload_n 0, 1) := by decide +kernel
theorem dX1_readComparison_25 : decode cX1_readComparison 25 = .ok (.aload_n 1, 1) := by decide +kernel
theorem dX1_readComparison_26 : decode cX1_readComparison 26 = .ok (.invokevirtual 63, 3) := by decide +kernel
theorem dX1_readComparison_29 : decode cX1_readComparison 29 = .ok (.ifCond .eq 23, 3) := by decide +kernel
theorem dX1_readComparison_32 : decode cX1_readComparison 32 = .ok (.aload_n 0, 1) := by decide +kernel
theorem dX1_readComparison_33 : decode cX1_readComparison 33 = .ok (.invokevirtual 164, 3) := by decide +kernel
theorem dX1_readComparison_36 : decode cX1_readComparison 36 = .ok (.ifCond .eq 16, 3) := by decide +kernel
theorem dX1_readComparison_39 : decode cX1_readComparison 39 = .ok (.aload_n 0, 1) := by decide +kernel
theorem dX1_readComparison_40 : decode cX1_readComparison 40 = .ok (.aload_n 1, 1) := by decide +kernel
theorem dX1_readComparison_41 : decode cX1_readComparison 41 = .ok (.iconst 0, 1) := by decide +kernel
theorem dX1_readComparison_42 : decode cX1_readComparison 42 = .ok (.invokevirtual 177, 3) := by decide +kernel
theorem dX1_readComparison_45 : decode cX1_readComparison 45 = .ok (.ifCond .eq 7, 3) := by decide +kernel
theorem dX1_readComparison_48 : decode cX1_readComparison 48 = .ok (.iconst 1, 1) := by decide +kernel
theorem dX1_readComparison_49 : decode cX1_readComparison 49 = .ok (.goto 4, 3) := by decide +kernel
theorem dX1_readComparison_52 : decode cX1_readComparison 52 = .ok (.iconst 0, 1) := by decide +kernel
theorem dX1_readComparison_53 : decode cX1_readComparison 53 = .ok (.ireturn, 1) := by decide +kernel
theorem dX1_isComparison_0 : decode cX1_isComparison 0 = .ok (.aload_n 0, 1) := by decide +kernel
theorem dX1_isComparison_1 : decode cX1_isComparison 1 = .ok (.getstatic 221, 3) := by decide +kernel
theorem dX1_isComparison_4 : decode cX1_isComparison 4 = .ok (.if_acmp .eq 31, 3) := by decide +kernel
theorem dX1_isComparison_7 : decode cX1_isComparison 7 = .ok (.aload_n 0, 1) := by decide +kernel
theorem dX1_isComparison_8 : decode cX1_isComparison 8 = .ok (.getstatic 224, 3) := by decide +kernel
theorem dX1_isComparison_11 : decode cX1_isComparison 11 = .ok (.if_acmp .eq 24, 3) := by decide +kernel
theorem dX1_isComparison_14 : decode cX1_isComparison 14 = .ok (.aload_n 0, 1) := by decide +kernel
theorem dX1_isComparison_15 : decode cX1_isComparison 15 = .ok (.getstatic 227, 3) := by decide +kernel
theorem dX1_isComparison_18 : decode cX1_isComparison 18 = .ok (.if_acmp .eq 17, 3) := by decide +kernel
theorem dX1_isComparison_21 : decode cX1_isComparison 21 = .ok (.aload_n 0, 1) := by decide +kernel
theorem dX1_isComparison_22 : decode cX1_isComparison 22 = .ok (.getstatic 230, 3) := by decide +kernel
theorem dX1_isComparison_25 : decode cX1_isComparison 25 = .ok (.if_acmp .eq 10, 3) := by decide +kernel
theorem dX1_isComparison_28 : decode cX1_isComparison 28 = .ok (.aload_n 0, 1) := by decide +kernel
theorem dX1_isComparison_29 : decode cX1_isComparison 29 = .ok (.getstatic 233, 3) := by decide +kernel
theorem dX1_isComparison_32 : decode cX1_isComparison 32 = .ok (.if_acmp .ne 7, 3) := by decide +kernel
theorem dX1_isComparison_35 : decode cX1_isComparison 35 = .ok (.iconst 1, 1) := by decide +kernel
theorem dX1_isComparison_36 : decode cX1_isComparison 36 = .ok (.goto 4, 3) := by decide +kernel
theorem dX1_isComparison_39 : decode cX1_isComparison 39 = .ok (.iconst 0, 1) := by decide +kernel
theorem dX1_isComparison_40 : decode cX1_isComparison 40 = .ok (.ireturn, 1) := by decide +kernel
theorem dX1_readSum_0 : decode cX1_readSum 0 = .ok (.aload_n 0, 1) := by decide +kernel
theorem dX1_readSum_1 : decode cX1_readSum 1 = .ok (.invokevirtual 236, 3) := by decide +kernel
theorem dX1_readSum_4 : decode cX1_readSum 4 = .ok (.istore_n 1, 1) := by decide +kernel
theorem dX1_readSum_5 : decode cX1_readSum 5 = .ok (.iconst 0, 1) := by decide +kernel
theorem dX1_readSum_6 : decode cX1_readSum 6 = .ok (.istore_n 2, 1) := by decide +kernel
theorem dX1_readSum_7 : decode cX1_readSum 7 = .ok (.iload_n 2, 1) := by decide +kernel
theorem dX1_readSum_8 : decode cX1_readSum 8 = .ok (.sipush 400, 3) := by decide +kernel
theorem dX1_readSum_11 : decode cX1_readSum 11 = .ok (.if_icmp .ge 68, 3) := by decide +kernel
theorem dX1_readSum_14 : decode cX1_readSum 14 = .ok (.iload_n 1, 1) := by decide +kernel
theorem dX1_readSum_15 : decode cX1_readSum 15 = .ok (.ifCond .eq 64, 3) := by decide +kernel
theorem dX1_readSum_18 : decode cX1_readSum 18 = .ok (.aload_n 0, 1) := by decide +kernel
theorem dX1_readSum_19 : decode cX1_readSum 19 = .ok (.getfield 12, 3) := by decide +kernel
theorem dX1_readSum_22 : decode cX1_readSum 22 = .ok (.getfield 41, 3) := by decide +kernel
theorem dX1_readSum_25 : decode cX1_readSum 25 = .ok (.astore_n 3, 1) := by decide +kernel
theorem dX1_readSum_26 : decode cX1_readSum 26 = .ok (.aload_n 3, 1) := by decide +kernel
theorem dX1_readSum_27 : decode cX1_readSum 27 = .ok (.getstatic 239, 3) := by decide +kernel
theorem dX1_readSum_30 : decode cX1_readSum 30 = .ok (.if_acmp .eq 13, 3) := by decide +kernel
theorem dX1_readSum_33 : decode cX1_readSum 33 = .ok (.aload_n 3, 1) := by decide +kernel
theorem dX1_readSum_34 : decode cX1_readSum 34 = .ok (.getstatic 242, 3) := by decide +kernel
theorem dX1_readSum_37 : decode cX1_readSum 37 = .ok (.if_acmp .eq 6, 3) := by decide +kernel
theorem dX1_readSum_40 : decode cX1_readSum 40 = .ok (.goto 39, 3) := by decide +kernel
theorem dX1_readSum_43 : decode cX1_readSum 43 = .ok (.aload_n 0, 1) := by decide +kernel
theorem dX1_readSum_44 : decode cX1_readSum 44 = .ok (.aload_n 3, 1) := by decide +kernel
theorem dX1_readSum_45 : decode cX1_readSum 45 = .ok (.invokevirtual 63, 3) := by decide +kernel
theorem dX1_readSum_48 : decode cX1_readSum 48 = .ok (.ifCond .eq 23, 3) := by decide +kernel
theorem dX1_readSum_51 : decode cX1_readSum 51 = .ok (.aload_n 0, 1) := by decide +kernel
theorem dX1_readSum_52 : decode cX1_readSum 52 = .ok (.invokevirtual 236, 3) := by decide +kernel
theorem dX1_readSum_55 : decode cX1_readSum 55 = .ok (.ifCond .eq 16, 3) := by decide +kernel
theorem dX1_readSum_58 : decode cX1_readSum 58 = .ok (.aload_n 0, 1) := by decide +kernel
theorem dX1_readSum_59 : decode cX1_readSum 59 = .ok (.aload_n 3, 1) := by decide +kernel
theorem dX1_readSum_60 : decode cX1_readSum 60 = .ok (.iconst 0, 1) := by decide +kernel
theorem dX1_readSum_61 : decode cX1_readSum 61 = .ok (.invokevirtual 177, 3) := by decide +kernel
theorem dX1_readSum_64 : decode cX1_readSum 64 = .ok (.ifCond .eq 7, 3) := by decide +kernel
theorem dX1_readSum_67 : decode cX1_readSum 67 = .ok (.iconst 1, 1) := by decide +kernel
theorem dX1_readSum_68 : decode cX1_readSum 68 = .ok (.goto 4, 3) := by decide +kernel
theorem dX1_readSum_71 : decode cX1_readSum 71 = .ok (.iconst 0, 1) := by decide +kernel
theorem dX1_readSum_72 : decode cX1_readSum 72 = .ok (.istore_n 1, 1) := by decide +kernel
theorem dX1_readSum_73 : decode cX1_readSum 73 = .ok (.iinc 2 1, 3) := by decide +kernel
theorem dX1_readSum_76 : decode cX1_readSum 76 = .ok (.goto (-69), 3) := by decide +kernel
theorem dX1_readSum_79 : decode cX1_readSum 79 = .ok (.iload_n 1, 1) := by decide +kernel
theorem dX1_readSum_80 : decode cX1_readSum 80 = .ok (.ireturn, 1) := by decide +kernel
theorem dX1_readProduct_0 : decode cX1_readProduct 0 = .ok (.aload_n 0, 1) := by decide +kernel
theorem dX1_readProduct_1 : decode cX1_readProduct 1 = .ok (.invokevirtual 245, 3) := by decide +kernel
theorem dX1_readProduct_4 : decode cX1_readProduct 4 = .ok (.istore_n 1, 1) := by decide +kernel
theorem dX1_readProduct_5 : decode cX1_readProduct 5 = .ok (.iconst 0, 1) := by decide +kernel
theorem dX1_readProduct_6 : decode cX1_readProduct 6 = .ok (.istore_n 2, 1) := by decide +kernel
theorem dX1_readProduct_7 : decode cX1_readProduct 7 = .ok (.iload_n 2, 1) := by decide +kernel
theorem dX1_readProduct_8 : decode cX1_readProduct 8 = .ok (.sipush 400, 3) := by decide +kernel
theorem dX1_readProduct_11 : decode cX1_readProduct 11 = .ok (.if_icmp .ge 68, 3) := by decide +kernel
theorem dX1_readProduct_14 : decode cX1_readProduct 14 = .ok (.iload_n 1, 1) := by decide +kernel
theorem dX1_readProduct_15 : decode cX1_readProduct 15 = .ok (.ifCond .eq 64, 3) := by decide +kernel
theorem dX1_readProduct_18 : decode cX1_readProduct 18 = .ok (.aload_n 0, 1) := by decide +kernel
theorem dX1_readProduct_19 : decode cX1_readProduct 19 = .ok (.getfield 12, 3) := by decide +kernel
theorem dX1_readProduct_22 : decode cX1_readProduct 22 = .ok (.getfield 41, 3) := by decide +kernel
theorem dX1_readProduct_25 : decode cX1_readProduct 25 = .ok (.astore_n 3, 1) := by decide +kernel
theorem dX1_readProduct_26 : decode cX1_readProduct 26 = .ok (.aload_n 3, 1) := by decide +kernel
theorem dX1_readProduct_27 : decode cX1_readProduct 27 = .ok (.getstatic 248, 3) := by decide +kernel
theorem dX1_readProduct_30 : decode cX1_readProduct 30 = .ok (.if_acmp .eq 13, 3) := by decide +kernel
theorem dX1_readProduct_33 : decode cX1_readProduct 33 = .ok (.aload_n 3, 1) := by decide +kernel
theorem dX1_readProduct_34 : decode cX1_readProduct 34 = .ok (.getstatic 251, 3) := by decide +kernel
theorem dX1_readProduct_37 : decode cX1_readProduct 37 = .ok (.if_acmp .eq 6, 3) := by decide +kernel
theorem dX1_readProduct_40 : decode cX1_readProduct 40 = .ok (.goto 39, 3) := by decide +kernel
theorem dX1_readProduct_43 : decode cX1_readProduct 43 = .ok (.aload_n 0, 1) := by decide +kernel
theorem dX1_readProduct_44 : decode cX1_readProduct 44 = .ok (.aload_n 3, 1) := by decide +kernel
theorem dX1_readProduct_45 : decode cX1_readProduct 45 = .ok (.invokevirtual 63, 3) := by decide +kernel
theorem dX1_readProduct_48 : decode cX1_readProduct 48 = .ok (.ifCond .eq 23, 3) := by decide +kernel
theorem dX1_readProduct_51 : decode cX1_readProduct 51 = .ok (.aload_n 0, 1) := by decide +kernel
theorem dX1_readProduct_52 : decode cX1_readProduct 52 = .ok (.invokevirtual 245, 3) := by decide +kernel
theorem dX1_readProduct_55 : decode cX1_readProduct 55 = .ok (.ifCond .eq 16, 3) := by decide +kernel
theorem dX1_readProduct_58 : decode cX1_readProduct 58 = .ok (.aload_n 0, 1) := by decide +kernel
theorem dX1_readProduct_59 : decode cX1_readProduct 59 = .ok (.aload_n 3, 1) := by decide +kernel
theorem dX1_readProduct_60 : decode cX1_readProduct 60 = .ok (.iconst 0, 1) := by decide +kernel
theorem dX1_readProduct_61 : decode cX1_readProduct 61 = .ok (.invokevirtual 177, 3) := by decide +kernel
theorem dX1_readProduct_64 : decode cX1_readProduct 64 = .ok (.ifCond .eq 7, 3) := by decide +kernel
theorem dX1_readProduct_67 : decode cX1_readProduct 67 = .ok (.iconst 1, 1) := by decide +kernel
theorem dX1_readProduct_68 : decode cX1_readProduct 68 = .ok (.goto 4, 3) := by decide +kernel
theorem dX1_readProduct_71 : decode cX1_readProduct 71 = .ok (.iconst 0, 1) := by decide +kernel
theorem dX1_readProduct_72 : decode cX1_readProduct 72 = .ok (.istore_n 1, 1) := by decide +kernel
theorem dX1_readProduct_73 : decode cX1_readProduct 73 = .ok (.iinc 2 1, 3) := by decide +kernel
theorem dX1_readProduct_76 : decode cX1_readProduct 76 = .ok (.goto (-69), 3) := by decide +kernel
theorem dX1_readProduct_79 : decode cX1_readProduct 79 = .ok (.iload_n 1, 1) := by decide +kernel
theorem dX1_readProduct_80 : decode cX1_readProduct 80 = .ok (.ireturn, 1) := by decide +kernel
theorem dX1_readValue_0 : decode cX1_readValue 0 = .ok (.aload_n 0, 1) := by decide +kernel
theorem dX1_readValue_1 : decode cX1_readValue 1 = .ok (.getfield 12, 3) := by decide +kernel
theorem dX1_readValue_4 : decode cX1_readValue 4 = .ok (.getfield 41, 3) := by decide +kernel
theorem dX1_readValue_7 : decode cX1_readValue 7 = .ok (.astore_n 1, 1) := by decide +kernel
theorem dX1_readValue_8 : decode cX1_readValue 8 = .ok (.getstatic 187, 3) := by decide +kernel
theorem dX1_readValue_11 : decode cX1_readValue 11 = .ok (.aload_n 1, 1) := by decide +kernel
theorem dX1_readValue_12 : decode cX1_readValue 12 = .ok (.invokevirtual 193, 3) := by decide +kernel
theorem dX1_readValue_15 : decode cX1_readValue 15 = .ok (.iaload, 1) := by decide +kernel
theorem dX1_readValue_16 : decode cX1_readValue 16 = .ok (.tableswitch 314 4 14 #[60, 93, 93, 93, 93, 116, 116, 159, 200, 240, 240], 60) := by decide +kernel
theorem dX1_readValue_76 : decode cX1_readValue 76 = .ok (.aload_n 0, 1) := by decide +kernel
theorem dX1_readValue_77 : decode cX1_readValue 77 = .ok (.getstatic 254, 3) := by decide +kernel
theorem dX1_readValue_80 : decode cX1_readValue 80 = .ok (.aload_n 0, 1) := by decide +kernel
theorem dX1_readValue_81 : decode cX1_readValue 81 = .ok (.getfield 12, 3) := by decide +kernel
theorem dX1_readValue_84 : decode cX1_readValue 84 = .ok (.invokevirtual 257, 3) := by decide +kernel
theorem dX1_readValue_87 : decode cX1_readValue 87 = .ok (.invokevirtual 177, 3) := by decide +kernel
theorem dX1_readValue_90 : decode cX1_readValue 90 = .ok (.ifCond .eq 17, 3) := by decide +kernel
theorem dX1_readValue_93 : decode cX1_readValue 93 = .ok (.aload_n 0, 1) := by decide +kernel
theorem dX1_readValue_94 : decode cX1_readValue 94 = .ok (.getstatic 254, 3) := by decide +kernel
theorem dX1_readValue_97 : decode cX1_readValue 97 = .ok (.invokevirtual 63, 3) := by decide +kernel
theorem dX1_readValue_100 : decode cX1_readValue 100 = .ok (.ifCond .eq 7, 3) := by decide +kernel
theorem dX1_readValue_103 : decode cX1_readValue 103 = .ok (.iconst 1, 1) := by decide +kernel
theorem dX1_readValue_104 : decode cX1_readValue 104 = .ok (.goto 4, 3) := by decide +kernel
theorem dX1_readValue_107 : decode cX1_readValue 107 = .ok (.iconst 0, 1) := by decide +kernel
theorem dX1_readValue_108 : decode cX1_readValue 108 = .ok (.ireturn, 1) := by decide +kernel
theorem dX1_readValue_109 : decode cX1_readValue 109 = .ok (.aload_n 0, 1) := by decide +kernel
theorem dX1_readValue_110 : decode cX1_readValue 110 = .ok (.aload_n 1, 1) := by decide +kernel
theorem dX1_readValue_111 : decode cX1_readValue 111 = .ok (.iconst 0, 1) := by decide +kernel
theorem dX1_readValue_112 : decode cX1_readValue 112 = .ok (.invokevirtual 177, 3) := by decide +kernel
theorem dX1_readValue_115 : decode cX1_readValue 115 = .ok (.ifCond .eq 15, 3) := by decide +kernel
theorem dX1_readValue_118 : decode cX1_readValue 118 = .ok (.aload_n 0, 1) := by decide +kernel
theorem dX1_readValue_119 : decode cX1_readValue 119 = .ok (.aload_n 1, 1) := by decide +kernel
theorem dX1_readValue_120 : decode cX1_readValue 120 = .ok (.invokevirtual 63, 3) := by decide +kernel
theorem dX1_readValue_123 : decode cX1_readValue 123 = .ok (.ifCond .eq 7, 3) := by decide +kernel
theorem dX1_readValue_126 : decode cX1_readValue 126 = .ok (.iconst 1, 1) := by decide +kernel
theorem dX1_readValue_127 : decode cX1_readValue 127 = .ok (.goto 4, 3) := by decide +kernel
theorem dX1_readValue_130 : decode cX1_readValue 130 = .ok (.iconst 0, 1) := by decide +kernel
theorem dX1_readValue_131 : decode cX1_readValue 131 = .ok (.ireturn, 1) := by decide +kernel
theorem dX1_readValue_132 : decode cX1_readValue 132 = .ok (.aload_n 0, 1) := by decide +kernel
theorem dX1_readValue_133 : decode cX1_readValue 133 = .ok (.aload_n 1, 1) := by decide +kernel
theorem dX1_readValue_134 : decode cX1_readValue 134 = .ok (.invokevirtual 63, 3) := by decide +kernel
theorem dX1_readValue_137 : decode cX1_readValue 137 = .ok (.ifCond .eq 36, 3) := by decide +kernel
theorem dX1_readValue_140 : decode cX1_readValue 140 = .ok (.aload_n 0, 1) := by decide +kernel
theorem dX1_readValue_141 : decode cX1_readValue 141 = .ok (.getstatic 260, 3) := by decide +kernel
theorem dX1_readValue_144 : decode cX1_readValue 144 = .ok (.invokevirtual 63, 3) := by decide +kernel
theorem dX1_readValue_147 : decode cX1_readValue 147 = .ok (.ifCond .eq 26, 3) := by decide +kernel
theorem dX1_readValue_150 : decode cX1_readValue 150 = .ok (.aload_n 0, 1) := by decide +kernel
theorem dX1_readValue_151 : decode cX1_readValue 151 = .ok (.invokevirtual 155, 3) := by decide +kernel
theorem dX1_readValue_154 : decode cX1_readValue 154 = .ok (.ifCond .eq 19, 3) := by decide +kernel
theorem dX1_readValue_157 : decode cX1_readValue 157 = .ok (.aload_n 0, 1) := by decide +kernel
theorem dX1_readValue_158 : decode cX1_readValue 158 = .ok (.aload_n 1, 1) := by decide +kernel
theorem dX1_readValue_159 : decode cX1_readValue 159 = .ok (.aload_n 0, 1) := by decide +kernel
theorem dX1_readValue_160 : decode cX1_readValue 160 = .ok (.getfield 158, 3) := by decide +kernel
theorem dX1_readValue_163 : decode cX1_readValue 163 = .ok (.invokevirtual 177, 3) := by decide +kernel
theorem dX1_readValue_166 : decode cX1_readValue 166 = .ok (.ifCond .eq 7, 3) := by decide +kernel
theorem dX1_readValue_169 : decode cX1_readValue 169 = .ok (.iconst 1, 1) := by decide +kernel
theorem dX1_readValue_170 : decode cX1_readValue 170 = .ok (.goto 4, 3) := by decide +kernel
theorem dX1_readValue_173 : decode cX1_readValue 173 = .ok (.iconst 0, 1) := by decide +kernel
theorem dX1_readValue_174 : decode cX1_readValue 174 = .ok (.ireturn, 1) := by decide +kernel
theorem dX1_readValue_175 : decode cX1_readValue 175 = .ok (.aload_n 0, 1) := by decide +kernel
theorem dX1_readValue_176 : decode cX1_readValue 176 = .ok (.getstatic 242, 3) := by decide +kernel
theorem dX1_readValue_179 : decode cX1_readValue 179 = .ok (.invokevirtual 200, 3) := by decide +kernel
theorem dX1_readValue_182 : decode cX1_readValue 182 = .ok (.ifCond .eq 32, 3) := by decide +kernel
theorem dX1_readValue_185 : decode cX1_readValue 185 = .ok (.aload_n 0, 1) := by decide +kernel
theorem dX1_readValue_186 : decode cX1_readValue 186 = .ok (.invokevirtual 245, 3) := by decide +kernel
theorem dX1_readValue_189 : decode cX1_readValue 189 = .ok (.ifCond .eq 25, 3) := by decide +kernel
theorem dX1_readValue_192 : decode cX1_readValue 192 = .ok (.aload_n 0, 1) := by decide +kernel
theorem dX1_readValue_193 : decode cX1_readValue 193 = .ok (.invokevirtual 203, 3) := by decide +kernel
theorem dX1_readValue_196 : decode cX1_readValue 196 = .ok (.ifCond .eq 18, 3) := by decide +kernel
theorem dX1_readValue_199 : decode cX1_readValue 199 = .ok (.aload_n 0, 1) := by decide +kernel
theorem dX1_readValue_200 : decode cX1_readValue 200 = .ok (.getstatic 263, 3) := by decide +kernel
theorem dX1_readValue_203 : decode cX1_readValue 203 = .ok (.iconst 0, 1) := by decide +kernel
theorem dX1_readValue_204 : decode cX1_readValue 204 = .ok (.invokevirtual 177, 3) := by decide +kernel
theorem dX1_readValue_207 : decode cX1_readValue 207 = .ok (.ifCond .eq 7, 3) := by decide +kernel
theorem dX1_readValue_210 : decode cX1_readValue 210 = .ok (.iconst 1, 1) := by decide +kernel
theorem dX1_readValue_211 : decode cX1_readValue 211 = .ok (.goto 4, 3) := by decide +kernel
theorem dX1_readValue_214 : decode cX1_readValue 214 = .ok (.iconst 0, 1) := by decide +kernel
theorem dX1_readValue_215 : decode cX1_readValue 215 = .ok (.ireturn, 1) := by decide +kernel
theorem dX1_readValue_216 : decode cX1_readValue 216 = .ok (.aload_n 0, 1) := by decide +kernel
theorem dX1_readValue_217 : decode cX1_readValue 217 = .ok (.getstatic 266, 3) := by decide +kernel
theorem dX1_readValue_220 : decode cX1_readValue 220 = .ok (.invokevirtual 200, 3) := by decide +kernel
theorem dX1_readValue_223 : decode cX1_readValue 223 = .ok (.ifCond .eq 31, 3) := by decide +kernel
theorem dX1_readValue_226 : decode cX1_readValue 226 = .ok (.aload_n 0, 1) := by decide +kernel
theorem dX1_readValue_227 : decode cX1_readValue 227 = .ok (.invokevirtual 164, 3) := by decide +kernel
theorem dX1_readValue_230 : decode cX1_readValue 230 = .ok (.ifCond .eq 24, 3) := by decide +kernel
theorem dX1_readValue_233 : decode cX1_readValue 233 = .ok (.aload_n 0, 1) := by decide +kernel
theorem dX1_readValue_234 : decode cX1_readValue 234 = .ok (.invokevirtual 203, 3) := by decide +kernel
theorem dX1_readValue_237 : decode cX1_readValue 237 = .ok (.ifCond .eq 17, 3) := by decide +kernel
theorem dX1_readValue_240 : decode cX1_readValue 240 = .ok (.aload_n 0, 1) := by decide +kernel
theorem dX1_readValue_241 : decode cX1_readValue 241 = .ok (.getstatic 269, 3) := by decide +kernel
theorem dX1_readValue_244 : decode cX1_readValue 244 = .ok (.invokevirtual 63, 3) := by decide +kernel
theorem dX1_readValue_247 : decode cX1_readValue 247 = .ok (.ifCond .eq 7, 3) := by decide +kernel
theorem dX1_readValue_250 : decode cX1_readValue 250 = .ok (.iconst 1, 1) := by decide +kernel
theorem dX1_readValue_251 : decode cX1_readValue 251 = .ok (.goto 4, 3) := by decide +kernel
theorem dX1_readValue_254 : decode cX1_readValue 254 = .ok (.iconst 0, 1) := by decide +kernel
theorem dX1_readValue_255 : decode cX1_readValue 255 = .ok (.ireturn, 1) := by decide +kernel
theorem dX1_readValue_256 : decode cX1_readValue 256 = .ok (.aload_n 0, 1) := by decide +kernel
theorem dX1_readValue_257 : decode cX1_readValue 257 = .ok (.aload_n 1, 1) := by decide +kernel
theorem dX1_readValue_258 : decode cX1_readValue 258 = .ok (.invokevirtual 63, 3) := by decide +kernel
theorem dX1_readValue_261 : decode cX1_readValue 261 = .ok (.ifCond .eq 67, 3) := by decide +kernel
theorem dX1_readValue_264 : decode cX1_readValue 264 = .ok (.aload_n 0, 1) := by decide +kernel
theorem dX1_readValue_265 : decode cX1_readValue 265 = .ok (.getstatic 266, 3) := by decide +kernel
theorem dX1_readValue_268 : decode cX1_readValue 268 = .ok (.invokevirtual 200, 3) := by decide +kernel
theorem dX1_readValue_271 : decode cX1_readValue 271 = .ok (.ifCond .eq 57, 3) := by decide +kernel
theorem dX1_readValue_274 : decode cX1_readValue 274 = .ok (.aload_n 0, 1) := by decide +kernel
theorem dX1_readValue_275 : decode cX1_readValue 275 = .ok (.invokevirtual 164, 3) := by decide +kernel
theorem dX1_readValue_278 : decode cX1_readValue 278 = .ok (.ifCond .eq 50, 3) := by decide +kernel
theorem dX1_readValue_281 : decode cX1_readValue 281 = .ok (.aload_n 0, 1) := by decide +kernel
theorem dX1_readValue_282 : decode cX1_readValue 282 = .ok (.getstatic 272, 3) := by decide +kernel
theorem dX1_readValue_285 : decode cX1_readValue 285 = .ok (.invokevirtual 63, 3) := by decide +kernel
theorem dX1_readValue_288 : decode cX1_readValue 288 = .ok (.ifCond .eq 40, 3) := by decide +kernel
theorem dX1_readValue_291 : decode cX1_readValue 291 = .ok (.aload_n 0, 1) := by decide +kernel
theorem dX1_readValue_292 : decode cX1_readValue 292 = .ok (.invokevirtual 164, 3) := by decide +kernel
theorem dX1_readValue_295 : decode cX1_readValue 295 = .ok (.ifCond .eq 33, 3) := by decide +kernel
theorem dX1_readValue_298 : decode cX1_readValue 298 = .ok (.aload_n 0, 1) := by decide +kernel
theorem dX1_readValue_299 : decode cX1_readValue 299 = .ok (.invokevirtual 203, 3) := by decide +kernel
theorem dX1_readValue_302 : decode cX1_readValue 302 = .ok (.ifCond .eq 26, 3) := by decide +kernel
theorem dX1_readValue_305 : decode cX1_readValue 305 = .ok (.aload_n 0, 1) := by decide +kernel
theorem dX1_readValue_306 : decode cX1_readValue 306 = .ok (.getstatic 269, 3) := by decide +kernel
theorem dX1_readValue_309 : decode cX1_readValue 309 = .ok (.invokevirtual 63, 3) := by decide +kernel
theorem dX1_readValue_312 : decode cX1_readValue 312 = .ok (.ifCond .eq 16, 3) := by decide +kernel
theorem dX1_readValue_315 : decode cX1_readValue 315 = .ok (.aload_n 0, 1) := by decide +kernel
theorem dX1_readValue_316 : decode cX1_readValue 316 = .ok (.aload_n 1, 1) := by decide +kernel
theorem dX1_readValue_317 : decode cX1_readValue 317 = .ok (.iconst 0, 1) := by decide +kernel
theorem dX1_readValue_318 : decode cX1_readValue 318 = .ok (.invokevirtual 177, 3) := by decide +kernel
theorem dX1_readValue_321 : decode cX1_readValue 321 = .ok (.ifCond .eq 7, 3) := by decide +kernel
theorem dX1_readValue_324 : decode cX1_readValue 324 = .ok (.iconst 1, 1) := by decide +kernel
theorem dX1_readValue_325 : decode cX1_readValue 325 = .ok (.goto 4, 3) := by decide +kernel
theorem dX1_readValue_328 : decode cX1_readValue 328 = .ok (.iconst 0, 1) := by decide +kernel
theorem dX1_readValue_329 : decode cX1_readValue 329 = .ok (.ireturn, 1) := by decide +kernel
theorem dX1_readValue_330 : decode cX1_readValue 330 = .ok (.iconst 0, 1) := by decide +kernel
theorem dX1_readValue_331 : decode cX1_readValue 331 = .ok (.ireturn, 1) := by decide +kernel
theorem dX2_init_0 : decode cX2_init 0 = .ok (.aload_n 0, 1) := by decide +kernel
theorem dX2_init_1 : decode cX2_init 1 = .ok (.invokespecial 1, 3) := by decide +kernel
theorem dX2_init_4 : decode cX2_init 4 = .ok (.aload_n 0, 1) := by decide +kernel
theorem dX2_init_5 : decode cX2_init 5 = .ok (.new 7, 3) := by decide +kernel
theorem dX2_init_8 : decode cX2_init 8 = .ok (.dup, 1) := by decide +kernel
theorem dX2_init_9 : decode cX2_init 9 = .ok (.invokespecial 9, 3) := by decide +kernel
theorem dX2_init_12 : decode cX2_init 12 = .ok (.putfield 10, 3) := by decide +kernel
theorem dX2_init_15 : decode cX2_init 15 = .ok (.aload_n 0, 1) := by decide +kernel
theorem dX2_init_16 : decode cX2_init 16 = .ok (.getstatic 16, 3) := by decide +kernel
theorem dX2_init_19 : decode cX2_init 19 = .ok (.putfield 22, 3) := by decide +kernel
theorem dX2_init_22 : decode cX2_init 22 = .ok (.return_, 1) := by decide +kernel
theorem dX3_init_0 : decode cX3_init 0 = .ok (.aload_n 0, 1) := by decide +kernel
theorem dX3_init_1 : decode cX3_init 1 = .ok (.invokespecial 3, 3) := by decide +kernel
theorem dX3_init_4 : decode cX3_init 4 = .ok (.aload_n 0, 1) := by decide +kernel
theorem dX3_init_5 : decode cX3_init 5 = .ok (.new 9, 3) := by decide +kernel
theorem dX3_init_8 : decode cX3_init 8 = .ok (.dup, 1) := by decide +kernel
theorem dX3_init_9 : decode cX3_init 9 = .ok (.invokespecial 11, 3) := by decide +kernel
theorem dX3_init_12 : decode cX3_init 12 = .ok (.putfield 12, 3) := by decide +kernel
theorem dX3_init_15 : decode cX3_init 15 = .ok (.aload_n 0, 1) := by decide +kernel
theorem dX3_init_16 : decode cX3_init 16 = .ok (.bipush 64, 2) := by decide +kernel
theorem dX3_init_18 : decode cX3_init 18 = .ok (.newarray .int, 2) := by decide +kernel
theorem dX3_init_20 : decode cX3_init 20 = .ok (.putfield 18, 3) := by decide +kernel
theorem dX3_init_23 : decode cX3_init 23 = .ok (.return_, 1) := by decide +kernel
theorem dX3_beginAnew_0 : decode cX3_beginAnew 0 = .ok (.aload_n 0, 1) := by decide +kernel
theorem dX3_beginAnew_1 : decode cX3_beginAnew 1 = .ok (.getfield 12, 3) := by decide +kernel
theorem dX3_beginAnew_4 : decode cX3_beginAnew 4 = .ok (.invokevirtual 22, 3) := by decide +kernel
theorem dX3_beginAnew_7 : decode cX3_beginAnew 7 = .ok (.aload_n 0, 1) := by decide +kernel
theorem dX3_beginAnew_8 : decode cX3_beginAnew 8 = .ok (.iconst 0, 1) := by decide +kernel
theorem dX3_beginAnew_9 : decode cX3_beginAnew 9 = .ok (.putfield 25, 3) := by decide +kernel
theorem dX3_beginAnew_12 : decode cX3_beginAnew 12 = .ok (.aload_n 0, 1) := by decide +kernel
theorem dX3_beginAnew_13 : decode cX3_beginAnew 13 = .ok (.iconst 0, 1) := by decide +kernel
theorem dX3_beginAnew_14 : decode cX3_beginAnew 14 = .ok (.putfield 29, 3) := by decide +kernel
theorem dX3_beginAnew_17 : decode cX3_beginAnew 17 = .ok (.return_, 1) := by decide +kernel
theorem dX3_becomeLike_0 : decode cX3_becomeLike 0 = .ok (.aload_n 0, 1) := by decide +kernel
theorem dX3_becomeLike_1 : decode cX3_becomeLike 1 = .ok (.getfield 12, 3) := by decide +kernel
theorem dX3_becomeLike_4 : decode cX3_becomeLike 4 = .ok (.aload_n 1, 1) := by decide +kernel
theorem dX3_becomeLike_5 : decode cX3_becomeLike 5 = .ok (.getfield 12, 3) := by decide +kernel
theorem dX3_becomeLike_8 : decode cX3_becomeLike 8 = .ok (.invokevirtual 32, 3) := by decide +kernel
theorem dX3_becomeLike_11 : decode cX3_becomeLike 11 = .ok (.aload_n 0, 1) := by decide +kernel
theorem dX3_becomeLike_12 : decode cX3_becomeLike 12 = .ok (.aload_n 1, 1) := by decide +kernel
theorem dX3_becomeLike_13 : decode cX3_becomeLike 13 = .ok (.getfield 25, 3) := by decide +kernel
theorem dX3_becomeLike_16 : decode cX3_becomeLike 16 = .ok (.putfield 25, 3) := by decide +kernel
theorem dX3_becomeLike_19 : decode cX3_becomeLike 19 = .ok (.aload_n 0, 1) := by decide +kernel
theorem dX3_becomeLike_20 : decode cX3_becomeLike 20 = .ok (.aload_n 1, 1) := by decide +kernel
theorem dX3_becomeLike_21 : decode cX3_becomeLike 21 = .ok (.getfield 29, 3) := by decide +kernel
theorem dX3_becomeLike_24 : decode cX3_becomeLike 24 = .ok (.putfield 29, 3) := by decide +kernel
theorem dX3_becomeLike_27 : decode cX3_becomeLike 27 = .ok (.return_, 1) := by decide +kernel
theorem dX3_liveDays_0 : decode cX3_liveDays 0 = .ok (.iconst 0, 1) := by decide +kernel
theorem dX3_liveDays_1 : decode cX3_liveDays 1 = .ok (.istore_n 3, 1) := by decide +kernel
theorem dX3_liveDays_2 : decode cX3_liveDays 2 = .ok (.iload_n 3, 1) := by decide +kernel
theorem dX3_liveDays_3 : decode cX3_liveDays 3 = .ok (.iload_n 1, 1) := by decide +kernel
theorem dX3_liveDays_4 : decode cX3_liveDays 4 = .ok (.if_icmp .ge 76, 3) := by decide +kernel
theorem dX3_liveDays_7 : decode cX3_liveDays 7 = .ok (.iconst 0, 1) := by decide +kernel
theorem dX3_liveDays_8 : decode cX3_liveDays 8 = .ok (.istore 4, 2) := by decide +kernel
theorem dX3_liveDays_10 : decode cX3_liveDays 10 = .ok (.iload 4, 2) := by decide +kernel
theorem dX3_liveDays_12 : decode cX3_liveDays 12 = .ok (.aload_n 2, 1) := by decide +kernel
theorem dX3_liveDays_13 : decode cX3_liveDays 13 = .ok (.getfield 36, 3) := by decide +kernel
theorem dX3_liveDays_16 : decode cX3_liveDays 16 = .ok (.if_icmp .ge 48, 3) := by decide +kernel
theorem dX3_liveDays_19 : decode cX3_liveDays 19 = .ok (.aload_n 2, 1) := by decide +kernel
theorem dX3_liveDays_20 : decode cX3_liveDays 20 = .ok (.getfield 41, 3) := by decide +kernel
theorem dX3_liveDays_23 : decode cX3_liveDays 23 = .ok (.iload 4, 2) := by decide +kernel
theorem dX3_liveDays_25 : decode cX3_liveDays 25 = .ok (.aaload, 1) := by decide +kernel
theorem dX3_liveDays_26 : decode cX3_liveDays 26 = .ok (.astore 5, 2) := by decide +kernel
theorem dX3_liveDays_28 : decode cX3_liveDays 28 = .ok (.aload_n 0, 1) := by decide +kernel
theorem dX3_liveDays_29 : decode cX3_liveDays 29 = .ok (.aload 5, 2) := by decide +kernel
theorem dX3_liveDays_31 : decode cX3_liveDays 31 = .ok (.aload_n 2, 1) := by decide +kernel
theorem dX3_liveDays_32 : decode cX3_liveDays 32 = .ok (.invokevirtual 45, 3) := by decide +kernel
theorem dX3_liveDays_35 : decode cX3_liveDays 35 = .ok (.ifCond .eq 23, 3) := by decide +kernel
theorem dX3_liveDays_38 : decode cX3_liveDays 38 = .ok (.aload_n 0, 1) := by decide +kernel
theorem dX3_liveDays_39 : decode cX3_liveDays 39 = .ok (.aload 5, 2) := by decide +kernel
theorem dX3_liveDays_41 : decode cX3_liveDays 41 = .ok (.aload_n 2, 1) := by decide +kernel
theorem dX3_liveDays_42 : decode cX3_liveDays 42 = .ok (.invokevirtual 49, 3) := by decide +kernel
theorem dX3_liveDays_45 : decode cX3_liveDays 45 = .ok (.ifCond .eq 13, 3) := by decide +kernel
theorem dX3_liveDays_48 : decode cX3_liveDays 48 = .ok (.aload_n 0, 1) := by decide +kernel
theorem dX3_liveDays_49 : decode cX3_liveDays 49 = .ok (.dup, 1) := by decide +kernel
theorem dX3_liveDays_50 : decode cX3_liveDays 50 = .ok (.getfield 29, 3) := by decide +kernel
theorem dX3_liveDays_53 : decode cX3_liveDays 53 = .ok (.iconst 1, 1) := by decide +kernel
theorem dX3_liveDays_54 : decode cX3_liveDays 54 = .ok (.iadd, 1) := by decide +kernel
theorem dX3_liveDays_55 : decode cX3_liveDays 55 = .ok (.putfield 29, 3) := by decide +kernel
theorem dX3_liveDays_58 : decode cX3_liveDays 58 = .ok (.iinc 4 1, 3) := by decide +kernel
theorem dX3_liveDays_61 : decode cX3_liveDays 61 = .ok (.goto (-51), 3) := by decide +kernel
theorem dX3_liveDays_64 : decode cX3_liveDays 64 = .ok (.aload_n 0, 1) := by decide +kernel
theorem dX3_liveDays_65 : decode cX3_liveDays 65 = .ok (.dup, 1) := by decide +kernel
theorem dX3_liveDays_66 : decode cX3_liveDays 66 = .ok (.getfield 25, 3) := by decide +kernel
theorem dX3_liveDays_69 : decode cX3_liveDays 69 = .ok (.iconst 1, 1) := by decide +kernel
theorem dX3_liveDays_70 : decode cX3_liveDays 70 = .ok (.iadd, 1) := by decide +kernel
theorem dX3_liveDays_71 : decode cX3_liveDays 71 = .ok (.putfield 25, 3) := by decide +kernel
theorem dX3_liveDays_74 : decode cX3_liveDays 74 = .ok (.iinc 3 1, 3) := by decide +kernel
theorem dX3_liveDays_77 : decode cX3_liveDays 77 = .ok (.goto (-75), 3) := by decide +kernel
theorem dX3_liveDays_80 : decode cX3_liveDays 80 = .ok (.return_, 1) := by decide +kernel
theorem dX3_holds_0 : decode cX3_holds 0 = .ok (.aload_n 1, 1) := by decide +kernel
theorem dX3_holds_1 : decode cX3_holds 1 = .ok (.getfield 52, 3) := by decide +kernel
theorem dX3_holds_4 : decode cX3_holds 4 = .ok (.aload_n 1, 1) := by decide +kernel
theorem dX3_holds_5 : decode cX3_holds 5 = .ok (.getfield 57, 3) := by decide +kernel
theorem dX3_holds_8 : decode cX3_holds 8 = .ok (.if_icmp .eq 19, 3) := by decide +kernel
theorem dX3_holds_11 : decode cX3_holds 11 = .ok (.aload_n 0, 1) := by decide +kernel
theorem dX3_holds_12 : decode cX3_holds 12 = .ok (.aload_n 1, 1) := by decide +kernel
theorem dX3_holds_13 : decode cX3_holds 13 = .ok (.getfield 52, 3) := by decide +kernel
theorem dX3_holds_16 : decode cX3_holds 16 = .ok (.aload_n 1, 1) := by decide +kernel
theorem dX3_holds_17 : decode cX3_holds 17 = .ok (.getfield 57, 3) := by decide +kernel
theorem dX3_holds_20 : decode cX3_holds 20 = .ok (.aload_n 2, 1) := by decide +kernel
theorem dX3_holds_21 : decode cX3_holds 21 = .ok (.invokevirtual 60, 3) := by decide +kernel
theorem dX3_holds_24 : decode cX3_holds 24 = .ok (.ifCond .eq 7, 3) := by decide +kernel
theorem dX3_holds_27 : decode cX3_holds 27 = .ok (.iconst 1, 1) := by decide +kernel
theorem dX3_holds_28 : decode cX3_holds 28 = .ok (.goto 4, 3) := by decide +kernel
theorem dX3_holds_31 : decode cX3_holds 31 = .ok (.iconst 0, 1) := by decide +kernel
theorem dX3_holds_32 : decode cX3_holds 32 = .ok (.ireturn, 1) := by decide +kernel
theorem dX3_carryOut_0 : decode cX3_carryOut 0 = .ok (.getstatic 64, 3) := by decide +kernel
theorem dX3_carryOut_3 : decode cX3_carryOut 3 = .ok (.aload_n 1, 1) := by decide +kernel
theorem dX3_carryOut_4 : decode cX3_carryOut 4 = .ok (.getfield 69, 3) := by decide +kernel
theorem dX3_carryOut_7 : decode cX3_carryOut 7 = .ok (.invokevirtual 73, 3) := by decide +kernel
theorem dX3_carryOut_10 : decode cX3_carryOut 10 = .ok (.iaload, 1) := by decide +kernel
theorem dX3_carryOut_11 : decode cX3_carryOut 11 = .ok (.tableswitch 95 15 18 #[29, 42, 59, 77], 29) := by decide +kernel
theorem dX3_carryOut_40 : decode cX3_carryOut 40 = .ok (.aload_n 0, 1) := by decide +kernel
theorem dX3_carryOut_41 : decode cX3_carryOut 41 = .ok (.getfield 12, 3) := by decide +kernel
theorem dX3_carryOut_44 : decode cX3_carryOut 44 = .ok (.aload_n 1, 1) := by decide +kernel
theorem dX3_carryOut_45 : decode cX3_carryOut 45 = .ok (.getfield 79, 3) := by decide +kernel
theorem dX3_carryOut_48 : decode cX3_carryOut 48 = .ok (.invokevirtual 83, 3) := by decide +kernel
theorem dX3_carryOut_51 : decode cX3_carryOut 51 = .ok (.iconst 1, 1) := by decide +kernel
theorem dX3_carryOut_52 : decode cX3_carryOut 52 = .ok (.ireturn, 1) := by decide +kernel
theorem dX3_carryOut_53 : decode cX3_carryOut 53 = .ok (.aload_n 0, 1) := by decide +kernel
theorem dX3_carryOut_54 : decode cX3_carryOut 54 = .ok (.getfield 12, 3) := by decide +kernel
theorem dX3_carryOut_57 : decode cX3_carryOut 57 = .ok (.aload_n 2, 1) := by decide +kernel
theorem dX3_carryOut_58 : decode cX3_carryOut 58 = .ok (.aload_n 1, 1) := by decide +kernel
theorem dX3_carryOut_59 : decode cX3_carryOut 59 = .ok (.getfield 87, 3) := by decide +kernel
theorem dX3_carryOut_62 : decode cX3_carryOut 62 = .ok (.invokevirtual 90, 3) := by decide +kernel
theorem dX3_carryOut_65 : decode cX3_carryOut 65 = .ok (.invokevirtual 83, 3) := by decide +kernel
theorem dX3_carryOut_68 : decode cX3_carryOut 68 = .ok (.iconst 1, 1) := by decide +kernel
theorem dX3_carryOut_69 : decode cX3_carryOut 69 = .ok (.ireturn, 1) := by decide +kernel
theorem dX3_carryOut_70 : decode cX3_carryOut 70 = .ok (.aload_n 0, 1) := by decide +kernel
theorem dX3_carryOut_71 : decode cX3_carryOut 71 = .ok (.aload_n 0, 1) := by decide +kernel
theorem dX3_carryOut_72 : decode cX3_carryOut 72 = .ok (.aload_n 1, 1) := by decide +kernel
theorem dX3_carryOut_73 : decode cX3_carryOut 73 = .ok (.getfield 94, 3) := by decide +kernel
theorem dX3_carryOut_76 : decode cX3_carryOut 76 = .ok (.aload_n 1, 1) := by decide +kernel
theorem dX3_carryOut_77 : decode cX3_carryOut 77 = .ok (.getfield 52, 3) := by decide +kernel
theorem dX3_carryOut_80 : decode cX3_carryOut 80 = .ok (.aload_n 2, 1) := by decide +kernel
theorem dX3_carryOut_81 : decode cX3_carryOut 81 = .ok (.invokevirtual 60, 3) := by decide +kernel
theorem dX3_carryOut_84 : decode cX3_carryOut 84 = .ok (.invokevirtual 97, 3) := by decide +kernel
theorem dX3_carryOut_87 : decode cX3_carryOut 87 = .ok (.ireturn, 1) := by decide +kernel
theorem dX3_carryOut_88 : decode cX3_carryOut 88 = .ok (.aload_n 0, 1) := by decide +kernel
theorem dX3_carryOut_89 : decode cX3_carryOut 89 = .ok (.aload_n 0, 1) := by decide +kernel
theorem dX3_carryOut_90 : decode cX3_carryOut 90 = .ok (.aload_n 1, 1) := by decide +kernel
theorem dX3_carryOut_91 : decode cX3_carryOut 91 = .ok (.getfield 94, 3) := by decide +kernel
theorem dX3_carryOut_94 : decode cX3_carryOut 94 = .ok (.aload_n 1, 1) := by decide +kernel
theorem dX3_carryOut_95 : decode cX3_carryOut 95 = .ok (.getfield 52, 3) := by decide +kernel
theorem dX3_carryOut_98 : decode cX3_carryOut 98 = .ok (.aload_n 2, 1) := by decide +kernel
theorem dX3_carryOut_99 : decode cX3_carryOut 99 = .ok (.invokevirtual 60, 3) := by decide +kernel
theorem dX3_carryOut_102 : decode cX3_carryOut 102 = .ok (.invokevirtual 101, 3) := by decide +kernel
theorem dX3_carryOut_105 : decode cX3_carryOut 105 = .ok (.ireturn, 1) := by decide +kernel
theorem dX3_carryOut_106 : decode cX3_carryOut 106 = .ok (.iconst 0, 1) := by decide +kernel
theorem dX3_carryOut_107 : decode cX3_carryOut 107 = .ok (.ireturn, 1) := by decide +kernel
theorem dX3_echoSum_0 : decode cX3_echoSum 0 = .ok (.iload_n 1, 1) := by decide +kernel
theorem dX3_echoSum_1 : decode cX3_echoSum 1 = .ok (.ifCond .le 17, 3) := by decide +kernel
theorem dX3_echoSum_4 : decode cX3_echoSum 4 = .ok (.aload_n 0, 1) := by decide +kernel
theorem dX3_echoSum_5 : decode cX3_echoSum 5 = .ok (.getfield 12, 3) := by decide +kernel
theorem dX3_echoSum_8 : decode cX3_echoSum 8 = .ok (.getfield 104, 3) := by decide +kernel
theorem dX3_echoSum_11 : decode cX3_echoSum 11 = .ok (.ifCond .le 7, 3) := by decide +kernel
theorem dX3_echoSum_14 : decode cX3_echoSum 14 = .ok (.iconst 1, 1) := by decide +kernel
theorem dX3_echoSum_15 : decode cX3_echoSum 15 = .ok (.goto 4, 3) := by decide +kernel
theorem dX3_echoSum_18 : decode cX3_echoSum 18 = .ok (.iconst 0, 1) := by decide +kernel
theorem dX3_echoSum_19 : decode cX3_echoSum 19 = .ok (.istore_n 2, 1) := by decide +kernel
theorem dX3_echoSum_20 : decode cX3_echoSum 20 = .ok (.aload_n 0, 1) := by decide +kernel
theorem dX3_echoSum_21 : decode cX3_echoSum 21 = .ok (.getfield 12, 3) := by decide +kernel
theorem dX3_echoSum_24 : decode cX3_echoSum 24 = .ok (.iload_n 1, 1) := by decide +kernel
theorem dX3_echoSum_25 : decode cX3_echoSum 25 = .ok (.invokevirtual 107, 3) := by decide +kernel
theorem dX3_echoSum_28 : decode cX3_echoSum 28 = .ok (.iload_n 2, 1) := by decide +kernel
theorem dX3_echoSum_29 : decode cX3_echoSum 29 = .ok (.ireturn, 1) := by decide +kernel
theorem dX3_forgetSum_0 : decode cX3_forgetSum 0 = .ok (.iload_n 1, 1) := by decide +kernel
theorem dX3_forgetSum_1 : decode cX3_forgetSum 1 = .ok (.ifCond .le 17, 3) := by decide +kernel
theorem dX3_forgetSum_4 : decode cX3_forgetSum 4 = .ok (.aload_n 0, 1) := by decide +kernel
theorem dX3_forgetSum_5 : decode cX3_forgetSum 5 = .ok (.getfield 12, 3) := by decide +kernel
theorem dX3_forgetSum_8 : decode cX3_forgetSum 8 = .ok (.getfield 104, 3) := by decide +kernel
theorem dX3_forgetSum_11 : decode cX3_forgetSum 11 = .ok (.ifCond .le 7, 3) := by decide +kernel
theorem dX3_forgetSum_14 : decode cX3_forgetSum 14 = .ok (.iconst 1, 1) := by decide +kernel
theorem dX3_forgetSum_15 : decode cX3_forgetSum 15 = .ok (.goto 4, 3) := by decide +kernel
theorem dX3_forgetSum_18 : decode cX3_forgetSum 18 = .ok (.iconst 0, 1) := by decide +kernel
theorem dX3_forgetSum_19 : decode cX3_forgetSum 19 = .ok (.istore_n 2, 1) := by decide +kernel
theorem dX3_forgetSum_20 : decode cX3_forgetSum 20 = .ok (.aload_n 0, 1) := by decide +kernel
theorem dX3_forgetSum_21 : decode cX3_forgetSum 21 = .ok (.getfield 12, 3) := by decide +kernel
theorem dX3_forgetSum_24 : decode cX3_forgetSum 24 = .ok (.iload_n 1, 1) := by decide +kernel
theorem dX3_forgetSum_25 : decode cX3_forgetSum 25 = .ok (.invokevirtual 111, 3) := by decide +kernel
theorem dX3_forgetSum_28 : decode cX3_forgetSum 28 = .ok (.iload_n 2, 1) := by decide +kernel
theorem dX3_forgetSum_29 : decode cX3_forgetSum 29 = .ok (.ireturn, 1) := by decide +kernel
theorem dX3_reckon_0 : decode cX3_reckon 0 = .ok (.aload_n 0, 1) := by decide +kernel
theorem dX3_reckon_1 : decode cX3_reckon 1 = .ok (.iconst 0, 1) := by decide +kernel
theorem dX3_reckon_2 : decode cX3_reckon 2 = .ok (.putfield 114, 3) := by decide +kernel
theorem dX3_reckon_5 : decode cX3_reckon 5 = .ok (.iload_n 1, 1) := by decide +kernel
theorem dX3_reckon_6 : decode cX3_reckon 6 = .ok (.istore 4, 2) := by decide +kernel
theorem dX3_reckon_8 : decode cX3_reckon 8 = .ok (.iload 4, 2) := by decide +kernel
theorem dX3_reckon_10 : decode cX3_reckon 10 = .ok (.ifCond .lt 42, 3) := by decide +kernel
theorem dX3_reckon_13 : decode cX3_reckon 13 = .ok (.iload 4, 2) := by decide +kernel
theorem dX3_reckon_15 : decode cX3_reckon 15 = .ok (.iload_n 2, 1) := by decide +kernel
theorem dX3_reckon_16 : decode cX3_reckon 16 = .ok (.if_icmp .ge 36, 3) := by decide +kernel
theorem dX3_reckon_19 : decode cX3_reckon 19 = .ok (.iload 4, 2) := by decide +kernel
theorem dX3_reckon_21 : decode cX3_reckon 21 = .ok (.sipush 400, 3) := by decide +kernel
theorem dX3_reckon_24 : decode cX3_reckon 24 = .ok (.if_icmp .ge 28, 3) := by decide +kernel
theorem dX3_reckon_27 : decode cX3_reckon 27 = .ok (.aload_n 0, 1) := by decide +kernel
theorem dX3_reckon_28 : decode cX3_reckon 28 = .ok (.aload_n 3, 1) := by decide +kernel
theorem dX3_reckon_29 : decode cX3_reckon 29 = .ok (.getfield 117, 3) := by decide +kernel
theorem dX3_reckon_32 : decode cX3_reckon 32 = .ok (.iload 4, 2) := by decide +kernel
theorem dX3_reckon_34 : decode cX3_reckon 34 = .ok (.aaload, 1) := by decide +kernel
theorem dX3_reckon_35 : decode cX3_reckon 35 = .ok (.aload_n 3, 1) := by decide +kernel
theorem dX3_reckon_36 : decode cX3_reckon 36 = .ok (.getfield 121, 3) := by decide +kernel
theorem dX3_reckon_39 : decode cX3_reckon 39 = .ok (.iload 4, 2) := by decide +kernel
theorem dX3_reckon_41 : decode cX3_reckon 41 = .ok (.iaload, 1) := by decide +kernel
theorem dX3_reckon_42 : decode cX3_reckon 42 = .ok (.aload_n 3, 1) := by decide +kernel
theorem dX3_reckon_43 : decode cX3_reckon 43 = .ok (.invokevirtual 124, 3) := by decide +kernel
theorem dX3_reckon_46 : decode cX3_reckon 46 = .ok (.iinc 4 1, 3) := by decide +kernel
theorem dX3_reckon_49 : decode cX3_reckon 49 = .ok (.goto (-41), 3) := by decide +kernel
theorem dX3_reckon_52 : decode cX3_reckon 52 = .ok (.aload_n 0, 1) := by decide +kernel
theorem dX3_reckon_53 : decode cX3_reckon 53 = .ok (.invokevirtual 128, 3) := by decide +kernel
theorem dX3_reckon_56 : decode cX3_reckon 56 = .ok (.ireturn, 1) := by decide +kernel
theorem dX3_doStep_0 : decode cX3_doStep 0 = .ok (.getstatic 64, 3) := by decide +kernel
theorem dX3_doStep_3 : decode cX3_doStep 3 = .ok (.aload_n 1, 1) := by decide +kernel
theorem dX3_doStep_4 : decode cX3_doStep 4 = .ok (.invokevirtual 73, 3) := by decide +kernel
theorem dX3_doStep_7 : decode cX3_doStep 7 = .ok (.iaload, 1) := by decide +kernel
theorem dX3_doStep_8 : decode cX3_doStep 8 = .ok (.tableswitch 247 1 19 #[225, 247, 191, 92, 100, 111, 125, 139, 153, 172, 247, 247, 247, 247, 247, 247, 247, 247, 213], 92) := by decide +kernel
theorem dX3_doStep_100 : decode cX3_doStep 100 = .ok (.aload_n 0, 1) := by decide +kernel
theorem dX3_doStep_101 : decode cX3_doStep 101 = .ok (.iload_n 2, 1) := by decide +kernel
theorem dX3_doStep_102 : decode cX3_doStep 102 = .ok (.invokevirtual 131, 3) := by decide +kernel
theorem dX3_doStep_105 : decode cX3_doStep 105 = .ok (.goto 155, 3) := by decide +kernel
theorem dX3_doStep_108 : decode cX3_doStep 108 = .ok (.aload_n 0, 1) := by decide +kernel
theorem dX3_doStep_109 : decode cX3_doStep 109 = .ok (.aload_n 0, 1) := by decide +kernel
theorem dX3_doStep_110 : decode cX3_doStep 110 = .ok (.getfield 25, 3) := by decide +kernel
theorem dX3_doStep_113 : decode cX3_doStep 113 = .ok (.invokevirtual 131, 3) := by decide +kernel
theorem dX3_doStep_116 : decode cX3_doStep 116 = .ok (.goto 144, 3) := by decide +kernel
theorem dX3_doStep_119 : decode cX3_doStep 119 = .ok (.aload_n 0, 1) := by decide +kernel
theorem dX3_doStep_120 : decode cX3_doStep 120 = .ok (.aload_n 0, 1) := by decide +kernel
theorem dX3_doStep_121 : decode cX3_doStep 121 = .ok (.getfield 12, 3) := by decide +kernel
theorem dX3_doStep_124 : decode cX3_doStep 124 = .ok (.getfield 104, 3) := by decide +kernel
theorem dX3_doStep_127 : decode cX3_doStep 127 = .ok (.invokevirtual 131, 3) := by decide +kernel
theorem dX3_doStep_130 : decode cX3_doStep 130 = .ok (.goto 130, 3) := by decide +kernel
theorem dX3_doStep_133 : decode cX3_doStep 133 = .ok (.aload_n 0, 1) := by decide +kernel
theorem dX3_doStep_134 : decode cX3_doStep 134 = .ok (.aload_n 0, 1) := by decide +kernel
theorem dX3_doStep_135 : decode cX3_doStep 135 = .ok (.getfield 12, 3) := by decide +kernel
theorem dX3_doStep_138 : decode cX3_doStep 138 = .ok (.invokevirtual 134, 3) := by decide +kernel
theorem dX3_doStep_141 : decode cX3_doStep 141 = .ok (.invokevirtual 131, 3) := by decide +kernel
theorem dX3_doStep_144 : decode cX3_doStep 144 = .ok (.goto 116, 3) := by decide +kernel
theorem dX3_doStep_147 : decode cX3_doStep 147 = .ok (.aload_n 0, 1) := by decide +kernel
theorem dX3_doStep_148 : decode cX3_doStep 148 = .ok (.aload_n 0, 1) := by decide +kernel
theorem dX3_doStep_149 : decode cX3_doStep 149 = .ok (.getfield 12, 3) := by decide +kernel
theorem dX3_doStep_152 : decode cX3_doStep 152 = .ok (.invokevirtual 137, 3) := by decide +kernel
theorem dX3_doStep_155 : decode cX3_doStep 155 = .ok (.invokevirtual 131, 3) := by decide +kernel
theorem dX3_doStep_158 : decode cX3_doStep 158 = .ok (.goto 102, 3) := by decide +kernel
theorem dX3_doStep_161 : decode cX3_doStep 161 = .ok (.aload_n 0, 1) := by decide +kernel
theorem dX3_doStep_162 : decode cX3_doStep 162 = .ok (.aload_n 0, 1) := by decide +kernel
theorem dX3_doStep_163 : decode cX3_doStep 163 = .ok (.getfield 12, 3) := by decide +kernel
theorem dX3_doStep_166 : decode cX3_doStep 166 = .ok (.aload_n 3, 1) := by decide +kernel
theorem dX3_doStep_167 : decode cX3_doStep 167 = .ok (.iload_n 2, 1) := by decide +kernel
theorem dX3_doStep_168 : decode cX3_doStep 168 = .ok (.invokevirtual 90, 3) := by decide +kernel
theorem dX3_doStep_171 : decode cX3_doStep 171 = .ok (.invokevirtual 140, 3) := by decide +kernel
theorem dX3_doStep_174 : decode cX3_doStep 174 = .ok (.invokevirtual 131, 3) := by decide +kernel
theorem dX3_doStep_177 : decode cX3_doStep 177 = .ok (.goto 83, 3) := by decide +kernel
theorem dX3_doStep_180 : decode cX3_doStep 180 = .ok (.aload_n 0, 1) := by decide +kernel
theorem dX3_doStep_181 : decode cX3_doStep 181 = .ok (.aload_n 0, 1) := by decide +kernel
theorem dX3_doStep_182 : decode cX3_doStep 182 = .ok (.getfield 12, 3) := by decide +kernel
theorem dX3_doStep_185 : decode cX3_doStep 185 = .ok (.aload_n 3, 1) := by decide +kernel
theorem dX3_doStep_186 : decode cX3_doStep 186 = .ok (.iload_n 2, 1) := by decide +kernel
theorem dX3_doStep_187 : decode cX3_doStep 187 = .ok (.invokevirtual 90, 3) := by decide +kernel
theorem dX3_doStep_190 : decode cX3_doStep 190 = .ok (.invokevirtual 144, 3) := by decide +kernel
theorem dX3_doStep_193 : decode cX3_doStep 193 = .ok (.invokevirtual 131, 3) := by decide +kernel
theorem dX3_doStep_196 : decode cX3_doStep 196 = .ok (.goto 64, 3) := by decide +kernel
theorem dX3_doStep_199 : decode cX3_doStep 199 = .ok (.aload_n 0, 1) := by decide +kernel
theorem dX3_doStep_200 : decode cX3_doStep 200 = .ok (.aload_n 0, 1) := by decide +kernel
theorem dX3_doStep_201 : decode cX3_doStep 201 = .ok (.getfield 12, 3) := by decide +kernel
theorem dX3_doStep_204 : decode cX3_doStep 204 = .ok (.aload_n 3, 1) := by decide +kernel
theorem dX3_doStep_205 : decode cX3_doStep 205 = .ok (.iload_n 2, 1) := by decide +kernel
theorem dX3_doStep_206 : decode cX3_doStep 206 = .ok (.invokevirtual 90, 3) := by decide +kernel
theorem dX3_doStep_209 : decode cX3_doStep 209 = .ok (.invokevirtual 147, 3) := by decide +kernel
theorem dX3_doStep_212 : decode cX3_doStep 212 = .ok (.invokestatic 151, 3) := by decide +kernel
theorem dX3_doStep_215 : decode cX3_doStep 215 = .ok (.invokevirtual 131, 3) := by decide +kernel
theorem dX3_doStep_218 : decode cX3_doStep 218 = .ok (.goto 42, 3) := by decide +kernel
theorem dX3_doStep_221 : decode cX3_doStep 221 = .ok (.aload_n 0, 1) := by decide +kernel
theorem dX3_doStep_222 : decode cX3_doStep 222 = .ok (.aload_n 0, 1) := by decide +kernel
theorem dX3_doStep_223 : decode cX3_doStep 223 = .ok (.invokevirtual 128, 3) := by decide +kernel
theorem dX3_doStep_226 : decode cX3_doStep 226 = .ok (.ineg, 1) := by decide +kernel
theorem dX3_doStep_227 : decode cX3_doStep 227 = .ok (.invokevirtual 131, 3) := by decide +kernel
theorem dX3_doStep_230 : decode cX3_doStep 230 = .ok (.goto 30, 3) := by decide +kernel
theorem dX3_doStep_233 : decode cX3_doStep 233 = .ok (.aload_n 0, 1) := by decide +kernel
theorem dX3_doStep_234 : decode cX3_doStep 234 = .ok (.aload_n 0, 1) := by decide +kernel
theorem dX3_doStep_235 : decode cX3_doStep 235 = .ok (.invokevirtual 128, 3) := by decide +kernel
theorem dX3_doStep_238 : decode cX3_doStep 238 = .ok (.ifCond .ne 7, 3) := by decide +kernel
theorem dX3_doStep_241 : decode cX3_doStep 241 = .ok (.iconst 1, 1) := by decide +kernel
theorem dX3_doStep_242 : decode cX3_doStep 242 = .ok (.goto 4, 3) := by decide +kernel
theorem dX3_doStep_245 : decode cX3_doStep 245 = .ok (.iconst 0, 1) := by decide +kernel
theorem dX3_doStep_246 : decode cX3_doStep 246 = .ok (.invokestatic 151, 3) := by decide +kernel
theorem dX3_doStep_249 : decode cX3_doStep 249 = .ok (.invokevirtual 131, 3) := by decide +kernel
theorem dX3_doStep_252 : decode cX3_doStep 252 = .ok (.goto 8, 3) := by decide +kernel
theorem dX3_doStep_255 : decode cX3_doStep 255 = .ok (.aload_n 0, 1) := by decide +kernel
theorem dX3_doStep_256 : decode cX3_doStep 256 = .ok (.aload_n 1, 1) := by decide +kernel
theorem dX3_doStep_257 : decode cX3_doStep 257 = .ok (.invokevirtual 155, 3) := by decide +kernel
theorem dX3_doStep_260 : decode cX3_doStep 260 = .ok (.return_, 1) := by decide +kernel
theorem dX3_joinTwo_0 : decode cX3_joinTwo 0 = .ok (.aload_n 0, 1) := by decide +kernel
theorem dX3_joinTwo_1 : decode cX3_joinTwo 1 = .ok (.invokevirtual 128, 3) := by decide +kernel
theorem dX3_joinTwo_4 : decode cX3_joinTwo 4 = .ok (.istore_n 2, 1) := by decide +kernel
theorem dX3_joinTwo_5 : decode cX3_joinTwo 5 = .ok (.aload_n 0, 1) := by decide +kernel
theorem dX3_joinTwo_6 : decode cX3_joinTwo 6 = .ok (.invokevirtual 128, 3) := by decide +kernel
theorem dX3_joinTwo_9 : decode cX3_joinTwo 9 = .ok (.istore_n 3, 1) := by decide +kernel
theorem dX3_joinTwo_10 : decode cX3_joinTwo 10 = .ok (.getstatic 64, 3) := by decide +kernel
theorem dX3_joinTwo_13 : decode cX3_joinTwo 13 = .ok (.aload_n 1, 1) := by decide +kernel
theorem dX3_joinTwo_14 : decode cX3_joinTwo 14 = .ok (.invokevirtual 73, 3) := by decide +kernel
theorem dX3_joinTwo_17 : decode cX3_joinTwo 17 = .ok (.iaload, 1) := by decide +kernel
theorem dX3_joinTwo_18 : decode cX3_joinTwo 18 = .ok (.tableswitch 162 11 24 #[80, 162, 118, 130, 162, 162, 162, 162, 162, 70, 90, 100, 142, 152], 70) := by decide +kernel
theorem dX3_joinTwo_88 : decode cX3_joinTwo 88 = .ok (.aload_n 0, 1) := by decide +kernel
theorem dX3_joinTwo_89 : decode cX3_joinTwo 89 = .ok (.iload_n 3, 1) := by decide +kernel
theorem dX3_joinTwo_90 : decode cX3_joinTwo 90 = .ok (.iload_n 2, 1) := by decide +kernel
theorem dX3_joinTwo_91 : decode cX3_joinTwo 91 = .ok (.iadd, 1) := by decide +kernel
theorem dX3_joinTwo_92 : decode cX3_joinTwo 92 = .ok (.invokevirtual 131, 3) := by decide +kernel
theorem dX3_joinTwo_95 : decode cX3_joinTwo 95 = .ok (.goto 98, 3) := by decide +kernel
theorem dX3_joinTwo_98 : decode cX3_joinTwo 98 = .ok (.aload_n 0, 1) := by decide +kernel
theorem dX3_joinTwo_99 : decode cX3_joinTwo 99 = .ok (.iload_n 3, 1) := by decide +kernel
theorem dX3_joinTwo_100 : decode cX3_joinTwo 100 = .ok (.iload_n 2, 1) := by decide +kernel
theorem dX3_joinTwo_101 : decode cX3_joinTwo 101 = .ok (.isub, 1) := by decide +kernel
theorem dX3_joinTwo_102 : decode cX3_joinTwo 102 = .ok (.invokevirtual 131, 3) := by decide +kernel
theorem dX3_joinTwo_105 : decode cX3_joinTwo 105 = .ok (.goto 88, 3) := by decide +kernel
theorem dX3_joinTwo_108 : decode cX3_joinTwo 108 = .ok (.aload_n 0, 1) := by decide +kernel
theorem dX3_joinTwo_109 : decode cX3_joinTwo 109 = .ok (.iload_n 3, 1) := by decide +kernel
theorem dX3_joinTwo_110 : decode cX3_joinTwo 110 = .ok (.iload_n 2, 1) := by decide +kernel
theorem dX3_joinTwo_111 : decode cX3_joinTwo 111 = .ok (.imul, 1) := by decide +kernel
theorem dX3_joinTwo_112 : decode cX3_joinTwo 112 = .ok (.invokevirtual 131, 3) := by decide +kernel
theorem dX3_joinTwo_115 : decode cX3_joinTwo 115 = .ok (.goto 78, 3) := by decide +kernel
theorem dX3_joinTwo_118 : decode cX3_joinTwo 118 = .ok (.aload_n 0, 1) := by decide +kernel
theorem dX3_joinTwo_119 : decode cX3_joinTwo 119 = .ok (.iload_n 2, 1) := by decide +kernel
theorem dX3_joinTwo_120 : decode cX3_joinTwo 120 = .ok (.ifCond .ne 7, 3) := by decide +kernel
theorem dX3_joinTwo_123 : decode cX3_joinTwo 123 = .ok (.iconst 0, 1) := by decide +kernel
theorem dX3_joinTwo_124 : decode cX3_joinTwo 124 = .ok (.goto 6, 3) := by decide +kernel
theorem dX3_joinTwo_127 : decode cX3_joinTwo 127 = .ok (.iload_n 3, 1) := by decide +kernel
theorem dX3_joinTwo_128 : decode cX3_joinTwo 128 = .ok (.iload_n 2, 1) := by decide +kernel
theorem dX3_joinTwo_129 : decode cX3_joinTwo 129 = .ok (.idiv, 1) := by decide +kernel
theorem dX3_joinTwo_130 : decode cX3_joinTwo 130 = .ok (.invokevirtual 131, 3) := by decide +kernel
theorem dX3_joinTwo_133 : decode cX3_joinTwo 133 = .ok (.goto 60, 3) := by decide +kernel
theorem dX3_joinTwo_136 : decode cX3_joinTwo 136 = .ok (.aload_n 0, 1) := by decide +kernel
theorem dX3_joinTwo_137 : decode cX3_joinTwo 137 = .ok (.iload_n 3, 1) := by decide +kernel
theorem dX3_joinTwo_138 : decode cX3_joinTwo 138 = .ok (.iload_n 2, 1) := by decide +kernel
theorem dX3_joinTwo_139 : decode cX3_joinTwo 139 = .ok (.invokestatic 159, 3) := by decide +kernel
theorem dX3_joinTwo_142 : decode cX3_joinTwo 142 = .ok (.invokevirtual 131, 3) := by decide +kernel
theorem dX3_joinTwo_145 : decode cX3_joinTwo 145 = .ok (.goto 48, 3) := by decide +kernel
theorem dX3_joinTwo_148 : decode cX3_joinTwo 148 = .ok (.aload_n 0, 1) := by decide +kernel
theorem dX3_joinTwo_149 : decode cX3_joinTwo 149 = .ok (.iload_n 3, 1) := by decide +kernel
theorem dX3_joinTwo_150 : decode cX3_joinTwo 150 = .ok (.iload_n 2, 1) := by decide +kernel
theorem dX3_joinTwo_151 : decode cX3_joinTwo 151 = .ok (.invokestatic 165, 3) := by decide +kernel
theorem dX3_joinTwo_154 : decode cX3_joinTwo 154 = .ok (.invokevirtual 131, 3) := by decide +kernel
theorem dX3_joinTwo_157 : decode cX3_joinTwo 157 = .ok (.goto 36, 3) := by decide +kernel
theorem dX3_joinTwo_160 : decode cX3_joinTwo 160 = .ok (.aload_n 0, 1) := by decide +kernel
theorem dX3_joinTwo_161 : decode cX3_joinTwo 161 = .ok (.iload_n 3, 1) := by decide +kernel
theorem dX3_joinTwo_162 : decode cX3_joinTwo 162 = .ok (.iload_n 2, 1) := by decide +kernel
theorem dX3_joinTwo_163 : decode cX3_joinTwo 163 = .ok (.iand, 1) := by decide +kernel
theorem dX3_joinTwo_164 : decode cX3_joinTwo 164 = .ok (.invokevirtual 131, 3) := by decide +kernel
theorem dX3_joinTwo_167 : decode cX3_joinTwo 167 = .ok (.goto 26, 3) := by decide +kernel
theorem dX3_joinTwo_170 : decode cX3_joinTwo 170 = .ok (.aload_n 0, 1) := by decide +kernel
theorem dX3_joinTwo_171 : decode cX3_joinTwo 171 = .ok (.iload_n 3, 1) := by decide +kernel
theorem dX3_joinTwo_172 : decode cX3_joinTwo 172 = .ok (.iload_n 2, 1) := by decide +kernel
theorem dX3_joinTwo_173 : decode cX3_joinTwo 173 = .ok (.ior, 1) := by decide +kernel
theorem dX3_joinTwo_174 : decode cX3_joinTwo 174 = .ok (.invokevirtual 131, 3) := by decide +kernel
theorem dX3_joinTwo_177 : decode cX3_joinTwo 177 = .ok (.goto 16, 3) := by decide +kernel
theorem dX3_joinTwo_180 : decode cX3_joinTwo 180 = .ok (.aload_n 0, 1) := by decide +kernel
theorem dX3_joinTwo_181 : decode cX3_joinTwo 181 = .ok (.aload_n 1, 1) := by decide +kernel
theorem dX3_joinTwo_182 : decode cX3_joinTwo 182 = .ok (.iload_n 3, 1) := by decide +kernel
theorem dX3_joinTwo_183 : decode cX3_joinTwo 183 = .ok (.iload_n 2, 1) := by decide +kernel
theorem dX3_joinTwo_184 : decode cX3_joinTwo 184 = .ok (.invokestatic 168, 3) := by decide +kernel
theorem dX3_joinTwo_187 : decode cX3_joinTwo 187 = .ok (.invokestatic 151, 3) := by decide +kernel
theorem dX3_joinTwo_190 : decode cX3_joinTwo 190 = .ok (.invokevirtual 131, 3) := by decide +kernel
theorem dX3_joinTwo_193 : decode cX3_joinTwo 193 = .ok (.return_, 1) := by decide +kernel
theorem dX3_isSo_0 : decode cX3_isSo 0 = .ok (.getstatic 64, 3) := by decide +kernel
theorem dX3_isSo_3 : decode cX3_isSo 3 = .ok (.aload_n 0, 1) := by decide +kernel
theorem dX3_isSo_4 : decode cX3_isSo 4 = .ok (.invokevirtual 73, 3) := by decide +kernel
theorem dX3_isSo_7 : decode cX3_isSo 7 = .ok (.iaload, 1) := by decide +kernel
theorem dX3_isSo_8 : decode cX3_isSo 8 = .ok (.tableswitch 91 25 29 #[36, 47, 58, 69, 80], 36) := by decide +kernel
theorem dX3_isSo_44 : decode cX3_isSo 44 = .ok (.iload_n 1, 1) := by decide +kernel
theorem dX3_isSo_45 : decode cX3_isSo 45 = .ok (.iload_n 2, 1) := by decide +kernel
theorem dX3_isSo_46 : decode cX3_isSo 46 = .ok (.if_icmp .ge 7, 3) := by decide +kernel
theorem dX3_isSo_49 : decode cX3_isSo 49 = .ok (.iconst 1, 1) := by decide +kernel
theorem dX3_isSo_50 : decode cX3_isSo 50 = .ok (.goto 4, 3) := by decide +kernel
theorem dX3_isSo_53 : decode cX3_isSo 53 = .ok (.iconst 0, 1) := by decide +kernel
theorem dX3_isSo_54 : decode cX3_isSo 54 = .ok (.ireturn, 1) := by decide +kernel
theorem dX3_isSo_55 : decode cX3_isSo 55 = .ok (.iload_n 1, 1) := by decide +kernel
theorem dX3_isSo_56 : decode cX3_isSo 56 = .ok (.iload_n 2, 1) := by decide +kernel
theorem dX3_isSo_57 : decode cX3_isSo 57 = .ok (.if_icmp .le 7, 3) := by decide +kernel
theorem dX3_isSo_60 : decode cX3_isSo 60 = .ok (.iconst 1, 1) := by decide +kernel
theorem dX3_isSo_61 : decode cX3_isSo 61 = .ok (.goto 4, 3) := by decide +kernel
theorem dX3_isSo_64 : decode cX3_isSo 64 = .ok (.iconst 0, 1) := by decide +kernel
theorem dX3_isSo_65 : decode cX3_isSo 65 = .ok (.ireturn, 1) := by decide +kernel
theorem dX3_isSo_66 : decode cX3_isSo 66 = .ok (.iload_n 1, 1) := by decide +kernel
theorem dX3_isSo_67 : decode cX3_isSo 67 = .ok (.iload_n 2, 1) := by decide +kernel
theorem dX3_isSo_68 : decode cX3_isSo 68 = .ok (.if_icmp .ne 7, 3) := by decide +kernel
theorem dX3_isSo_71 : decode cX3_isSo 71 = .ok (.iconst 1, 1) := by decide +kernel
theorem dX3_isSo_72 : decode cX3_isSo 72 = .ok (.goto 4, 3) := by decide +kernel
theorem dX3_isSo_75 : decode cX3_isSo 75 = .ok (.iconst 0, 1) := by decide +kernel
theorem dX3_isSo_76 : decode cX3_isSo 76 = .ok (.ireturn, 1) := by decide +kernel
theorem dX3_isSo_77 : decode cX3_isSo 77 = .ok (.iload_n 1, 1) := by decide +kernel
theorem dX3_isSo_78 : decode cX3_isSo 78 = .ok (.iload_n 2, 1) := by decide +kernel
theorem dX3_isSo_79 : decode cX3_isSo 79 = .ok (.if_icmp .gt 7, 3) := by decide +kernel
theorem dX3_isSo_82 : decode cX3_isSo 82 = .ok (.iconst 1, 1) := by decide +kernel
theorem dX3_isSo_83 : decode cX3_isSo 83 = .ok (.goto 4, 3) := by decide +kernel
theorem dX3_isSo_86 : decode cX3_isSo 86 = .ok (.iconst 0, 1) := by decide +kernel
theorem dX3_isSo_87 : decode cX3_isSo 87 = .ok (.ireturn, 1) := by decide +kernel
theorem dX3_isSo_88 : decode cX3_isSo 88 = .ok (.iload_n 1, 1) := by decide +kernel
theorem dX3_isSo_89 : decode cX3_isSo 89 = .ok (.iload_n 2, 1) := by decide +kernel
theorem dX3_isSo_90 : decode cX3_isSo 90 = .ok (.if_icmp .lt 7, 3) := by decide +kernel
theorem dX3_isSo_93 : decode cX3_isSo 93 = .ok (.iconst 1, 1) := by decide +kernel
theorem dX3_isSo_94 : decode cX3_isSo 94 = .ok (.goto 4, 3) := by decide +kernel
theorem dX3_isSo_97 : decode cX3_isSo 97 = .ok (.iconst 0, 1) := by decide +kernel
theorem dX3_isSo_98 : decode cX3_isSo 98 = .ok (.ireturn, 1) := by decide +kernel
theorem dX3_isSo_99 : decode cX3_isSo 99 = .ok (.iconst 0, 1) := by decide +kernel
theorem dX3_isSo_100 : decode cX3_isSo 100 = .ok (.ireturn, 1) := by decide +kernel
theorem dX3_truth_0 : decode cX3_truth 0 = .ok (.iload_n 0, 1) := by decide +kernel
theorem dX3_truth_1 : decode cX3_truth 1 = .ok (.ifCond .eq 7, 3) := by decide +kernel
theorem dX3_truth_4 : decode cX3_truth 4 = .ok (.iconst 1, 1) := by decide +kernel
theorem dX3_truth_5 : decode cX3_truth 5 = .ok (.goto 4, 3) := by decide +kernel
theorem dX3_truth_8 : decode cX3_truth 8 = .ok (.iconst 0, 1) := by decide +kernel
theorem dX3_truth_9 : decode cX3_truth 9 = .ok (.ireturn, 1) := by decide +kernel
theorem dX3_push_0 : decode cX3_push 0 = .ok (.aload_n 0, 1) := by decide +kernel
theorem dX3_push_1 : decode cX3_push 1 = .ok (.getfield 114, 3) := by decide +kernel
theorem dX3_push_4 : decode cX3_push 4 = .ok (.ifCond .lt 32, 3) := by decide +kernel
theorem dX3_push_7 : decode cX3_push 7 = .ok (.aload_n 0, 1) := by decide +kernel
theorem dX3_push_8 : decode cX3_push 8 = .ok (.getfield 114, 3) := by decide +kernel
theorem dX3_push_11 : decode cX3_push 11 = .ok (.bipush 64, 2) := by decide +kernel
theorem dX3_push_13 : decode cX3_push 13 = .ok (.if_icmp .ge 23, 3) := by decide +kernel
theorem dX3_push_16 : decode cX3_push 16 = .ok (.aload_n 0, 1) := by decide +kernel
theorem dX3_push_17 : decode cX3_push 17 = .ok (.getfield 18, 3) := by decide +kernel
theorem dX3_push_20 : decode cX3_push 20 = .ok (.aload_n 0, 1) := by decide +kernel
theorem dX3_push_21 : decode cX3_push 21 = .ok (.getfield 114, 3) := by decide +kernel
theorem dX3_push_24 : decode cX3_push 24 = .ok (.iload_n 1, 1) := by decide +kernel
theorem dX3_push_25 : decode cX3_push 25 = .ok (.iastore, 1) := by decide +kernel
theorem dX3_push_26 : decode cX3_push 26 = .ok (.aload_n 0, 1) := by decide +kernel
theorem dX3_push_27 : decode cX3_push 27 = .ok (.dup, 1) := by decide +kernel
theorem dX3_push_28 : decode cX3_push 28 = .ok (.getfield 114, 3) := by decide +kernel
theorem dX3_push_31 : decode cX3_push 31 = .ok (.iconst 1, 1) := by decide +kernel
theorem dX3_push_32 : decode cX3_push 32 = .ok (.iadd, 1) := by decide +kernel
theorem dX3_push_33 : decode cX3_push 33 = .ok (.putfield 114, 3) := by decide +kernel
theorem dX3_push_36 : decode cX3_push 36 = .ok (.return_, 1) := by decide +kernel
theorem dX3_pop_0 : decode cX3_pop 0 = .ok (.aload_n 0, 1) := by decide +kernel
theorem dX3_pop_1 : decode cX3_pop 1 = .ok (.getfield 114, 3) := by decide +kernel
theorem dX3_pop_4 : decode cX3_pop 4 = .ok (.ifCond .le 12, 3) := by decide +kernel
theorem dX3_pop_7 : decode cX3_pop 7 = .ok (.aload_n 0, 1) := by decide +kernel
theorem dX3_pop_8 : decode cX3_pop 8 = .ok (.getfield 114, 3) := by decide +kernel
theorem dX3_pop_11 : decode cX3_pop 11 = .ok (.bipush 64, 2) := by decide +kernel
theorem dX3_pop_13 : decode cX3_pop 13 = .ok (.if_icmp .le 5, 3) := by decide +kernel
theorem dX3_pop_16 : decode cX3_pop 16 = .ok (.iconst 0, 1) := by decide +kernel
theorem dX3_pop_17 : decode cX3_pop 17 = .ok (.ireturn, 1) := by decide +kernel
theorem dX3_pop_18 : decode cX3_pop 18 = .ok (.aload_n 0, 1) := by decide +kernel
theorem dX3_pop_19 : decode cX3_pop 19 = .ok (.dup, 1) := by decide +kernel
theorem dX3_pop_20 : decode cX3_pop 20 = .ok (.getfield 114, 3) := by decide +kernel
theorem dX3_pop_23 : decode cX3_pop 23 = .ok (.iconst 1, 1) := by decide +kernel
theorem dX3_pop_24 : decode cX3_pop 24 = .ok (.isub, 1) := by decide +kernel
theorem dX3_pop_25 : decode cX3_pop 25 = .ok (.putfield 114, 3) := by decide +kernel
theorem dX3_pop_28 : decode cX3_pop 28 = .ok (.aload_n 0, 1) := by decide +kernel
theorem dX3_pop_29 : decode cX3_pop 29 = .ok (.getfield 18, 3) := by decide +kernel
theorem dX3_pop_32 : decode cX3_pop 32 = .ok (.aload_n 0, 1) := by decide +kernel
theorem dX3_pop_33 : decode cX3_pop 33 = .ok (.getfield 114, 3) := by decide +kernel
theorem dX3_pop_36 : decode cX3_pop 36 = .ok (.iaload, 1) := by decide +kernel
theorem dX3_pop_37 : decode cX3_pop 37 = .ok (.ireturn, 1) := by decide +kernel
theorem dX4_init_0 : decode cX4_init 0 = .ok (.aload_n 0, 1) := by decide +kernel
theorem dX4_init_1 : decode cX4_init 1 = .ok (.invokespecial 3, 3) := by decide +kernel
theorem dX4_init_4 : decode cX4_init 4 = .ok (.aload_n 0, 1) := by decide +kernel
theorem dX4_init_5 : decode cX4_init 5 = .ok (.bipush 16, 2) := by decide +kernel
theorem dX4_init_7 : decode cX4_init 7 = .ok (.anewarray 9, 3) := by decide +kernel
theorem dX4_init_10 : decode cX4_init 10 = .ok (.putfield 11, 3) := by decide +kernel
theorem dX4_init_13 : decode cX4_init 13 = .ok (.aload_n 0, 1) := by decide +kernel
theorem dX4_init_14 : decode cX4_init 14 = .ok (.sipush 400, 3) := by decide +kernel
theorem dX4_init_17 : decode cX4_init 17 = .ok (.anewarray 17, 3) := by decide +kernel
theorem dX4_init_20 : decode cX4_init 20 = .ok (.putfield 19, 3) := by decide +kernel
theorem dX4_init_23 : decode cX4_init 23 = .ok (.aload_n 0, 1) := by decide +kernel
theorem dX4_init_24 : decode cX4_init 24 = .ok (.sipush 400, 3) := by decide +kernel
theorem dX4_init_27 : decode cX4_init 27 = .ok (.newarray .int, 2) := by decide +kernel
theorem dX4_init_29 : decode cX4_init 29 = .ok (.putfield 23, 3) := by decide +kernel
theorem dX4_init_32 : decode cX4_init 32 = .ok (.aload_n 0, 1) := by decide +kernel
theorem dX4_init_33 : decode cX4_init 33 = .ok (.bipush 8, 2) := by decide +kernel
theorem dX4_init_35 : decode cX4_init 35 = .ok (.anewarray 27, 3) := by decide +kernel
theorem dX4_init_38 : decode cX4_init 38 = .ok (.putfield 29, 3) := by decide +kernel
theorem dX4_init_41 : decode cX4_init 41 = .ok (.iconst 0, 1) := by decide +kernel
theorem dX4_init_42 : decode cX4_init 42 = .ok (.istore_n 1, 1) := by decide +kernel
theorem dX4_init_43 : decode cX4_init 43 = .ok (.iload_n 1, 1) := by decide +kernel
theorem dX4_init_44 : decode cX4_init 44 = .ok (.bipush 8, 2) := by decide +kernel
theorem dX4_init_46 : decode cX4_init 46 = .ok (.if_icmp .ge 22, 3) := by decide +kernel
theorem dX4_init_49 : decode cX4_init 49 = .ok (.aload_n 0, 1) := by decide +kernel
theorem dX4_init_50 : decode cX4_init 50 = .ok (.getfield 29, 3) := by decide +kernel
theorem dX4_init_53 : decode cX4_init 53 = .ok (.iload_n 1, 1) := by decide +kernel
theorem dX4_init_54 : decode cX4_init 54 = .ok (.new 27, 3) := by decide +kernel
theorem dX4_init_57 : decode cX4_init 57 = .ok (.dup, 1) := by decide +kernel
theorem dX4_init_58 : decode cX4_init 58 = .ok (.invokespecial 33, 3) := by decide +kernel
theorem dX4_init_61 : decode cX4_init 61 = .ok (.aastore, 1) := by decide +kernel
theorem dX4_init_62 : decode cX4_init 62 = .ok (.iinc 1 1, 3) := by decide +kernel
theorem dX4_init_65 : decode cX4_init 65 = .ok (.goto (-22), 3) := by decide +kernel
theorem dX4_init_68 : decode cX4_init 68 = .ok (.iconst 0, 1) := by decide +kernel
theorem dX4_init_69 : decode cX4_init 69 = .ok (.istore_n 1, 1) := by decide +kernel
theorem dX4_init_70 : decode cX4_init 70 = .ok (.iload_n 1, 1) := by decide +kernel
theorem dX4_init_71 : decode cX4_init 71 = .ok (.bipush 16, 2) := by decide +kernel
theorem dX4_init_73 : decode cX4_init 73 = .ok (.if_icmp .ge 22, 3) := by decide +kernel
theorem dX4_init_76 : decode cX4_init 76 = .ok (.aload_n 0, 1) := by decide +kernel
theorem dX4_init_77 : decode cX4_init 77 = .ok (.getfield 11, 3) := by decide +kernel
theorem dX4_init_80 : decode cX4_init 80 = .ok (.iload_n 1, 1) := by decide +kernel
theorem dX4_init_81 : decode cX4_init 81 = .ok (.new 9, 3) := by decide +kernel
theorem dX4_init_84 : decode cX4_init 84 = .ok (.dup, 1) := by decide +kernel
theorem dX4_init_85 : decode cX4_init 85 = .ok (.invokespecial 34, 3) := by decide +kernel
theorem dX4_init_88 : decode cX4_init 88 = .ok (.aastore, 1) := by decide +kernel
theorem dX4_init_89 : decode cX4_init 89 = .ok (.iinc 1 1, 3) := by decide +kernel
theorem dX4_init_92 : decode cX4_init 92 = .ok (.goto (-22), 3) := by decide +kernel
theorem dX4_init_95 : decode cX4_init 95 = .ok (.iconst 0, 1) := by decide +kernel
theorem dX4_init_96 : decode cX4_init 96 = .ok (.istore_n 1, 1) := by decide +kernel
theorem dX4_init_97 : decode cX4_init 97 = .ok (.iload_n 1, 1) := by decide +kernel
theorem dX4_init_98 : decode cX4_init 98 = .ok (.sipush 400, 3) := by decide +kernel
theorem dX4_init_101 : decode cX4_init 101 = .ok (.if_icmp .ge 18, 3) := by decide +kernel
theorem dX4_init_104 : decode cX4_init 104 = .ok (.aload_n 0, 1) := by decide +kernel
theorem dX4_init_105 : decode cX4_init 105 = .ok (.getfield 19, 3) := by decide +kernel
theorem dX4_init_108 : decode cX4_init 108 = .ok (.iload_n 1, 1) := by decide +kernel
theorem dX4_init_109 : decode cX4_init 109 = .ok (.getstatic 35, 3) := by decide +kernel
theorem dX4_init_112 : decode cX4_init 112 = .ok (.aastore, 1) := by decide +kernel
theorem dX4_init_113 : decode cX4_init 113 = .ok (.iinc 1 1, 3) := by decide +kernel
theorem dX4_init_116 : decode cX4_init 116 = .ok (.goto (-19), 3) := by decide +kernel
theorem dX4_init_119 : decode cX4_init 119 = .ok (.return_, 1) := by decide +kernel
theorem dX4_clear_0 : decode cX4_clear 0 = .ok (.aload_n 0, 1) := by decide +kernel
theorem dX4_clear_1 : decode cX4_clear 1 = .ok (.iconst 0, 1) := by decide +kernel
theorem dX4_clear_2 : decode cX4_clear 2 = .ok (.putfield 39, 3) := by decide +kernel
theorem dX4_clear_5 : decode cX4_clear 5 = .ok (.aload_n 0, 1) := by decide +kernel
theorem dX4_clear_6 : decode cX4_clear 6 = .ok (.iconst 0, 1) := by decide +kernel
theorem dX4_clear_7 : decode cX4_clear 7 = .ok (.putfield 43, 3) := by decide +kernel
theorem dX4_clear_10 : decode cX4_clear 10 = .ok (.aload_n 0, 1) := by decide +kernel
theorem dX4_clear_11 : decode cX4_clear 11 = .ok (.iconst 0, 1) := by decide +kernel
theorem dX4_clear_12 : decode cX4_clear 12 = .ok (.putfield 46, 3) := by decide +kernel
theorem dX4_clear_15 : decode cX4_clear 15 = .ok (.return_, 1) := by decide +kernel
theorem dX4_insultAt_0 : decode cX4_insultAt 0 = .ok (.aload_n 0, 1) := by decide +kernel
theorem dX4_insultAt_1 : decode cX4_insultAt 1 = .ok (.getfield 29, 3) := by decide +kernel
theorem dX4_insultAt_4 : decode cX4_insultAt 4 = .ok (.iload_n 1, 1) := by decide +kernel
theorem dX4_insultAt_5 : decode cX4_insultAt 5 = .ok (.ifCond .lt 13, 3) := by decide +kernel
theorem dX4_insultAt_8 : decode cX4_insultAt 8 = .ok (.iload_n 1, 1) := by decide +kernel
theorem dX4_insultAt_9 : decode cX4_insultAt 9 = .ok (.bipush 8, 2) := by decide +kernel
theorem dX4_insultAt_11 : decode cX4_insultAt 11 = .ok (.if_icmp .ge 7, 3) := by decide +kernel
theorem dX4_insultAt_14 : decode cX4_insultAt 14 = .ok (.iload_n 1, 1) := by decide +kernel
theorem dX4_insultAt_15 : decode cX4_insultAt 15 = .ok (.goto 4, 3) := by decide +kernel
theorem dX4_insultAt_18 : decode cX4_insultAt 18 = .ok (.iconst 0, 1) := by decide +kernel
theorem dX4_insultAt_19 : decode cX4_insultAt 19 = .ok (.aaload, 1) := by decide +kernel
theorem dX4_insultAt_20 : decode cX4_insultAt 20 = .ok (.areturn, 1) := by decide +kernel
theorem dX4_insultNamed_0 : decode cX4_insultNamed 0 = .ok (.iconst 0, 1) := by decide +kernel
theorem dX4_insultNamed_1 : decode cX4_insultNamed 1 = .ok (.istore_n 2, 1) := by decide +kernel
theorem dX4_insultNamed_2 : decode cX4_insultNamed 2 = .ok (.iload_n 2, 1) := by decide +kernel
theorem dX4_insultNamed_3 : decode cX4_insultNamed 3 = .ok (.aload_n 0, 1) := by decide +kernel
theorem dX4_insultNamed_4 : decode cX4_insultNamed 4 = .ok (.getfield 39, 3) := by decide +kernel
theorem dX4_insultNamed_7 : decode cX4_insultNamed 7 = .ok (.if_icmp .ge 24, 3) := by decide +kernel
theorem dX4_insultNamed_10 : decode cX4_insultNamed 10 = .ok (.aload_n 1, 1) := by decide +kernel
theorem dX4_insultNamed_11 : decode cX4_insultNamed 11 = .ok (.aload_n 0, 1) := by decide +kernel
theorem dX4_insultNamed_12 : decode cX4_insultNamed 12 = .ok (.getfield 29, 3) := by decide +kernel
theorem dX4_insultNamed_15 : decode cX4_insultNamed 15 = .ok (.iload_n 2, 1) := by decide +kernel
theorem dX4_insultNamed_16 : decode cX4_insultNamed 16 = .ok (.aaload, 1) := by decide +kernel
theorem dX4_insultNamed_17 : decode cX4_insultNamed 17 = .ok (.invokevirtual 49, 3) := by decide +kernel
theorem dX4_insultNamed_20 : decode cX4_insultNamed 20 = .ok (.ifCond .eq 5, 3) := by decide +kernel
theorem dX4_insultNamed_23 : decode cX4_insultNamed 23 = .ok (.iload_n 2, 1) := by decide +kernel
theorem dX4_insultNamed_24 : decode cX4_insultNamed 24 = .ok (.ireturn, 1) := by decide +kernel
theorem dX4_insultNamed_25 : decode cX4_insultNamed 25 = .ok (.iinc 2 1, 3) := by decide +kernel
theorem dX4_insultNamed_28 : decode cX4_insultNamed 28 = .ok (.goto (-26), 3) := by decide +kernel
theorem dX4_insultNamed_31 : decode cX4_insultNamed 31 = .ok (.iconst (-1), 1) := by decide +kernel
theorem dX4_insultNamed_32 : decode cX4_insultNamed 32 = .ok (.ireturn, 1) := by decide +kernel
theorem dX4_addInsult_0 : decode cX4_addInsult 0 = .ok (.aload_n 0, 1) := by decide +kernel
theorem dX4_addInsult_1 : decode cX4_addInsult 1 = .ok (.getfield 39, 3) := by decide +kernel
theorem dX4_addInsult_4 : decode cX4_addInsult 4 = .ok (.bipush 8, 2) := by decide +kernel
theorem dX4_addInsult_6 : decode cX4_addInsult 6 = .ok (.if_icmp .ge 26, 3) := by decide +kernel
theorem dX4_addInsult_9 : decode cX4_addInsult 9 = .ok (.aload_n 1, 1) := by decide +kernel
theorem dX4_addInsult_10 : decode cX4_addInsult 10 = .ok (.aload_n 0, 1) := by decide +kernel
theorem dX4_addInsult_11 : decode cX4_addInsult 11 = .ok (.getfield 29, 3) := by decide +kernel
theorem dX4_addInsult_14 : decode cX4_addInsult 14 = .ok (.aload_n 0, 1) := by decide +kernel
theorem dX4_addInsult_15 : decode cX4_addInsult 15 = .ok (.getfield 39, 3) := by decide +kernel
theorem dX4_addInsult_18 : decode cX4_addInsult 18 = .ok (.aaload, 1) := by decide +kernel
theorem dX4_addInsult_19 : decode cX4_addInsult 19 = .ok (.invokevirtual 55, 3) := by decide +kernel
theorem dX4_addInsult_22 : decode cX4_addInsult 22 = .ok (.aload_n 0, 1) := by decide +kernel
theorem dX4_addInsult_23 : decode cX4_addInsult 23 = .ok (.dup, 1) := by decide +kernel
theorem dX4_addInsult_24 : decode cX4_addInsult 24 = .ok (.getfield 39, 3) := by decide +kernel
theorem dX4_addInsult_27 : decode cX4_addInsult 27 = .ok (.iconst 1, 1) := by decide +kernel
theorem dX4_addInsult_28 : decode cX4_addInsult 28 = .ok (.iadd, 1) := by decide +kernel
theorem dX4_addInsult_29 : decode cX4_addInsult 29 = .ok (.putfield 39, 3) := by decide +kernel
theorem dX4_addInsult_32 : decode cX4_addInsult 32 = .ok (.return_, 1) := by decide +kernel
theorem dX4_addOrder_0 : decode cX4_addOrder 0 = .ok (.aload_n 0, 1) := by decide +kernel
theorem dX4_addOrder_1 : decode cX4_addOrder 1 = .ok (.getfield 43, 3) := by decide +kernel
theorem dX4_addOrder_4 : decode cX4_addOrder 4 = .ok (.bipush 16, 2) := by decide +kernel
theorem dX4_addOrder_6 : decode cX4_addOrder 6 = .ok (.if_icmp .ge 13, 3) := by decide +kernel
theorem dX4_addOrder_9 : decode cX4_addOrder 9 = .ok (.aload_n 0, 1) := by decide +kernel
theorem dX4_addOrder_10 : decode cX4_addOrder 10 = .ok (.dup, 1) := by decide +kernel
theorem dX4_addOrder_11 : decode cX4_addOrder 11 = .ok (.getfield 43, 3) := by decide +kernel
theorem dX4_addOrder_14 : decode cX4_addOrder 14 = .ok (.iconst 1, 1) := by decide +kernel
theorem dX4_addOrder_15 : decode cX4_addOrder 15 = .ok (.iadd, 1) := by decide +kernel
theorem dX4_addOrder_16 : decode cX4_addOrder 16 = .ok (.putfield 43, 3) := by decide +kernel
theorem dX4_addOrder_19 : decode cX4_addOrder 19 = .ok (.aload_n 0, 1) := by decide +kernel
theorem dX4_addOrder_20 : decode cX4_addOrder 20 = .ok (.getfield 11, 3) := by decide +kernel
theorem dX4_addOrder_23 : decode cX4_addOrder 23 = .ok (.aload_n 0, 1) := by decide +kernel
theorem dX4_addOrder_24 : decode cX4_addOrder 24 = .ok (.getfield 43, 3) := by decide +kernel
theorem dX4_addOrder_27 : decode cX4_addOrder 27 = .ok (.iconst 1, 1) := by decide +kernel
theorem dX4_addOrder_28 : decode cX4_addOrder 28 = .ok (.isub, 1) := by decide +kernel
theorem dX4_addOrder_29 : decode cX4_addOrder 29 = .ok (.aaload, 1) := by decide +kernel
theorem dX4_addOrder_30 : decode cX4_addOrder 30 = .ok (.areturn, 1) := by decide +kernel
theorem dX4_addStep_0 : decode cX4_addStep 0 = .ok (.aload_n 0, 1) := by decide +kernel
theorem dX4_addStep_1 : decode cX4_addStep 1 = .ok (.getfield 46, 3) := by decide +kernel
theorem dX4_addStep_4 : decode cX4_addStep 4 = .ok (.sipush 400, 3) := by decide +kernel
theorem dX4_addStep_7 : decode cX4_addStep 7 = .ok (.if_icmp .ge 33, 3) := by decide +kernel
theorem dX4_addStep_10 : decode cX4_addStep 10 = .ok (.aload_n 0, 1) := by decide +kernel
theorem dX4_addStep_11 : decode cX4_addStep 11 = .ok (.getfield 19, 3) := by decide +kernel
theorem dX4_addStep_14 : decode cX4_addStep 14 = .ok (.aload_n 0, 1) := by decide +kernel
theorem dX4_addStep_15 : decode cX4_addStep 15 = .ok (.getfield 46, 3) := by decide +kernel
theorem dX4_addStep_18 : decode cX4_addStep 18 = .ok (.aload_n 1, 1) := by decide +kernel
theorem dX4_addStep_19 : decode cX4_addStep 19 = .ok (.aastore, 1) := by decide +kernel
theorem dX4_addStep_20 : decode cX4_addStep 20 = .ok (.aload_n 0, 1) := by decide +kernel
theorem dX4_addStep_21 : decode cX4_addStep 21 = .ok (.getfield 23, 3) := by decide +kernel
theorem dX4_addStep_24 : decode cX4_addStep 24 = .ok (.aload_n 0, 1) := by decide +kernel
theorem dX4_addStep_25 : decode cX4_addStep 25 = .ok (.getfield 46, 3) := by decide +kernel
theorem dX4_addStep_28 : decode cX4_addStep 28 = .ok (.iload_n 2, 1) := by decide +kernel
theorem dX4_addStep_29 : decode cX4_addStep 29 = .ok (.iastore, 1) := by decide +kernel
theorem dX4_addStep_30 : decode cX4_addStep 30 = .ok (.aload_n 0, 1) := by decide +kernel
theorem dX4_addStep_31 : decode cX4_addStep 31 = .ok (.dup, 1) := by decide +kernel
theorem dX4_addStep_32 : decode cX4_addStep 32 = .ok (.getfield 46, 3) := by decide +kernel
theorem dX4_addStep_35 : decode cX4_addStep 35 = .ok (.iconst 1, 1) := by decide +kernel
theorem dX4_addStep_36 : decode cX4_addStep 36 = .ok (.iadd, 1) := by decide +kernel
theorem dX4_addStep_37 : decode cX4_addStep 37 = .ok (.putfield 46, 3) := by decide +kernel
theorem dX4_addStep_40 : decode cX4_addStep 40 = .ok (.return_, 1) := by decide +kernel
theorem dX5_init_0 : decode cX5_init 0 = .ok (.aload_n 0, 1) := by decide +kernel
theorem dX5_init_1 : decode cX5_init 1 = .ok (.invokespecial 3, 3) := by decide +kernel
theorem dX5_init_4 : decode cX5_init 4 = .ok (.aload_n 0, 1) := by decide +kernel
theorem dX5_init_5 : decode cX5_init 5 = .ok (.bipush 40, 2) := by decide +kernel
theorem dX5_init_7 : decode cX5_init 7 = .ok (.newarray .int, 2) := by decide +kernel
theorem dX5_init_9 : decode cX5_init 9 = .ok (.putfield 9, 3) := by decide +kernel
theorem dX5_init_12 : decode cX5_init 12 = .ok (.aload_n 0, 1) := by decide +kernel
theorem dX5_init_13 : decode cX5_init 13 = .ok (.bipush 40, 2) := by decide +kernel
theorem dX5_init_15 : decode cX5_init 15 = .ok (.newarray .int, 2) := by decide +kernel
theorem dX5_init_17 : decode cX5_init 17 = .ok (.putfield 15, 3) := by decide +kernel
theorem dX5_init_20 : decode cX5_init 20 = .ok (.aload_n 0, 1) := by decide +kernel
theorem dX5_init_21 : decode cX5_init 21 = .ok (.bipush 40, 2) := by decide +kernel
theorem dX5_init_23 : decode cX5_init 23 = .ok (.newarray .int, 2) := by decide +kernel
theorem dX5_init_25 : decode cX5_init 25 = .ok (.putfield 18, 3) := by decide +kernel
theorem dX5_init_28 : decode cX5_init 28 = .ok (.aload_n 0, 1) := by decide +kernel
theorem dX5_init_29 : decode cX5_init 29 = .ok (.bipush 40, 2) := by decide +kernel
theorem dX5_init_31 : decode cX5_init 31 = .ok (.newarray .int, 2) := by decide +kernel
theorem dX5_init_33 : decode cX5_init 33 = .ok (.putfield 21, 3) := by decide +kernel
theorem dX5_init_36 : decode cX5_init 36 = .ok (.aload_n 0, 1) := by decide +kernel
theorem dX5_init_37 : decode cX5_init 37 = .ok (.bipush 40, 2) := by decide +kernel
theorem dX5_init_39 : decode cX5_init 39 = .ok (.newarray .int, 2) := by decide +kernel
theorem dX5_init_41 : decode cX5_init 41 = .ok (.putfield 24, 3) := by decide +kernel
theorem dX5_init_44 : decode cX5_init 44 = .ok (.return_, 1) := by decide +kernel
theorem dX5_forgetAll_0 : decode cX5_forgetAll 0 = .ok (.aload_n 0, 1) := by decide +kernel
theorem dX5_forgetAll_1 : decode cX5_forgetAll 1 = .ok (.iconst 0, 1) := by decide +kernel
theorem dX5_forgetAll_2 : decode cX5_forgetAll 2 = .ok (.putfield 27, 3) := by decide +kernel
theorem dX5_forgetAll_5 : decode cX5_forgetAll 5 = .ok (.aload_n 0, 1) := by decide +kernel
theorem dX5_forgetAll_6 : decode cX5_forgetAll 6 = .ok (.iconst 0, 1) := by decide +kernel
theorem dX5_forgetAll_7 : decode cX5_forgetAll 7 = .ok (.putfield 31, 3) := by decide +kernel
theorem dX5_forgetAll_10 : decode cX5_forgetAll 10 = .ok (.return_, 1) := by decide +kernel
theorem dX5_becomeLike_0 : decode cX5_becomeLike 0 = .ok (.aload_n 0, 1) := by decide +kernel
theorem dX5_becomeLike_1 : decode cX5_becomeLike 1 = .ok (.aload_n 1, 1) := by decide +kernel
theorem dX5_becomeLike_2 : decode cX5_becomeLike 2 = .ok (.getfield 27, 3) := by decide +kernel
theorem dX5_becomeLike_5 : decode cX5_becomeLike 5 = .ok (.putfield 27, 3) := by decide +kernel
theorem dX5_becomeLike_8 : decode cX5_becomeLike 8 = .ok (.iconst 0, 1) := by decide +kernel
theorem dX5_becomeLike_9 : decode cX5_becomeLike 9 = .ok (.istore_n 2, 1) := by decide +kernel
theorem dX5_becomeLike_10 : decode cX5_becomeLike 10 = .ok (.iload_n 2, 1) := by decide +kernel
theorem dX5_becomeLike_11 : decode cX5_becomeLike 11 = .ok (.aload_n 0, 1) := by decide +kernel
theorem dX5_becomeLike_12 : decode cX5_becomeLike 12 = .ok (.getfield 27, 3) := by decide +kernel
theorem dX5_becomeLike_15 : decode cX5_becomeLike 15 = .ok (.if_icmp .ge 21, 3) := by decide +kernel
theorem dX5_becomeLike_18 : decode cX5_becomeLike 18 = .ok (.aload_n 0, 1) := by decide +kernel
theorem dX5_becomeLike_19 : decode cX5_becomeLike 19 = .ok (.getfield 9, 3) := by decide +kernel
theorem dX5_becomeLike_22 : decode cX5_becomeLike 22 = .ok (.iload_n 2, 1) := by decide +kernel
theorem dX5_becomeLike_23 : decode cX5_becomeLike 23 = .ok (.aload_n 1, 1) := by decide +kernel
theorem dX5_becomeLike_24 : decode cX5_becomeLike 24 = .ok (.getfield 9, 3) := by decide +kernel
theorem dX5_becomeLike_27 : decode cX5_becomeLike 27 = .ok (.iload_n 2, 1) := by decide +kernel
theorem dX5_becomeLike_28 : decode cX5_becomeLike 28 = .ok (.iaload, 1) := by decide +kernel
theorem dX5_becomeLike_29 : decode cX5_becomeLike 29 = .ok (.iastore, 1) := by decide +kernel
theorem dX5_becomeLike_30 : decode cX5_becomeLike 30 = .ok (.iinc 2 1, 3) := by decide +kernel
theorem dX5_becomeLike_33 : decode cX5_becomeLike 33 = .ok (.goto (-23), 3) := by decide +kernel
theorem dX5_becomeLike_36 : decode cX5_becomeLike 36 = .ok (.aload_n 0, 1) := by decide +kernel
theorem dX5_becomeLike_37 : decode cX5_becomeLike 37 = .ok (.iconst 0, 1) := by decide +kernel
theorem dX5_becomeLike_38 : decode cX5_becomeLike 38 = .ok (.putfield 31, 3) := by decide +kernel
theorem dX5_becomeLike_41 : decode cX5_becomeLike 41 = .ok (.return_, 1) := by decide +kernel
theorem dX5_hearLetter_0 : decode cX5_hearLetter 0 = .ok (.aload_n 0, 1) := by decide +kernel
theorem dX5_hearLetter_1 : decode cX5_hearLetter 1 = .ok (.getfield 27, 3) := by decide +kernel
theorem dX5_hearLetter_4 : decode cX5_hearLetter 4 = .ok (.bipush 40, 2) := by decide +kernel
theorem dX5_hearLetter_6 : decode cX5_hearLetter 6 = .ok (.if_icmp .lt 8, 3) := by decide +kernel
theorem dX5_hearLetter_9 : decode cX5_hearLetter 9 = .ok (.aload_n 0, 1) := by decide +kernel
theorem dX5_hearLetter_10 : decode cX5_hearLetter 10 = .ok (.iconst 1, 1) := by decide +kernel
theorem dX5_hearLetter_11 : decode cX5_hearLetter 11 = .ok (.invokevirtual 35, 3) := by decide +kernel
theorem dX5_hearLetter_14 : decode cX5_hearLetter 14 = .ok (.aload_n 0, 1) := by decide +kernel
theorem dX5_hearLetter_15 : decode cX5_hearLetter 15 = .ok (.getfield 9, 3) := by decide +kernel
theorem dX5_hearLetter_18 : decode cX5_hearLetter 18 = .ok (.aload_n 0, 1) := by decide +kernel
theorem dX5_hearLetter_19 : decode cX5_hearLetter 19 = .ok (.getfield 27, 3) := by decide +kernel
theorem dX5_hearLetter_22 : decode cX5_hearLetter 22 = .ok (.iload_n 1, 1) := by decide +kernel
theorem dX5_hearLetter_23 : decode cX5_hearLetter 23 = .ok (.iastore, 1) := by decide +kernel
theorem dX5_hearLetter_24 : decode cX5_hearLetter 24 = .ok (.aload_n 0, 1) := by decide +kernel
theorem dX5_hearLetter_25 : decode cX5_hearLetter 25 = .ok (.dup, 1) := by decide +kernel
theorem dX5_hearLetter_26 : decode cX5_hearLetter 26 = .ok (.getfield 27, 3) := by decide +kernel
theorem dX5_hearLetter_29 : decode cX5_hearLetter 29 = .ok (.iconst 1, 1) := by decide +kernel
theorem dX5_hearLetter_30 : decode cX5_hearLetter 30 = .ok (.iadd, 1) := by decide +kernel
theorem dX5_hearLetter_31 : decode cX5_hearLetter 31 = .ok (.putfield 27, 3) := by decide +kernel
theorem dX5_hearLetter_34 : decode cX5_hearLetter 34 = .ok (.aload_n 0, 1) := by decide +kernel
theorem dX5_hearLetter_35 : decode cX5_hearLetter 35 = .ok (.iconst 0, 1) := by decide +kernel
theorem dX5_hearLetter_36 : decode cX5_hearLetter 36 = .ok (.putfield 31, 3) := by decide +kernel
theorem dX5_hearLetter_39 : decode cX5_hearLetter 39 = .ok (.return_, 1) := by decide +kernel
theorem dX5_hearWord_0 : decode cX5_hearWord 0 = .ok (.iconst 0, 1) := by decide +kernel
theorem dX5_hearWord_1 : decode cX5_hearWord 1 = .ok (.istore_n 2, 1) := by decide +kernel
theorem dX5_hearWord_2 : decode cX5_hearWord 2 = .ok (.iload_n 2, 1) := by decide +kernel
theorem dX5_hearWord_3 : decode cX5_hearWord 3 = .ok (.aload_n 1, 1) := by decide +kernel
theorem dX5_hearWord_4 : decode cX5_hearWord 4 = .ok (.getfield 39, 3) := by decide +kernel
theorem dX5_hearWord_7 : decode cX5_hearWord 7 = .ok (.if_icmp .ge 19, 3) := by decide +kernel
theorem dX5_hearWord_10 : decode cX5_hearWord 10 = .ok (.aload_n 0, 1) := by decide +kernel
theorem dX5_hearWord_11 : decode cX5_hearWord 11 = .ok (.aload_n 1, 1) := by decide +kernel
theorem dX5_hearWord_12 : decode cX5_hearWord 12 = .ok (.getfield 42, 3) := by decide +kernel
theorem dX5_hearWord_15 : decode cX5_hearWord 15 = .ok (.iload_n 2, 1) := by decide +kernel
theorem dX5_hearWord_16 : decode cX5_hearWord 16 = .ok (.iaload, 1) := by decide +kernel
theorem dX5_hearWord_17 : decode cX5_hearWord 17 = .ok (.invokevirtual 43, 3) := by decide +kernel
theorem dX5_hearWord_20 : decode cX5_hearWord 20 = .ok (.iinc 2 1, 3) := by decide +kernel
theorem dX5_hearWord_23 : decode cX5_hearWord 23 = .ok (.goto (-21), 3) := by decide +kernel
theorem dX5_hearWord_26 : decode cX5_hearWord 26 = .ok (.return_, 1) := by decide +kernel
theorem dX5_hearLastAgain_0 : decode cX5_hearLastAgain 0 = .ok (.iconst 0, 1) := by decide +kernel
theorem dX5_hearLastAgain_1 : decode cX5_hearLastAgain 1 = .ok (.iload_n 1, 1) := by decide +kernel
theorem dX5_hearLastAgain_2 : decode cX5_hearLastAgain 2 = .ok (.aload_n 0, 1) := by decide +kernel
theorem dX5_hearLastAgain_3 : decode cX5_hearLastAgain 3 = .ok (.getfield 27, 3) := by decide +kernel
theorem dX5_hearLastAgain_6 : decode cX5_hearLastAgain 6 = .ok (.invokestatic 46, 3) := by decide +kernel
theorem dX5_hearLastAgain_9 : decode cX5_hearLastAgain 9 = .ok (.invokestatic 52, 3) := by decide +kernel
theorem dX5_hearLastAgain_12 : decode cX5_hearLastAgain 12 = .ok (.istore_n 2, 1) := by decide +kernel
theorem dX5_hearLastAgain_13 : decode cX5_hearLastAgain 13 = .ok (.iconst 0, 1) := by decide +kernel
theorem dX5_hearLastAgain_14 : decode cX5_hearLastAgain 14 = .ok (.istore_n 3, 1) := by decide +kernel
theorem dX5_hearLastAgain_15 : decode cX5_hearLastAgain 15 = .ok (.iload_n 3, 1) := by decide +kernel
theorem dX5_hearLastAgain_16 : decode cX5_hearLastAgain 16 = .ok (.iload_n 2, 1) := by decide +kernel
theorem dX5_hearLastAgain_17 : decode cX5_hearLastAgain 17 = .ok (.if_icmp .ge 28, 3) := by decide +kernel
theorem dX5_hearLastAgain_20 : decode cX5_hearLastAgain 20 = .ok (.aload_n 0, 1) := by decide +kernel
theorem dX5_hearLastAgain_21 : decode cX5_hearLastAgain 21 = .ok (.getfield 24, 3) := by decide +kernel
theorem dX5_hearLastAgain_24 : decode cX5_hearLastAgain 24 = .ok (.iload_n 3, 1) := by decide +kernel
theorem dX5_hearLastAgain_25 : decode cX5_hearLastAgain 25 = .ok (.aload_n 0, 1) := by decide +kernel
theorem dX5_hearLastAgain_26 : decode cX5_hearLastAgain 26 = .ok (.getfield 9, 3) := by decide +kernel
theorem dX5_hearLastAgain_29 : decode cX5_hearLastAgain 29 = .ok (.aload_n 0, 1) := by decide +kernel
theorem dX5_hearLastAgain_30 : decode cX5_hearLastAgain 30 = .ok (.getfield 27, 3) := by decide +kernel
theorem dX5_hearLastAgain_33 : decode cX5_hearLastAgain 33 = .ok (.iload_n 2, 1) := by decide +kernel
theorem dX5_hearLastAgain_34 : decode cX5_hearLastAgain 34 = .ok (.isub, 1) := by decide +kernel
theorem dX5_hearLastAgain_35 : decode cX5_hearLastAgain 35 = .ok (.iload_n 3, 1) := by decide +kernel
theorem dX5_hearLastAgain_36 : decode cX5_hearLastAgain 36 = .ok (.iadd, 1) := by decide +kernel
theorem dX5_hearLastAgain_37 : decode cX5_hearLastAgain 37 = .ok (.iaload, 1) := by decide +kernel
theorem dX5_hearLastAgain_38 : decode cX5_hearLastAgain 38 = .ok (.iastore, 1) := by decide +kernel
theorem dX5_hearLastAgain_39 : decode cX5_hearLastAgain 39 = .ok (.iinc 3 1, 3) := by decide +kernel
theorem dX5_hearLastAgain_42 : decode cX5_hearLastAgain 42 = .ok (.goto (-27), 3) := by decide +kernel
theorem dX5_hearLastAgain_45 : decode cX5_hearLastAgain 45 = .ok (.iconst 0, 1) := by decide +kernel
theorem dX5_hearLastAgain_46 : decode cX5_hearLastAgain 46 = .ok (.istore_n 3, 1) := by decide +kernel
theorem dX5_hearLastAgain_47 : decode cX5_hearLastAgain 47 = .ok (.iload_n 3, 1) := by decide +kernel
theorem dX5_hearLastAgain_48 : decode cX5_hearLastAgain 48 = .ok (.iload_n 2, 1) := by decide +kernel
theorem dX5_hearLastAgain_49 : decode cX5_hearLastAgain 49 = .ok (.if_icmp .ge 19, 3) := by decide +kernel
theorem dX5_hearLastAgain_52 : decode cX5_hearLastAgain 52 = .ok (.aload_n 0, 1) := by decide +kernel
theorem dX5_hearLastAgain_53 : decode cX5_hearLastAgain 53 = .ok (.aload_n 0, 1) := by decide +kernel
theorem dX5_hearLastAgain_54 : decode cX5_hearLastAgain 54 = .ok (.getfield 24, 3) := by decide +kernel
theorem dX5_hearLastAgain_57 : decode cX5_hearLastAgain 57 = .ok (.iload_n 3, 1) := by decide +kernel
theorem dX5_hearLastAgain_58 : decode cX5_hearLastAgain 58 = .ok (.iaload, 1) := by decide +kernel
theorem dX5_hearLastAgain_59 : decode cX5_hearLastAgain 59 = .ok (.invokevirtual 43, 3) := by decide +kernel
theorem dX5_hearLastAgain_62 : decode cX5_hearLastAgain 62 = .ok (.iinc 3 1, 3) := by decide +kernel
theorem dX5_hearLastAgain_65 : decode cX5_hearLastAgain 65 = .ok (.goto (-18), 3) := by decide +kernel
theorem dX5_hearLastAgain_68 : decode cX5_hearLastAgain 68 = .ok (.return_, 1) := by decide +kernel
theorem dX5_forgetFirst_0 : decode cX5_forgetFirst 0 = .ok (.iconst 0, 1) := by decide +kernel
theorem dX5_forgetFirst_1 : decode cX5_forgetFirst 1 = .ok (.iload_n 1, 1) := by decide +kernel
theorem dX5_forgetFirst_2 : decode cX5_forgetFirst 2 = .ok (.aload_n 0, 1) := by decide +kernel
theorem dX5_forgetFirst_3 : decode cX5_forgetFirst 3 = .ok (.getfield 27, 3) := by decide +kernel
theorem dX5_forgetFirst_6 : decode cX5_forgetFirst 6 = .ok (.invokestatic 46, 3) := by decide +kernel
theorem dX5_forgetFirst_9 : decode cX5_forgetFirst 9 = .ok (.invokestatic 52, 3) := by decide +kernel
theorem dX5_forgetFirst_12 : decode cX5_forgetFirst 12 = .ok (.istore_n 2, 1) := by decide +kernel
theorem dX5_forgetFirst_13 : decode cX5_forgetFirst 13 = .ok (.iload_n 2, 1) := by decide +kernel
theorem dX5_forgetFirst_14 : decode cX5_forgetFirst 14 = .ok (.istore_n 3, 1) := by decide +kernel
theorem dX5_forgetFirst_15 : decode cX5_forgetFirst 15 = .ok (.iload_n 3, 1) := by decide +kernel
theorem dX5_forgetFirst_16 : decode cX5_forgetFirst 16 = .ok (.aload_n 0, 1) := by decide +kernel
theorem dX5_forgetFirst_17 : decode cX5_forgetFirst 17 = .ok (.getfield 27, 3) := by decide +kernel
theorem dX5_forgetFirst_20 : decode cX5_forgetFirst 20 = .ok (.if_icmp .ge 23, 3) := by decide +kernel
theorem dX5_forgetFirst_23 : decode cX5_forgetFirst 23 = .ok (.aload_n 0, 1) := by decide +kernel
theorem dX5_forgetFirst_24 : decode cX5_forgetFirst 24 = .ok (.getfield 9, 3) := by decide +kernel
theorem dX5_forgetFirst_27 : decode cX5_forgetFirst 27 = .ok (.iload_n 3, 1) := by decide +kernel
theorem dX5_forgetFirst_28 : decode cX5_forgetFirst 28 = .ok (.iload_n 2, 1) := by decide +kernel
theorem dX5_forgetFirst_29 : decode cX5_forgetFirst 29 = .ok (.isub, 1) := by decide +kernel
theorem dX5_forgetFirst_30 : decode cX5_forgetFirst 30 = .ok (.aload_n 0, 1) := by decide +kernel
theorem dX5_forgetFirst_31 : decode cX5_forgetFirst 31 = .ok (.getfield 9, 3) := by decide +kernel
theorem dX5_forgetFirst_34 : decode cX5_forgetFirst 34 = .ok (.iload_n 3, 1) := by decide +kernel
theorem dX5_forgetFirst_35 : decode cX5_forgetFirst 35 = .ok (.iaload, 1) := by decide +kernel
theorem dX5_forgetFirst_36 : decode cX5_forgetFirst 36 = .ok (.iastore, 1) := by decide +kernel
theorem dX5_forgetFirst_37 : decode cX5_forgetFirst 37 = .ok (.iinc 3 1, 3) := by decide +kernel
theorem dX5_forgetFirst_40 : decode cX5_forgetFirst 40 = .ok (.goto (-25), 3) := by decide +kernel
theorem dX5_forgetFirst_43 : decode cX5_forgetFirst 43 = .ok (.aload_n 0, 1) := by decide +kernel
theorem dX5_forgetFirst_44 : decode cX5_forgetFirst 44 = .ok (.dup, 1) := by decide +kernel
theorem dX5_forgetFirst_45 : decode cX5_forgetFirst 45 = .ok (.getfield 27, 3) := by decide +kernel
theorem dX5_forgetFirst_48 : decode cX5_forgetFirst 48 = .ok (.iload_n 2, 1) := by decide +kernel
theorem dX5_forgetFirst_49 : decode cX5_forgetFirst 49 = .ok (.isub, 1) := by decide +kernel
theorem dX5_forgetFirst_50 : decode cX5_forgetFirst 50 = .ok (.putfield 27, 3) := by decide +kernel
theorem dX5_forgetFirst_53 : decode cX5_forgetFirst 53 = .ok (.aload_n 0, 1) := by decide +kernel
theorem dX5_forgetFirst_54 : decode cX5_forgetFirst 54 = .ok (.iconst 0, 1) := by decide +kernel
theorem dX5_forgetFirst_55 : decode cX5_forgetFirst 55 = .ok (.putfield 31, 3) := by decide +kernel
theorem dX5_forgetFirst_58 : decode cX5_forgetFirst 58 = .ok (.return_, 1) := by decide +kernel
theorem dX5_rankAt_0 : decode cX5_rankAt 0 = .ok (.aload_n 0, 1) := by decide +kernel
theorem dX5_rankAt_1 : decode cX5_rankAt 1 = .ok (.invokevirtual 55, 3) := by decide +kernel
theorem dX5_rankAt_4 : decode cX5_rankAt 4 = .ok (.iload_n 1, 1) := by decide +kernel
theorem dX5_rankAt_5 : decode cX5_rankAt 5 = .ok (.ifCond .lt 20, 3) := by decide +kernel
theorem dX5_rankAt_8 : decode cX5_rankAt 8 = .ok (.iload_n 1, 1) := by decide +kernel
theorem dX5_rankAt_9 : decode cX5_rankAt 9 = .ok (.aload_n 0, 1) := by decide +kernel
theorem dX5_rankAt_10 : decode cX5_rankAt 10 = .ok (.getfield 27, 3) := by decide +kernel
theorem dX5_rankAt_13 : decode cX5_rankAt 13 = .ok (.if_icmp .ge 12, 3) := by decide +kernel
theorem dX5_rankAt_16 : decode cX5_rankAt 16 = .ok (.aload_n 0, 1) := by decide +kernel
theorem dX5_rankAt_17 : decode cX5_rankAt 17 = .ok (.getfield 15, 3) := by decide +kernel
theorem dX5_rankAt_20 : decode cX5_rankAt 20 = .ok (.iload_n 1, 1) := by decide +kernel
theorem dX5_rankAt_21 : decode cX5_rankAt 21 = .ok (.iaload, 1) := by decide +kernel
theorem dX5_rankAt_22 : decode cX5_rankAt 22 = .ok (.goto 4, 3) := by decide +kernel
theorem dX5_rankAt_25 : decode cX5_rankAt 25 = .ok (.iconst 0, 1) := by decide +kernel
theorem dX5_rankAt_26 : decode cX5_rankAt 26 = .ok (.ireturn, 1) := by decide +kernel
theorem dX5_placeOfRank_0 : decode cX5_placeOfRank 0 = .ok (.aload_n 0, 1) := by decide +kernel
theorem dX5_placeOfRank_1 : decode cX5_placeOfRank 1 = .ok (.invokevirtual 55, 3) := by decide +kernel
theorem dX5_placeOfRank_4 : decode cX5_placeOfRank 4 = .ok (.iload_n 1, 1) := by decide +kernel
theorem dX5_placeOfRank_5 : decode cX5_placeOfRank 5 = .ok (.ifCond .lt 20, 3) := by decide +kernel
theorem dX5_placeOfRank_8 : decode cX5_placeOfRank 8 = .ok (.iload_n 1, 1) := by decide +kernel
theorem dX5_placeOfRank_9 : decode cX5_placeOfRank 9 = .ok (.aload_n 0, 1) := by decide +kernel
theorem dX5_placeOfRank_10 : decode cX5_placeOfRank 10 = .ok (.getfield 27, 3) := by decide +kernel
theorem dX5_placeOfRank_13 : decode cX5_placeOfRank 13 = .ok (.if_icmp .ge 12, 3) := by decide +kernel
theorem dX5_placeOfRank_16 : decode cX5_placeOfRank 16 = .ok (.aload_n 0, 1) := by decide +kernel
theorem dX5_placeOfRank_17 : decode cX5_placeOfRank 17 = .ok (.getfield 18, 3) := by decide +kernel
theorem dX5_placeOfRank_20 : decode cX5_placeOfRank 20 = .ok (.iload_n 1, 1) := by decide +kernel
theorem dX5_placeOfRank_21 : decode cX5_placeOfRank 21 = .ok (.iaload, 1) := by decide +kernel
theorem dX5_placeOfRank_22 : decode cX5_placeOfRank 22 = .ok (.goto 4, 3) := by decide +kernel
theorem dX5_placeOfRank_25 : decode cX5_placeOfRank 25 = .ok (.iconst 0, 1) := by decide +kernel
theorem dX5_placeOfRank_26 : decode cX5_placeOfRank 26 = .ok (.ireturn, 1) := by decide +kernel
theorem dX5_sharedWithRankAhead_0 : decode cX5_sharedWithRankAhead 0 = .ok (.aload_n 0, 1) := by decide +kernel
theorem dX5_sharedWithRankAhead_1 : decode cX5_sharedWithRankAhead 1 = .ok (.invokevirtual 55, 3) := by decide +kernel
theorem dX5_sharedWithRankAhead_4 : decode cX5_sharedWithRankAhead 4 = .ok (.iload_n 1, 1) := by decide +kernel
theorem dX5_sharedWithRankAhead_5 : decode cX5_sharedWithRankAhead 5 = .ok (.ifCond .lt 20, 3) := by decide +kernel
theorem dX5_sharedWithRankAhead_8 : decode cX5_sharedWithRankAhead 8 = .ok (.iload_n 1, 1) := by decide +kernel
theorem dX5_sharedWithRankAhead_9 : decode cX5_sharedWithRankAhead 9 = .ok (.aload_n 0, 1) := by decide +kernel
theorem dX5_sharedWithRankAhead_10 : decode cX5_sharedWithRankAhead 10 = .ok (.getfield 27, 3) := by decide +kernel
theorem dX5_sharedWithRankAhead_13 : decode cX5_sharedWithRankAhead 13 = .ok (.if_icmp .ge 12, 3) := by decide +kernel
theorem dX5_sharedWithRankAhead_16 : decode cX5_sharedWithRankAhead 16 = .ok (.aload_n 0, 1) := by decide +kernel
theorem dX5_sharedWithRankAhead_17 : decode cX5_sharedWithRankAhead 17 = .ok (.getfield 21, 3) := by decide +kernel
theorem dX5_sharedWithRankAhead_20 : decode cX5_sharedWithRankAhead 20 = .ok (.iload_n 1, 1) := by decide +kernel
theorem dX5_sharedWithRankAhead_21 : decode cX5_sharedWithRankAhead 21 = .ok (.iaload, 1) := by decide +kernel
theorem dX5_sharedWithRankAhead_22 : decode cX5_sharedWithRankAhead 22 = .ok (.goto 4, 3) := by decide +kernel
theorem dX5_sharedWithRankAhead_25 : decode cX5_sharedWithRankAhead 25 = .ok (.iconst 0, 1) := by decide +kernel
theorem dX5_sharedWithRankAhead_26 : decode cX5_sharedWithRankAhead 26 = .ok (.ireturn, 1) := by decide +kernel
theorem dX5_sharedFrom_0 : decode cX5_sharedFrom 0 = .ok (.iload_n 1, 1) := by decide +kernel
theorem dX5_sharedFrom_1 : decode cX5_sharedFrom 1 = .ok (.ifCond .lt 7, 3) := by decide +kernel
theorem dX5_sharedFrom_4 : decode cX5_sharedFrom 4 = .ok (.iload_n 2, 1) := by decide +kernel
theorem dX5_sharedFrom_5 : decode cX5_sharedFrom 5 = .ok (.ifCond .ge 5, 3) := by decide +kernel
theorem dX5_sharedFrom_8 : decode cX5_sharedFrom 8 = .ok (.iconst 0, 1) := by decide +kernel
theorem dX5_sharedFrom_9 : decode cX5_sharedFrom 9 = .ok (.ireturn, 1) := by decide +kernel
theorem dX5_sharedFrom_10 : decode cX5_sharedFrom 10 = .ok (.iload_n 1, 1) := by decide +kernel
theorem dX5_sharedFrom_11 : decode cX5_sharedFrom 11 = .ok (.iload_n 2, 1) := by decide +kernel
theorem dX5_sharedFrom_12 : decode cX5_sharedFrom 12 = .ok (.if_icmp .le 7, 3) := by decide +kernel
theorem dX5_sharedFrom_15 : decode cX5_sharedFrom 15 = .ok (.iload_n 1, 1) := by decide +kernel
theorem dX5_sharedFrom_16 : decode cX5_sharedFrom 16 = .ok (.goto 4, 3) := by decide +kernel
theorem dX5_sharedFrom_19 : decode cX5_sharedFrom 19 = .ok (.iload_n 2, 1) := by decide +kernel
theorem dX5_sharedFrom_20 : decode cX5_sharedFrom 20 = .ok (.istore_n 3, 1) := by decide +kernel
theorem dX5_sharedFrom_21 : decode cX5_sharedFrom 21 = .ok (.iconst 0, 1) := by decide +kernel
theorem dX5_sharedFrom_22 : decode cX5_sharedFrom 22 = .ok (.istore 4, 2) := by decide +kernel
theorem dX5_sharedFrom_24 : decode cX5_sharedFrom 24 = .ok (.iload_n 3, 1) := by decide +kernel
theorem dX5_sharedFrom_25 : decode cX5_sharedFrom 25 = .ok (.iload 4, 2) := by decide +kernel
theorem dX5_sharedFrom_27 : decode cX5_sharedFrom 27 = .ok (.iadd, 1) := by decide +kernel
theorem dX5_sharedFrom_28 : decode cX5_sharedFrom 28 = .ok (.aload_n 0, 1) := by decide +kernel
theorem dX5_sharedFrom_29 : decode cX5_sharedFrom 29 = .ok (.getfield 27, 3) := by decide +kernel
theorem dX5_sharedFrom_32 : decode cX5_sharedFrom 32 = .ok (.if_icmp .ge 30, 3) := by decide +kernel
theorem dX5_sharedFrom_35 : decode cX5_sharedFrom 35 = .ok (.aload_n 0, 1) := by decide +kernel
theorem dX5_sharedFrom_36 : decode cX5_sharedFrom 36 = .ok (.getfield 9, 3) := by decide +kernel
theorem dX5_sharedFrom_39 : decode cX5_sharedFrom 39 = .ok (.iload_n 1, 1) := by decide +kernel
theorem dX5_sharedFrom_40 : decode cX5_sharedFrom 40 = .ok (.iload 4, 2) := by decide +kernel
theorem dX5_sharedFrom_42 : decode cX5_sharedFrom 42 = .ok (.iadd, 1) := by decide +kernel
theorem dX5_sharedFrom_43 : decode cX5_sharedFrom 43 = .ok (.iaload, 1) := by decide +kernel
theorem dX5_sharedFrom_44 : decode cX5_sharedFrom 44 = .ok (.aload_n 0, 1) := by decide +kernel
theorem dX5_sharedFrom_45 : decode cX5_sharedFrom 45 = .ok (.getfield 9, 3) := by decide +kernel
theorem dX5_sharedFrom_48 : decode cX5_sharedFrom 48 = .ok (.iload_n 2, 1) := by decide +kernel
theorem dX5_sharedFrom_49 : decode cX5_sharedFrom 49 = .ok (.iload 4, 2) := by decide +kernel
theorem dX5_sharedFrom_51 : decode cX5_sharedFrom 51 = .ok (.iadd, 1) := by decide +kernel
theorem dX5_sharedFrom_52 : decode cX5_sharedFrom 52 = .ok (.iaload, 1) := by decide +kernel
theorem dX5_sharedFrom_53 : decode cX5_sharedFrom 53 = .ok (.if_icmp .ne 9, 3) := by decide +kernel
theorem dX5_sharedFrom_56 : decode cX5_sharedFrom 56 = .ok (.iinc 4 1, 3) := by decide +kernel
theorem dX5_sharedFrom_59 : decode cX5_sharedFrom 59 = .ok (.goto (-35), 3) := by decide +kernel
theorem dX5_sharedFrom_62 : decode cX5_sharedFrom 62 = .ok (.iload 4, 2) := by decide +kernel
theorem dX5_sharedFrom_64 : decode cX5_sharedFrom 64 = .ok (.ireturn, 1) := by decide +kernel
theorem dX5_longestRepeated_0 : decode cX5_longestRepeated 0 = .ok (.aload_n 0, 1) := by decide +kernel
theorem dX5_longestRepeated_1 : decode cX5_longestRepeated 1 = .ok (.invokevirtual 55, 3) := by decide +kernel
theorem dX5_longestRepeated_4 : decode cX5_longestRepeated 4 = .ok (.aload_n 0, 1) := by decide +kernel
theorem dX5_longestRepeated_5 : decode cX5_longestRepeated 5 = .ok (.getfield 58, 3) := by decide +kernel
theorem dX5_longestRepeated_8 : decode cX5_longestRepeated 8 = .ok (.ireturn, 1) := by decide +kernel
theorem dX5_sumOfAllShared_0 : decode cX5_sumOfAllShared 0 = .ok (.aload_n 0, 1) := by decide +kernel
theorem dX5_sumOfAllShared_1 : decode cX5_sumOfAllShared 1 = .ok (.invokevirtual 55, 3) := by decide +kernel
theorem dX5_sumOfAllShared_4 : decode cX5_sumOfAllShared 4 = .ok (.aload_n 0, 1) := by decide +kernel
theorem dX5_sumOfAllShared_5 : decode cX5_sumOfAllShared 5 = .ok (.getfield 61, 3) := by decide +kernel
theorem dX5_sumOfAllShared_8 : decode cX5_sumOfAllShared 8 = .ok (.ireturn, 1) := by decide +kernel
theorem dX5_differentPhrases_0 : decode cX5_differentPhrases 0 = .ok (.aload_n 0, 1) := by decide +kernel
theorem dX5_differentPhrases_1 : decode cX5_differentPhrases 1 = .ok (.invokevirtual 55, 3) := by decide +kernel
theorem dX5_differentPhrases_4 : decode cX5_differentPhrases 4 = .ok (.aload_n 0, 1) := by decide +kernel
theorem dX5_differentPhrases_5 : decode cX5_differentPhrases 5 = .ok (.getfield 27, 3) := by decide +kernel
theorem dX5_differentPhrases_8 : decode cX5_differentPhrases 8 = .ok (.aload_n 0, 1) := by decide +kernel
theorem dX5_differentPhrases_9 : decode cX5_differentPhrases 9 = .ok (.getfield 27, 3) := by decide +kernel
theorem dX5_differentPhrases_12 : decode cX5_differentPhrases 12 = .ok (.iconst 1, 1) := by decide +kernel
theorem dX5_differentPhrases_13 : decode cX5_differentPhrases 13 = .ok (.iadd, 1) := by decide +kernel
theorem dX5_differentPhrases_14 : decode cX5_differentPhrases 14 = .ok (.imul, 1) := by decide +kernel
theorem dX5_differentPhrases_15 : decode cX5_differentPhrases 15 = .ok (.iconst 2, 1) := by decide +kernel
theorem dX5_differentPhrases_16 : decode cX5_differentPhrases 16 = .ok (.idiv, 1) := by decide +kernel
theorem dX5_differentPhrases_17 : decode cX5_differentPhrases 17 = .ok (.aload_n 0, 1) := by decide +kernel
theorem dX5_differentPhrases_18 : decode cX5_differentPhrases 18 = .ok (.getfield 61, 3) := by decide +kernel
theorem dX5_differentPhrases_21 : decode cX5_differentPhrases 21 = .ok (.isub, 1) := by decide +kernel
theorem dX5_differentPhrases_22 : decode cX5_differentPhrases 22 = .ok (.ireturn, 1) := by decide +kernel
theorem dX5_differentPhrasesWith_0 : decode cX5_differentPhrasesWith 0 = .ok (.aload_n 0, 1) := by decide +kernel
theorem dX5_differentPhrasesWith_1 : decode cX5_differentPhrasesWith 1 = .ok (.invokevirtual 55, 3) := by decide +kernel
theorem dX5_differentPhrasesWith_4 : decode cX5_differentPhrasesWith 4 = .ok (.iconst 0, 1) := by decide +kernel
theorem dX5_differentPhrasesWith_5 : decode cX5_differentPhrasesWith 5 = .ok (.istore_n 2, 1) := by decide +kernel
theorem dX5_differentPhrasesWith_6 : decode cX5_differentPhrasesWith 6 = .ok (.iconst 0, 1) := by decide +kernel
theorem dX5_differentPhrasesWith_7 : decode cX5_differentPhrasesWith 7 = .ok (.istore_n 3, 1) := by decide +kernel
theorem dX5_differentPhrasesWith_8 : decode cX5_differentPhrasesWith 8 = .ok (.iload_n 3, 1) := by decide +kernel
theorem dX5_differentPhrasesWith_9 : decode cX5_differentPhrasesWith 9 = .ok (.aload_n 0, 1) := by decide +kernel
theorem dX5_differentPhrasesWith_10 : decode cX5_differentPhrasesWith 10 = .ok (.getfield 27, 3) := by decide +kernel
theorem dX5_differentPhrasesWith_13 : decode cX5_differentPhrasesWith 13 = .ok (.if_icmp .ge 37, 3) := by decide +kernel
theorem dX5_differentPhrasesWith_16 : decode cX5_differentPhrasesWith 16 = .ok (.aload_n 0, 1) := by decide +kernel
theorem dX5_differentPhrasesWith_17 : decode cX5_differentPhrasesWith 17 = .ok (.getfield 27, 3) := by decide +kernel
theorem dX5_differentPhrasesWith_20 : decode cX5_differentPhrasesWith 20 = .ok (.aload_n 0, 1) := by decide +kernel
theorem dX5_differentPhrasesWith_21 : decode cX5_differentPhrasesWith 21 = .ok (.getfield 18, 3) := by decide +kernel
theorem dX5_differentPhrasesWith_24 : decode cX5_differentPhrasesWith 24 = .ok (.iload_n 3, 1) := by decide +kernel
theorem dX5_differentPhrasesWith_25 : decode cX5_differentPhrasesWith 25 = .ok (.iaload, 1) := by decide +kernel
theorem dX5_differentPhrasesWith_26 : decode cX5_differentPhrasesWith 26 = .ok (.isub, 1) := by decide +kernel
theorem dX5_differentPhrasesWith_27 : decode cX5_differentPhrasesWith 27 = .ok (.iload_n 1, 1) := by decide +kernel
theorem dX5_differentPhrasesWith_28 : decode cX5_differentPhrasesWith 28 = .ok (.if_icmp .lt 16, 3) := by decide +kernel
theorem dX5_differentPhrasesWith_31 : decode cX5_differentPhrasesWith 31 = .ok (.aload_n 0, 1) := by decide +kernel
theorem dX5_differentPhrasesWith_32 : decode cX5_differentPhrasesWith 32 = .ok (.getfield 21, 3) := by decide +kernel
theorem dX5_differentPhrasesWith_35 : decode cX5_differentPhrasesWith 35 = .ok (.iload_n 3, 1) := by decide +kernel
theorem dX5_differentPhrasesWith_36 : decode cX5_differentPhrasesWith 36 = .ok (.iaload, 1) := by decide +kernel
theorem dX5_differentPhrasesWith_37 : decode cX5_differentPhrasesWith 37 = .ok (.iload_n 1, 1) := by decide +kernel
theorem dX5_differentPhrasesWith_38 : decode cX5_differentPhrasesWith 38 = .ok (.if_icmp .ge 6, 3) := by decide +kernel
theorem dX5_differentPhrasesWith_41 : decode cX5_differentPhrasesWith 41 = .ok (.iinc 2 1, 3) := by decide +kernel
theorem dX5_differentPhrasesWith_44 : decode cX5_differentPhrasesWith 44 = .ok (.iinc 3 1, 3) := by decide +kernel
theorem dX5_differentPhrasesWith_47 : decode cX5_differentPhrasesWith 47 = .ok (.goto (-39), 3) := by decide +kernel
theorem dX5_differentPhrasesWith_50 : decode cX5_differentPhrasesWith 50 = .ok (.iload_n 2, 1) := by decide +kernel
theorem dX5_differentPhrasesWith_51 : decode cX5_differentPhrasesWith 51 = .ok (.ireturn, 1) := by decide +kernel
theorem dX5_repeatedPhrasesWith_0 : decode cX5_repeatedPhrasesWith 0 = .ok (.aload_n 0, 1) := by decide +kernel
theorem dX5_repeatedPhrasesWith_1 : decode cX5_repeatedPhrasesWith 1 = .ok (.invokevirtual 55, 3) := by decide +kernel
theorem dX5_repeatedPhrasesWith_4 : decode cX5_repeatedPhrasesWith 4 = .ok (.iconst 0, 1) := by decide +kernel
theorem dX5_repeatedPhrasesWith_5 : decode cX5_repeatedPhrasesWith 5 = .ok (.istore_n 2, 1) := by decide +kernel
theorem dX5_repeatedPhrasesWith_6 : decode cX5_repeatedPhrasesWith 6 = .ok (.iconst 1, 1) := by decide +kernel
theorem dX5_repeatedPhrasesWith_7 : decode cX5_repeatedPhrasesWith 7 = .ok (.istore_n 3, 1) := by decide +kernel
theorem dX5_repeatedPhrasesWith_8 : decode cX5_repeatedPhrasesWith 8 = .ok (.iload_n 3, 1) := by decide +kernel
theorem dX5_repeatedPhrasesWith_9 : decode cX5_repeatedPhrasesWith 9 = .ok (.aload_n 0, 1) := by decide +kernel
theorem dX5_repeatedPhrasesWith_10 : decode cX5_repeatedPhrasesWith 10 = .ok (.getfield 27, 3) := by decide +kernel
theorem dX5_repeatedPhrasesWith_13 : decode cX5_repeatedPhrasesWith 13 = .ok (.if_icmp .ge 34, 3) := by decide +kernel
theorem dX5_repeatedPhrasesWith_16 : decode cX5_repeatedPhrasesWith 16 = .ok (.aload_n 0, 1) := by decide +kernel
theorem dX5_repeatedPhrasesWith_17 : decode cX5_repeatedPhrasesWith 17 = .ok (.getfield 21, 3) := by decide +kernel
theorem dX5_repeatedPhrasesWith_20 : decode cX5_repeatedPhrasesWith 20 = .ok (.iload_n 3, 1) := by decide +kernel
theorem dX5_repeatedPhrasesWith_21 : decode cX5_repeatedPhrasesWith 21 = .ok (.iaload, 1) := by decide +kernel
theorem dX5_repeatedPhrasesWith_22 : decode cX5_repeatedPhrasesWith 22 = .ok (.iload_n 1, 1) := by decide +kernel
theorem dX5_repeatedPhrasesWith_23 : decode cX5_repeatedPhrasesWith 23 = .ok (.if_icmp .lt 18, 3) := by decide +kernel
theorem dX5_repeatedPhrasesWith_26 : decode cX5_repeatedPhrasesWith 26 = .ok (.aload_n 0, 1) := by decide +kernel
theorem dX5_repeatedPhrasesWith_27 : decode cX5_repeatedPhrasesWith 27 = .ok (.getfield 21, 3) := by decide +kernel
theorem dX5_repeatedPhrasesWith_30 : decode cX5_repeatedPhrasesWith 30 = .ok (.iload_n 3, 1) := by decide +kernel
theorem dX5_repeatedPhrasesWith_31 : decode cX5_repeatedPhrasesWith 31 = .ok (.iconst 1, 1) := by decide +kernel
theorem dX5_repeatedPhrasesWith_32 : decode cX5_repeatedPhrasesWith 32 = .ok (.isub, 1) := by decide +kernel
theorem dX5_repeatedPhrasesWith_33 : decode cX5_repeatedPhrasesWith 33 = .ok (.iaload, 1) := by decide +kernel
theorem dX5_repeatedPhrasesWith_34 : decode cX5_repeatedPhrasesWith 34 = .ok (.iload_n 1, 1) := by decide +kernel
theorem dX5_repeatedPhrasesWith_35 : decode cX5_repeatedPhrasesWith 35 = .ok (.if_icmp .ge 6, 3) := by decide +kernel
theorem dX5_repeatedPhrasesWith_38 : decode cX5_repeatedPhrasesWith 38 = .ok (.iinc 2 1, 3) := by decide +kernel
theorem dX5_repeatedPhrasesWith_41 : decode cX5_repeatedPhrasesWith 41 = .ok (.iinc 3 1, 3) := by decide +kernel
theorem dX5_repeatedPhrasesWith_44 : decode cX5_repeatedPhrasesWith 44 = .ok (.goto (-36), 3) := by decide +kernel
theorem dX5_repeatedPhrasesWith_47 : decode cX5_repeatedPhrasesWith 47 = .ok (.iload_n 2, 1) := by decide +kernel
theorem dX5_repeatedPhrasesWith_48 : decode cX5_repeatedPhrasesWith 48 = .ok (.ireturn, 1) := by decide +kernel
theorem dX5_firstPlaceOfRepeat_0 : decode cX5_firstPlaceOfRepeat 0 = .ok (.aload_n 0, 1) := by decide +kernel
theorem dX5_firstPlaceOfRepeat_1 : decode cX5_firstPlaceOfRepeat 1 = .ok (.invokevirtual 64, 3) := by decide +kernel
theorem dX5_firstPlaceOfRepeat_4 : decode cX5_firstPlaceOfRepeat 4 = .ok (.istore_n 1, 1) := by decide +kernel
theorem dX5_firstPlaceOfRepeat_5 : decode cX5_firstPlaceOfRepeat 5 = .ok (.iload_n 1, 1) := by decide +kernel
theorem dX5_firstPlaceOfRepeat_6 : decode cX5_firstPlaceOfRepeat 6 = .ok (.ifCond .ge 5, 3) := by decide +kernel
theorem dX5_firstPlaceOfRepeat_9 : decode cX5_firstPlaceOfRepeat 9 = .ok (.iconst (-1), 1) := by decide +kernel
theorem dX5_firstPlaceOfRepeat_10 : decode cX5_firstPlaceOfRepeat 10 = .ok (.ireturn, 1) := by decide +kernel
theorem dX5_firstPlaceOfRepeat_11 : decode cX5_firstPlaceOfRepeat 11 = .ok (.aload_n 0, 1) := by decide +kernel
theorem dX5_firstPlaceOfRepeat_12 : decode cX5_firstPlaceOfRepeat 12 = .ok (.getfield 18, 3) := by decide +kernel
theorem dX5_firstPlaceOfRepeat_15 : decode cX5_firstPlaceOfRepeat 15 = .ok (.iload_n 1, 1) := by decide +kernel
theorem dX5_firstPlaceOfRepeat_16 : decode cX5_firstPlaceOfRepeat 16 = .ok (.iaload, 1) := by decide +kernel
theorem dX5_firstPlaceOfRepeat_17 : decode cX5_firstPlaceOfRepeat 17 = .ok (.istore_n 2, 1) := by decide +kernel
theorem dX5_firstPlaceOfRepeat_18 : decode cX5_firstPlaceOfRepeat 18 = .ok (.iload_n 1, 1) := by decide +kernel
theorem dX5_firstPlaceOfRepeat_19 : decode cX5_firstPlaceOfRepeat 19 = .ok (.iconst 1, 1) := by decide +kernel
theorem dX5_firstPlaceOfRepeat_20 : decode cX5_firstPlaceOfRepeat 20 = .ok (.iadd, 1) := by decide +kernel
theorem dX5_firstPlaceOfRepeat_21 : decode cX5_firstPlaceOfRepeat 21 = .ok (.istore_n 3, 1) := by decide +kernel
theorem dX5_firstPlaceOfRepeat_22 : decode cX5_firstPlaceOfRepeat 22 = .ok (.iload_n 3, 1) := by decide +kernel
theorem dX5_firstPlaceOfRepeat_23 : decode cX5_firstPlaceOfRepeat 23 = .ok (.aload_n 0, 1) := by decide +kernel
theorem dX5_firstPlaceOfRepeat_24 : decode cX5_firstPlaceOfRepeat 24 = .ok (.getfield 27, 3) := by decide +kernel
theorem dX5_firstPlaceOfRepeat_27 : decode cX5_firstPlaceOfRepeat 27 = .ok (.if_icmp .ge 33, 3) := by decide +kernel
theorem dX5_firstPlaceOfRepeat_30 : decode cX5_firstPlaceOfRepeat 30 = .ok (.aload_n 0, 1) := by decide +kernel
theorem dX5_firstPlaceOfRepeat_31 : decode cX5_firstPlaceOfRepeat 31 = .ok (.getfield 21, 3) := by decide +kernel
theorem dX5_firstPlaceOfRepeat_34 : decode cX5_firstPlaceOfRepeat 34 = .ok (.iload_n 3, 1) := by decide +kernel
theorem dX5_firstPlaceOfRepeat_35 : decode cX5_firstPlaceOfRepeat 35 = .ok (.iaload, 1) := by decide +kernel
theorem dX5_firstPlaceOfRepeat_36 : decode cX5_firstPlaceOfRepeat 36 = .ok (.aload_n 0, 1) := by decide +kernel
theorem dX5_firstPlaceOfRepeat_37 : decode cX5_firstPlaceOfRepeat 37 = .ok (.getfield 58, 3) := by decide +kernel
theorem dX5_firstPlaceOfRepeat_40 : decode cX5_firstPlaceOfRepeat 40 = .ok (.if_icmp .lt 20, 3) := by decide +kernel
theorem dX5_firstPlaceOfRepeat_43 : decode cX5_firstPlaceOfRepeat 43 = .ok (.iload_n 2, 1) := by decide +kernel
theorem dX5_firstPlaceOfRepeat_44 : decode cX5_firstPlaceOfRepeat 44 = .ok (.aload_n 0, 1) := by decide +kernel
theorem dX5_firstPlaceOfRepeat_45 : decode cX5_firstPlaceOfRepeat 45 = .ok (.getfield 18, 3) := by decide +kernel
theorem dX5_firstPlaceOfRepeat_48 : decode cX5_firstPlaceOfRepeat 48 = .ok (.iload_n 3, 1) := by decide +kernel
theorem dX5_firstPlaceOfRepeat_49 : decode cX5_firstPlaceOfRepeat 49 = .ok (.iaload, 1) := by decide +kernel
theorem dX5_firstPlaceOfRepeat_50 : decode cX5_firstPlaceOfRepeat 50 = .ok (.invokestatic 46, 3) := by decide +kernel
theorem dX5_firstPlaceOfRepeat_53 : decode cX5_firstPlaceOfRepeat 53 = .ok (.istore_n 2, 1) := by decide +kernel
theorem dX5_firstPlaceOfRepeat_54 : decode cX5_firstPlaceOfRepeat 54 = .ok (.iinc 3 1, 3) := by decide +kernel
theorem dX5_firstPlaceOfRepeat_57 : decode cX5_firstPlaceOfRepeat 57 = .ok (.goto (-35), 3) := by decide +kernel
theorem dX5_firstPlaceOfRepeat_60 : decode cX5_firstPlaceOfRepeat 60 = .ok (.iload_n 2, 1) := by decide +kernel
theorem dX5_firstPlaceOfRepeat_61 : decode cX5_firstPlaceOfRepeat 61 = .ok (.ireturn, 1) := by decide +kernel
theorem dX5_placesOfRepeat_0 : decode cX5_placesOfRepeat 0 = .ok (.aload_n 0, 1) := by decide +kernel
theorem dX5_placesOfRepeat_1 : decode cX5_placesOfRepeat 1 = .ok (.invokevirtual 64, 3) := by decide +kernel
theorem dX5_placesOfRepeat_4 : decode cX5_placesOfRepeat 4 = .ok (.istore_n 1, 1) := by decide +kernel
theorem dX5_placesOfRepeat_5 : decode cX5_placesOfRepeat 5 = .ok (.iload_n 1, 1) := by decide +kernel
theorem dX5_placesOfRepeat_6 : decode cX5_placesOfRepeat 6 = .ok (.ifCond .ge 5, 3) := by decide +kernel
theorem dX5_placesOfRepeat_9 : decode cX5_placesOfRepeat 9 = .ok (.iconst 0, 1) := by decide +kernel
theorem dX5_placesOfRepeat_10 : decode cX5_placesOfRepeat 10 = .ok (.ireturn, 1) := by decide +kernel
theorem dX5_placesOfRepeat_11 : decode cX5_placesOfRepeat 11 = .ok (.iconst 1, 1) := by decide +kernel
theorem dX5_placesOfRepeat_12 : decode cX5_placesOfRepeat 12 = .ok (.istore_n 2, 1) := by decide +kernel
theorem dX5_placesOfRepeat_13 : decode cX5_placesOfRepeat 13 = .ok (.iload_n 1, 1) := by decide +kernel
theorem dX5_placesOfRepeat_14 : decode cX5_placesOfRepeat 14 = .ok (.iconst 1, 1) := by decide +kernel
theorem dX5_placesOfRepeat_15 : decode cX5_placesOfRepeat 15 = .ok (.iadd, 1) := by decide +kernel
theorem dX5_placesOfRepeat_16 : decode cX5_placesOfRepeat 16 = .ok (.istore_n 3, 1) := by decide +kernel
theorem dX5_placesOfRepeat_17 : decode cX5_placesOfRepeat 17 = .ok (.iload_n 3, 1) := by decide +kernel
theorem dX5_placesOfRepeat_18 : decode cX5_placesOfRepeat 18 = .ok (.aload_n 0, 1) := by decide +kernel
theorem dX5_placesOfRepeat_19 : decode cX5_placesOfRepeat 19 = .ok (.getfield 27, 3) := by decide +kernel
theorem dX5_placesOfRepeat_22 : decode cX5_placesOfRepeat 22 = .ok (.if_icmp .ge 25, 3) := by decide +kernel
theorem dX5_placesOfRepeat_25 : decode cX5_placesOfRepeat 25 = .ok (.aload_n 0, 1) := by decide +kernel
theorem dX5_placesOfRepeat_26 : decode cX5_placesOfRepeat 26 = .ok (.getfield 21, 3) := by decide +kernel
theorem dX5_placesOfRepeat_29 : decode cX5_placesOfRepeat 29 = .ok (.iload_n 3, 1) := by decide +kernel
theorem dX5_placesOfRepeat_30 : decode cX5_placesOfRepeat 30 = .ok (.iaload, 1) := by decide +kernel
theorem dX5_placesOfRepeat_31 : decode cX5_placesOfRepeat 31 = .ok (.aload_n 0, 1) := by decide +kernel
theorem dX5_placesOfRepeat_32 : decode cX5_placesOfRepeat 32 = .ok (.getfield 58, 3) := by decide +kernel
theorem dX5_placesOfRepeat_35 : decode cX5_placesOfRepeat 35 = .ok (.if_icmp .lt 12, 3) := by decide +kernel
theorem dX5_placesOfRepeat_38 : decode cX5_placesOfRepeat 38 = .ok (.iinc 2 1, 3) := by decide +kernel
theorem dX5_placesOfRepeat_41 : decode cX5_placesOfRepeat 41 = .ok (.iinc 3 1, 3) := by decide +kernel
theorem dX5_placesOfRepeat_44 : decode cX5_placesOfRepeat 44 = .ok (.goto (-27), 3) := by decide +kernel
theorem dX5_placesOfRepeat_47 : decode cX5_placesOfRepeat 47 = .ok (.iload_n 2, 1) := by decide +kernel
theorem dX5_placesOfRepeat_48 : decode cX5_placesOfRepeat 48 = .ok (.ireturn, 1) := by decide +kernel
theorem dX5_firstRankOfRepeat_0 : decode cX5_firstRankOfRepeat 0 = .ok (.aload_n 0, 1) := by decide +kernel
theorem dX5_firstRankOfRepeat_1 : decode cX5_firstRankOfRepeat 1 = .ok (.invokevirtual 55, 3) := by decide +kernel
theorem dX5_firstRankOfRepeat_4 : decode cX5_firstRankOfRepeat 4 = .ok (.iconst 1, 1) := by decide +kernel
theorem dX5_firstRankOfRepeat_5 : decode cX5_firstRankOfRepeat 5 = .ok (.istore_n 1, 1) := by decide +kernel
theorem dX5_firstRankOfRepeat_6 : decode cX5_firstRankOfRepeat 6 = .ok (.iload_n 1, 1) := by decide +kernel
theorem dX5_firstRankOfRepeat_7 : decode cX5_firstRankOfRepeat 7 = .ok (.aload_n 0, 1) := by decide +kernel
theorem dX5_firstRankOfRepeat_8 : decode cX5_firstRankOfRepeat 8 = .ok (.getfield 27, 3) := by decide +kernel
theorem dX5_firstRankOfRepeat_11 : decode cX5_firstRankOfRepeat 11 = .ok (.if_icmp .ge 33, 3) := by decide +kernel
theorem dX5_firstRankOfRepeat_14 : decode cX5_firstRankOfRepeat 14 = .ok (.aload_n 0, 1) := by decide +kernel
theorem dX5_firstRankOfRepeat_15 : decode cX5_firstRankOfRepeat 15 = .ok (.getfield 58, 3) := by decide +kernel
theorem dX5_firstRankOfRepeat_18 : decode cX5_firstRankOfRepeat 18 = .ok (.ifCond .le 20, 3) := by decide +kernel
theorem dX5_firstRankOfRepeat_21 : decode cX5_firstRankOfRepeat 21 = .ok (.aload_n 0, 1) := by decide +kernel
theorem dX5_firstRankOfRepeat_22 : decode cX5_firstRankOfRepeat 22 = .ok (.getfield 21, 3) := by decide +kernel
theorem dX5_firstRankOfRepeat_25 : decode cX5_firstRankOfRepeat 25 = .ok (.iload_n 1, 1) := by decide +kernel
theorem dX5_firstRankOfRepeat_26 : decode cX5_firstRankOfRepeat 26 = .ok (.iaload, 1) := by decide +kernel
theorem dX5_firstRankOfRepeat_27 : decode cX5_firstRankOfRepeat 27 = .ok (.aload_n 0, 1) := by decide +kernel
theorem dX5_firstRankOfRepeat_28 : decode cX5_firstRankOfRepeat 28 = .ok (.getfield 58, 3) := by decide +kernel
theorem dX5_firstRankOfRepeat_31 : decode cX5_firstRankOfRepeat 31 = .ok (.if_icmp .ne 7, 3) := by decide +kernel
theorem dX5_firstRankOfRepeat_34 : decode cX5_firstRankOfRepeat 34 = .ok (.iload_n 1, 1) := by decide +kernel
theorem dX5_firstRankOfRepeat_35 : decode cX5_firstRankOfRepeat 35 = .ok (.iconst 1, 1) := by decide +kernel
theorem dX5_firstRankOfRepeat_36 : decode cX5_firstRankOfRepeat 36 = .ok (.isub, 1) := by decide +kernel
theorem dX5_firstRankOfRepeat_37 : decode cX5_firstRankOfRepeat 37 = .ok (.ireturn, 1) := by decide +kernel
theorem dX5_firstRankOfRepeat_38 : decode cX5_firstRankOfRepeat 38 = .ok (.iinc 1 1, 3) := by decide +kernel
theorem dX5_firstRankOfRepeat_41 : decode cX5_firstRankOfRepeat 41 = .ok (.goto (-35), 3) := by decide +kernel
theorem dX5_firstRankOfRepeat_44 : decode cX5_firstRankOfRepeat 44 = .ok (.iconst (-1), 1) := by decide +kernel
theorem dX5_firstRankOfRepeat_45 : decode cX5_firstRankOfRepeat 45 = .ok (.ireturn, 1) := by decide +kernel
theorem dX5_endStandingEarlier_0 : decode cX5_endStandingEarlier 0 = .ok (.iconst 0, 1) := by decide +kernel
theorem dX5_endStandingEarlier_1 : decode cX5_endStandingEarlier 1 = .ok (.istore_n 1, 1) := by decide +kernel
theorem dX5_endStandingEarlier_2 : decode cX5_endStandingEarlier 2 = .ok (.iconst 0, 1) := by decide +kernel
theorem dX5_endStandingEarlier_3 : decode cX5_endStandingEarlier 3 = .ok (.istore_n 2, 1) := by decide +kernel
theorem dX5_endStandingEarlier_4 : decode cX5_endStandingEarlier 4 = .ok (.iload_n 2, 1) := by decide +kernel
theorem dX5_endStandingEarlier_5 : decode cX5_endStandingEarlier 5 = .ok (.aload_n 0, 1) := by decide +kernel
theorem dX5_endStandingEarlier_6 : decode cX5_endStandingEarlier 6 = .ok (.getfield 27, 3) := by decide +kernel
theorem dX5_endStandingEarlier_9 : decode cX5_endStandingEarlier 9 = .ok (.iconst 1, 1) := by decide +kernel
theorem dX5_endStandingEarlier_10 : decode cX5_endStandingEarlier 10 = .ok (.isub, 1) := by decide +kernel
theorem dX5_endStandingEarlier_11 : decode cX5_endStandingEarlier 11 = .ok (.if_icmp .ge 52, 3) := by decide +kernel
theorem dX5_endStandingEarlier_14 : decode cX5_endStandingEarlier 14 = .ok (.iconst 0, 1) := by decide +kernel
theorem dX5_endStandingEarlier_15 : decode cX5_endStandingEarlier 15 = .ok (.istore_n 3, 1) := by decide +kernel
theorem dX5_endStandingEarlier_16 : decode cX5_endStandingEarlier 16 = .ok (.iload_n 3, 1) := by decide +kernel
theorem dX5_endStandingEarlier_17 : decode cX5_endStandingEarlier 17 = .ok (.iload_n 2, 1) := by decide +kernel
theorem dX5_endStandingEarlier_18 : decode cX5_endStandingEarlier 18 = .ok (.if_icmp .gt 33, 3) := by decide +kernel
theorem dX5_endStandingEarlier_21 : decode cX5_endStandingEarlier 21 = .ok (.aload_n 0, 1) := by decide +kernel
theorem dX5_endStandingEarlier_22 : decode cX5_endStandingEarlier 22 = .ok (.getfield 9, 3) := by decide +kernel
theorem dX5_endStandingEarlier_25 : decode cX5_endStandingEarlier 25 = .ok (.iload_n 2, 1) := by decide +kernel
theorem dX5_endStandingEarlier_26 : decode cX5_endStandingEarlier 26 = .ok (.iload_n 3, 1) := by decide +kernel
theorem dX5_endStandingEarlier_27 : decode cX5_endStandingEarlier 27 = .ok (.isub, 1) := by decide +kernel
theorem dX5_endStandingEarlier_28 : decode cX5_endStandingEarlier 28 = .ok (.iaload, 1) := by decide +kernel
theorem dX5_endStandingEarlier_29 : decode cX5_endStandingEarlier 29 = .ok (.aload_n 0, 1) := by decide +kernel
theorem dX5_endStandingEarlier_30 : decode cX5_endStandingEarlier 30 = .ok (.getfield 9, 3) := by decide +kernel
theorem dX5_endStandingEarlier_33 : decode cX5_endStandingEarlier 33 = .ok (.aload_n 0, 1) := by decide +kernel
theorem dX5_endStandingEarlier_34 : decode cX5_endStandingEarlier 34 = .ok (.getfield 27, 3) := by decide +kernel
theorem dX5_endStandingEarlier_37 : decode cX5_endStandingEarlier 37 = .ok (.iconst 1, 1) := by decide +kernel
theorem dX5_endStandingEarlier_38 : decode cX5_endStandingEarlier 38 = .ok (.isub, 1) := by decide +kernel
theorem dX5_endStandingEarlier_39 : decode cX5_endStandingEarlier 39 = .ok (.iload_n 3, 1) := by decide +kernel
theorem dX5_endStandingEarlier_40 : decode cX5_endStandingEarlier 40 = .ok (.isub, 1) := by decide +kernel
theorem dX5_endStandingEarlier_41 : decode cX5_endStandingEarlier 41 = .ok (.iaload, 1) := by decide +kernel
theorem dX5_endStandingEarlier_42 : decode cX5_endStandingEarlier 42 = .ok (.if_icmp .ne 9, 3) := by decide +kernel
theorem dX5_endStandingEarlier_45 : decode cX5_endStandingEarlier 45 = .ok (.iinc 3 1, 3) := by decide +kernel
theorem dX5_endStandingEarlier_48 : decode cX5_endStandingEarlier 48 = .ok (.goto (-32), 3) := by decide +kernel
theorem dX5_endStandingEarlier_51 : decode cX5_endStandingEarlier 51 = .ok (.iload_n 1, 1) := by decide +kernel
theorem dX5_endStandingEarlier_52 : decode cX5_endStandingEarlier 52 = .ok (.iload_n 3, 1) := by decide +kernel
theorem dX5_endStandingEarlier_53 : decode cX5_endStandingEarlier 53 = .ok (.invokestatic 52, 3) := by decide +kernel
theorem dX5_endStandingEarlier_56 : decode cX5_endStandingEarlier 56 = .ok (.istore_n 1, 1) := by decide +kernel
theorem dX5_endStandingEarlier_57 : decode cX5_endStandingEarlier 57 = .ok (.iinc 2 1, 3) := by decide +kernel
theorem dX5_endStandingEarlier_60 : decode cX5_endStandingEarlier 60 = .ok (.goto (-56), 3) := by decide +kernel
theorem dX5_endStandingEarlier_63 : decode cX5_endStandingEarlier 63 = .ok (.iload_n 1, 1) := by decide +kernel
theorem dX5_endStandingEarlier_64 : decode cX5_endStandingEarlier 64 = .ok (.ireturn, 1) := by decide +kernel
theorem dX5_isKnown_0 : decode cX5_isKnown 0 = .ok (.aload_n 0, 1) := by decide +kernel
theorem dX5_isKnown_1 : decode cX5_isKnown 1 = .ok (.aload_n 1, 1) := by decide +kernel
theorem dX5_isKnown_2 : decode cX5_isKnown 2 = .ok (.invokevirtual 68, 3) := by decide +kernel
theorem dX5_isKnown_5 : decode cX5_isKnown 5 = .ok (.ifCond .lt 7, 3) := by decide +kernel
theorem dX5_isKnown_8 : decode cX5_isKnown 8 = .ok (.iconst 1, 1) := by decide +kernel
theorem dX5_isKnown_9 : decode cX5_isKnown 9 = .ok (.goto 4, 3) := by decide +kernel
theorem dX5_isKnown_12 : decode cX5_isKnown 12 = .ok (.iconst 0, 1) := by decide +kernel
theorem dX5_isKnown_13 : decode cX5_isKnown 13 = .ok (.ireturn, 1) := by decide +kernel
theorem dX5_placesWith_0 : decode cX5_placesWith 0 = .ok (.iconst 0, 1) := by decide +kernel
theorem dX5_placesWith_1 : decode cX5_placesWith 1 = .ok (.istore_n 2, 1) := by decide +kernel
theorem dX5_placesWith_2 : decode cX5_placesWith 2 = .ok (.iconst 0, 1) := by decide +kernel
theorem dX5_placesWith_3 : decode cX5_placesWith 3 = .ok (.istore_n 3, 1) := by decide +kernel
theorem dX5_placesWith_4 : decode cX5_placesWith 4 = .ok (.iload_n 3, 1) := by decide +kernel
theorem dX5_placesWith_5 : decode cX5_placesWith 5 = .ok (.aload_n 0, 1) := by decide +kernel
theorem dX5_placesWith_6 : decode cX5_placesWith 6 = .ok (.getfield 27, 3) := by decide +kernel
theorem dX5_placesWith_9 : decode cX5_placesWith 9 = .ok (.if_icmp .ge 21, 3) := by decide +kernel
theorem dX5_placesWith_12 : decode cX5_placesWith 12 = .ok (.aload_n 0, 1) := by decide +kernel
theorem dX5_placesWith_13 : decode cX5_placesWith 13 = .ok (.aload_n 1, 1) := by decide +kernel
theorem dX5_placesWith_14 : decode cX5_placesWith 14 = .ok (.iload_n 3, 1) := by decide +kernel
theorem dX5_placesWith_15 : decode cX5_placesWith 15 = .ok (.invokevirtual 72, 3) := by decide +kernel
theorem dX5_placesWith_18 : decode cX5_placesWith 18 = .ok (.ifCond .eq 6, 3) := by decide +kernel
theorem dX5_placesWith_21 : decode cX5_placesWith 21 = .ok (.iinc 2 1, 3) := by decide +kernel
theorem dX5_placesWith_24 : decode cX5_placesWith 24 = .ok (.iinc 3 1, 3) := by decide +kernel
theorem dX5_placesWith_27 : decode cX5_placesWith 27 = .ok (.goto (-23), 3) := by decide +kernel
theorem dX5_placesWith_30 : decode cX5_placesWith 30 = .ok (.iload_n 2, 1) := by decide +kernel
theorem dX5_placesWith_31 : decode cX5_placesWith 31 = .ok (.ireturn, 1) := by decide +kernel
theorem dX5_firstPlaceWith_0 : decode cX5_firstPlaceWith 0 = .ok (.iconst 0, 1) := by decide +kernel
theorem dX5_firstPlaceWith_1 : decode cX5_firstPlaceWith 1 = .ok (.istore_n 2, 1) := by decide +kernel
theorem dX5_firstPlaceWith_2 : decode cX5_firstPlaceWith 2 = .ok (.iload_n 2, 1) := by decide +kernel
theorem dX5_firstPlaceWith_3 : decode cX5_firstPlaceWith 3 = .ok (.aload_n 0, 1) := by decide +kernel
theorem dX5_firstPlaceWith_4 : decode cX5_firstPlaceWith 4 = .ok (.getfield 27, 3) := by decide +kernel
theorem dX5_firstPlaceWith_7 : decode cX5_firstPlaceWith 7 = .ok (.if_icmp .ge 20, 3) := by decide +kernel
theorem dX5_firstPlaceWith_10 : decode cX5_firstPlaceWith 10 = .ok (.aload_n 0, 1) := by decide +kernel
theorem dX5_firstPlaceWith_11 : decode cX5_firstPlaceWith 11 = .ok (.aload_n 1, 1) := by decide +kernel
theorem dX5_firstPlaceWith_12 : decode cX5_firstPlaceWith 12 = .ok (.iload_n 2, 1) := by decide +kernel
theorem dX5_firstPlaceWith_13 : decode cX5_firstPlaceWith 13 = .ok (.invokevirtual 72, 3) := by decide +kernel
theorem dX5_firstPlaceWith_16 : decode cX5_firstPlaceWith 16 = .ok (.ifCond .eq 5, 3) := by decide +kernel
theorem dX5_firstPlaceWith_19 : decode cX5_firstPlaceWith 19 = .ok (.iload_n 2, 1) := by decide +kernel
theorem dX5_firstPlaceWith_20 : decode cX5_firstPlaceWith 20 = .ok (.ireturn, 1) := by decide +kernel
theorem dX5_firstPlaceWith_21 : decode cX5_firstPlaceWith 21 = .ok (.iinc 2 1, 3) := by decide +kernel
theorem dX5_firstPlaceWith_24 : decode cX5_firstPlaceWith 24 = .ok (.goto (-22), 3) := by decide +kernel
theorem dX5_firstPlaceWith_27 : decode cX5_firstPlaceWith 27 = .ok (.iconst (-1), 1) := by decide +kernel
theorem dX5_firstPlaceWith_28 : decode cX5_firstPlaceWith 28 = .ok (.ireturn, 1) := by decide +kernel
theorem dX5_lastPlaceWith_0 : decode cX5_lastPlaceWith 0 = .ok (.aload_n 0, 1) := by decide +kernel
theorem dX5_lastPlaceWith_1 : decode cX5_lastPlaceWith 1 = .ok (.getfield 27, 3) := by decide +kernel
theorem dX5_lastPlaceWith_4 : decode cX5_lastPlaceWith 4 = .ok (.iconst 1, 1) := by decide +kernel
theorem dX5_lastPlaceWith_5 : decode cX5_lastPlaceWith 5 = .ok (.isub, 1) := by decide +kernel
theorem dX5_lastPlaceWith_6 : decode cX5_lastPlaceWith 6 = .ok (.istore_n 2, 1) := by decide +kernel
theorem dX5_lastPlaceWith_7 : decode cX5_lastPlaceWith 7 = .ok (.iload_n 2, 1) := by decide +kernel
theorem dX5_lastPlaceWith_8 : decode cX5_lastPlaceWith 8 = .ok (.ifCond .lt 20, 3) := by decide +kernel
theorem dX5_lastPlaceWith_11 : decode cX5_lastPlaceWith 11 = .ok (.aload_n 0, 1) := by decide +kernel
theorem dX5_lastPlaceWith_12 : decode cX5_lastPlaceWith 12 = .ok (.aload_n 1, 1) := by decide +kernel
theorem dX5_lastPlaceWith_13 : decode cX5_lastPlaceWith 13 = .ok (.iload_n 2, 1) := by decide +kernel
theorem dX5_lastPlaceWith_14 : decode cX5_lastPlaceWith 14 = .ok (.invokevirtual 72, 3) := by decide +kernel
theorem dX5_lastPlaceWith_17 : decode cX5_lastPlaceWith 17 = .ok (.ifCond .eq 5, 3) := by decide +kernel
theorem dX5_lastPlaceWith_20 : decode cX5_lastPlaceWith 20 = .ok (.iload_n 2, 1) := by decide +kernel
theorem dX5_lastPlaceWith_21 : decode cX5_lastPlaceWith 21 = .ok (.ireturn, 1) := by decide +kernel
theorem dX5_lastPlaceWith_22 : decode cX5_lastPlaceWith 22 = .ok (.iinc 2 (-1), 3) := by decide +kernel
theorem dX5_lastPlaceWith_25 : decode cX5_lastPlaceWith 25 = .ok (.goto (-18), 3) := by decide +kernel
theorem dX5_lastPlaceWith_28 : decode cX5_lastPlaceWith 28 = .ok (.iconst (-1), 1) := by decide +kernel
theorem dX5_lastPlaceWith_29 : decode cX5_lastPlaceWith 29 = .ok (.ireturn, 1) := by decide +kernel
theorem dX5_halvingsTo_0 : decode cX5_halvingsTo 0 = .ok (.aload_n 0, 1) := by decide +kernel
theorem dX5_halvingsTo_1 : decode cX5_halvingsTo 1 = .ok (.invokevirtual 55, 3) := by decide +kernel
theorem dX5_halvingsTo_4 : decode cX5_halvingsTo 4 = .ok (.iconst 0, 1) := by decide +kernel
theorem dX5_halvingsTo_5 : decode cX5_halvingsTo 5 = .ok (.istore_n 2, 1) := by decide +kernel
theorem dX5_halvingsTo_6 : decode cX5_halvingsTo 6 = .ok (.aload_n 0, 1) := by decide +kernel
theorem dX5_halvingsTo_7 : decode cX5_halvingsTo 7 = .ok (.getfield 27, 3) := by decide +kernel
theorem dX5_halvingsTo_10 : decode cX5_halvingsTo 10 = .ok (.istore_n 3, 1) := by decide +kernel
theorem dX5_halvingsTo_11 : decode cX5_halvingsTo 11 = .ok (.iconst 0, 1) := by decide +kernel
theorem dX5_halvingsTo_12 : decode cX5_halvingsTo 12 = .ok (.istore 4, 2) := by decide +kernel
theorem dX5_halvingsTo_14 : decode cX5_halvingsTo 14 = .ok (.iload_n 2, 1) := by decide +kernel
theorem dX5_halvingsTo_15 : decode cX5_halvingsTo 15 = .ok (.iload_n 3, 1) := by decide +kernel
theorem dX5_halvingsTo_16 : decode cX5_halvingsTo 16 = .ok (.if_icmp .ge 49, 3) := by decide +kernel
theorem dX5_halvingsTo_19 : decode cX5_halvingsTo 19 = .ok (.iload 4, 2) := by decide +kernel
theorem dX5_halvingsTo_21 : decode cX5_halvingsTo 21 = .ok (.bipush 40, 2) := by decide +kernel
theorem dX5_halvingsTo_23 : decode cX5_halvingsTo 23 = .ok (.if_icmp .ge 42, 3) := by decide +kernel
theorem dX5_halvingsTo_26 : decode cX5_halvingsTo 26 = .ok (.iinc 4 1, 3) := by decide +kernel
theorem dX5_halvingsTo_29 : decode cX5_halvingsTo 29 = .ok (.iload_n 2, 1) := by decide +kernel
theorem dX5_halvingsTo_30 : decode cX5_halvingsTo 30 = .ok (.iload_n 3, 1) := by decide +kernel
theorem dX5_halvingsTo_31 : decode cX5_halvingsTo 31 = .ok (.iadd, 1) := by decide +kernel
theorem dX5_halvingsTo_32 : decode cX5_halvingsTo 32 = .ok (.iconst 2, 1) := by decide +kernel
theorem dX5_halvingsTo_33 : decode cX5_halvingsTo 33 = .ok (.idiv, 1) := by decide +kernel
theorem dX5_halvingsTo_34 : decode cX5_halvingsTo 34 = .ok (.istore 5, 2) := by decide +kernel
theorem dX5_halvingsTo_36 : decode cX5_halvingsTo 36 = .ok (.aload_n 0, 1) := by decide +kernel
theorem dX5_halvingsTo_37 : decode cX5_halvingsTo 37 = .ok (.aload_n 1, 1) := by decide +kernel
theorem dX5_halvingsTo_38 : decode cX5_halvingsTo 38 = .ok (.aload_n 0, 1) := by decide +kernel
theorem dX5_halvingsTo_39 : decode cX5_halvingsTo 39 = .ok (.getfield 18, 3) := by decide +kernel
theorem dX5_halvingsTo_42 : decode cX5_halvingsTo 42 = .ok (.iload 5, 2) := by decide +kernel
theorem dX5_halvingsTo_44 : decode cX5_halvingsTo 44 = .ok (.iaload, 1) := by decide +kernel
theorem dX5_halvingsTo_45 : decode cX5_halvingsTo 45 = .ok (.invokevirtual 76, 3) := by decide +kernel
theorem dX5_halvingsTo_48 : decode cX5_halvingsTo 48 = .ok (.ifCond .eq 11, 3) := by decide +kernel
theorem dX5_halvingsTo_51 : decode cX5_halvingsTo 51 = .ok (.iload 5, 2) := by decide +kernel
theorem dX5_halvingsTo_53 : decode cX5_halvingsTo 53 = .ok (.iconst 1, 1) := by decide +kernel
theorem dX5_halvingsTo_54 : decode cX5_halvingsTo 54 = .ok (.iadd, 1) := by decide +kernel
theorem dX5_halvingsTo_55 : decode cX5_halvingsTo 55 = .ok (.istore_n 2, 1) := by decide +kernel
theorem dX5_halvingsTo_56 : decode cX5_halvingsTo 56 = .ok (.goto 6, 3) := by decide +kernel
theorem dX5_halvingsTo_59 : decode cX5_halvingsTo 59 = .ok (.iload 5, 2) := by decide +kernel
theorem dX5_halvingsTo_61 : decode cX5_halvingsTo 61 = .ok (.istore_n 3, 1) := by decide +kernel
theorem dX5_halvingsTo_62 : decode cX5_halvingsTo 62 = .ok (.goto (-48), 3) := by decide +kernel
theorem dX5_halvingsTo_65 : decode cX5_halvingsTo 65 = .ok (.iload 4, 2) := by decide +kernel
theorem dX5_halvingsTo_67 : decode cX5_halvingsTo 67 = .ok (.ireturn, 1) := by decide +kernel
theorem dX5_standsAt_0 : decode cX5_standsAt 0 = .ok (.iload_n 2, 1) := by decide +kernel
theorem dX5_standsAt_1 : decode cX5_standsAt 1 = .ok (.ifCond .lt 16, 3) := by decide +kernel
theorem dX5_standsAt_4 : decode cX5_standsAt 4 = .ok (.iload_n 2, 1) := by decide +kernel
theorem dX5_standsAt_5 : decode cX5_standsAt 5 = .ok (.aload_n 1, 1) := by decide +kernel
theorem dX5_standsAt_6 : decode cX5_standsAt 6 = .ok (.getfield 39, 3) := by decide +kernel
theorem dX5_standsAt_9 : decode cX5_standsAt 9 = .ok (.iadd, 1) := by decide +kernel
theorem dX5_standsAt_10 : decode cX5_standsAt 10 = .ok (.aload_n 0, 1) := by decide +kernel
theorem dX5_standsAt_11 : decode cX5_standsAt 11 = .ok (.getfield 27, 3) := by decide +kernel
theorem dX5_standsAt_14 : decode cX5_standsAt 14 = .ok (.if_icmp .le 5, 3) := by decide +kernel
theorem dX5_standsAt_17 : decode cX5_standsAt 17 = .ok (.iconst 0, 1) := by decide +kernel
theorem dX5_standsAt_18 : decode cX5_standsAt 18 = .ok (.ireturn, 1) := by decide +kernel
theorem dX5_standsAt_19 : decode cX5_standsAt 19 = .ok (.iconst 0, 1) := by decide +kernel
theorem dX5_standsAt_20 : decode cX5_standsAt 20 = .ok (.istore_n 3, 1) := by decide +kernel
theorem dX5_standsAt_21 : decode cX5_standsAt 21 = .ok (.iload_n 3, 1) := by decide +kernel
theorem dX5_standsAt_22 : decode cX5_standsAt 22 = .ok (.aload_n 1, 1) := by decide +kernel
theorem dX5_standsAt_23 : decode cX5_standsAt 23 = .ok (.getfield 39, 3) := by decide +kernel
theorem dX5_standsAt_26 : decode cX5_standsAt 26 = .ok (.if_icmp .ge 28, 3) := by decide +kernel
theorem dX5_standsAt_29 : decode cX5_standsAt 29 = .ok (.aload_n 0, 1) := by decide +kernel
theorem dX5_standsAt_30 : decode cX5_standsAt 30 = .ok (.getfield 9, 3) := by decide +kernel
theorem dX5_standsAt_33 : decode cX5_standsAt 33 = .ok (.iload_n 2, 1) := by decide +kernel
theorem dX5_standsAt_34 : decode cX5_standsAt 34 = .ok (.iload_n 3, 1) := by decide +kernel
theorem dX5_standsAt_35 : decode cX5_standsAt 35 = .ok (.iadd, 1) := by decide +kernel
theorem dX5_standsAt_36 : decode cX5_standsAt 36 = .ok (.iaload, 1) := by decide +kernel
theorem dX5_standsAt_37 : decode cX5_standsAt 37 = .ok (.aload_n 1, 1) := by decide +kernel
theorem dX5_standsAt_38 : decode cX5_standsAt 38 = .ok (.getfield 42, 3) := by decide +kernel
theorem dX5_standsAt_41 : decode cX5_standsAt 41 = .ok (.iload_n 3, 1) := by decide +kernel
theorem dX5_standsAt_42 : decode cX5_standsAt 42 = .ok (.iaload, 1) := by decide +kernel
theorem dX5_standsAt_43 : decode cX5_standsAt 43 = .ok (.if_icmp .eq 5, 3) := by decide +kernel
theorem dX5_standsAt_46 : decode cX5_standsAt 46 = .ok (.iconst 0, 1) := by decide +kernel
theorem dX5_standsAt_47 : decode cX5_standsAt 47 = .ok (.ireturn, 1) := by decide +kernel
theorem dX5_standsAt_48 : decode cX5_standsAt 48 = .ok (.iinc 3 1, 3) := by decide +kernel
theorem dX5_standsAt_51 : decode cX5_standsAt 51 = .ok (.goto (-30), 3) := by decide +kernel
theorem dX5_standsAt_54 : decode cX5_standsAt 54 = .ok (.iconst 1, 1) := by decide +kernel
theorem dX5_standsAt_55 : decode cX5_standsAt 55 = .ok (.ireturn, 1) := by decide +kernel
theorem dX5_isAheadOf_0 : decode cX5_isAheadOf 0 = .ok (.iconst 0, 1) := by decide +kernel
theorem dX5_isAheadOf_1 : decode cX5_isAheadOf 1 = .ok (.istore_n 3, 1) := by decide +kernel
theorem dX5_isAheadOf_2 : decode cX5_isAheadOf 2 = .ok (.iload_n 3, 1) := by decide +kernel
theorem dX5_isAheadOf_3 : decode cX5_isAheadOf 3 = .ok (.aload_n 1, 1) := by decide +kernel
theorem dX5_isAheadOf_4 : decode cX5_isAheadOf 4 = .ok (.getfield 39, 3) := by decide +kernel
theorem dX5_isAheadOf_7 : decode cX5_isAheadOf 7 = .ok (.if_icmp .ge 61, 3) := by decide +kernel
theorem dX5_isAheadOf_10 : decode cX5_isAheadOf 10 = .ok (.iload_n 2, 1) := by decide +kernel
theorem dX5_isAheadOf_11 : decode cX5_isAheadOf 11 = .ok (.iload_n 3, 1) := by decide +kernel
theorem dX5_isAheadOf_12 : decode cX5_isAheadOf 12 = .ok (.iadd, 1) := by decide +kernel
theorem dX5_isAheadOf_13 : decode cX5_isAheadOf 13 = .ok (.aload_n 0, 1) := by decide +kernel
theorem dX5_isAheadOf_14 : decode cX5_isAheadOf 14 = .ok (.getfield 27, 3) := by decide +kernel
theorem dX5_isAheadOf_17 : decode cX5_isAheadOf 17 = .ok (.if_icmp .lt 5, 3) := by decide +kernel
theorem dX5_isAheadOf_20 : decode cX5_isAheadOf 20 = .ok (.iconst 1, 1) := by decide +kernel
theorem dX5_isAheadOf_21 : decode cX5_isAheadOf 21 = .ok (.ireturn, 1) := by decide +kernel
theorem dX5_isAheadOf_22 : decode cX5_isAheadOf 22 = .ok (.aload_n 0, 1) := by decide +kernel
theorem dX5_isAheadOf_23 : decode cX5_isAheadOf 23 = .ok (.getfield 9, 3) := by decide +kernel
theorem dX5_isAheadOf_26 : decode cX5_isAheadOf 26 = .ok (.iload_n 2, 1) := by decide +kernel
theorem dX5_isAheadOf_27 : decode cX5_isAheadOf 27 = .ok (.iload_n 3, 1) := by decide +kernel
theorem dX5_isAheadOf_28 : decode cX5_isAheadOf 28 = .ok (.iadd, 1) := by decide +kernel
theorem dX5_isAheadOf_29 : decode cX5_isAheadOf 29 = .ok (.iaload, 1) := by decide +kernel
theorem dX5_isAheadOf_30 : decode cX5_isAheadOf 30 = .ok (.aload_n 1, 1) := by decide +kernel
theorem dX5_isAheadOf_31 : decode cX5_isAheadOf 31 = .ok (.getfield 42, 3) := by decide +kernel
theorem dX5_isAheadOf_34 : decode cX5_isAheadOf 34 = .ok (.iload_n 3, 1) := by decide +kernel
theorem dX5_isAheadOf_35 : decode cX5_isAheadOf 35 = .ok (.iaload, 1) := by decide +kernel
theorem dX5_isAheadOf_36 : decode cX5_isAheadOf 36 = .ok (.if_icmp .eq 26, 3) := by decide +kernel
theorem dX5_isAheadOf_39 : decode cX5_isAheadOf 39 = .ok (.aload_n 0, 1) := by decide +kernel
theorem dX5_isAheadOf_40 : decode cX5_isAheadOf 40 = .ok (.getfield 9, 3) := by decide +kernel
theorem dX5_isAheadOf_43 : decode cX5_isAheadOf 43 = .ok (.iload_n 2, 1) := by decide +kernel
theorem dX5_isAheadOf_44 : decode cX5_isAheadOf 44 = .ok (.iload_n 3, 1) := by decide +kernel
theorem dX5_isAheadOf_45 : decode cX5_isAheadOf 45 = .ok (.iadd, 1) := by decide +kernel
theorem dX5_isAheadOf_46 : decode cX5_isAheadOf 46 = .ok (.iaload, 1) := by decide +kernel
theorem dX5_isAheadOf_47 : decode cX5_isAheadOf 47 = .ok (.aload_n 1, 1) := by decide +kernel
theorem dX5_isAheadOf_48 : decode cX5_isAheadOf 48 = .ok (.getfield 42, 3) := by decide +kernel
theorem dX5_isAheadOf_51 : decode cX5_isAheadOf 51 = .ok (.iload_n 3, 1) := by decide +kernel
theorem dX5_isAheadOf_52 : decode cX5_isAheadOf 52 = .ok (.iaload, 1) := by decide +kernel
theorem dX5_isAheadOf_53 : decode cX5_isAheadOf 53 = .ok (.if_icmp .ge 7, 3) := by decide +kernel
theorem dX5_isAheadOf_56 : decode cX5_isAheadOf 56 = .ok (.iconst 1, 1) := by decide +kernel
theorem dX5_isAheadOf_57 : decode cX5_isAheadOf 57 = .ok (.goto 4, 3) := by decide +kernel
theorem dX5_isAheadOf_60 : decode cX5_isAheadOf 60 = .ok (.iconst 0, 1) := by decide +kernel
theorem dX5_isAheadOf_61 : decode cX5_isAheadOf 61 = .ok (.ireturn, 1) := by decide +kernel
theorem dX5_isAheadOf_62 : decode cX5_isAheadOf 62 = .ok (.iinc 3 1, 3) := by decide +kernel
theorem dX5_isAheadOf_65 : decode cX5_isAheadOf 65 = .ok (.goto (-63), 3) := by decide +kernel
theorem dX5_isAheadOf_68 : decode cX5_isAheadOf 68 = .ok (.iconst 0, 1) := by decide +kernel
theorem dX5_isAheadOf_69 : decode cX5_isAheadOf 69 = .ok (.ireturn, 1) := by decide +kernel
theorem dX5_sort_0 : decode cX5_sort 0 = .ok (.aload_n 0, 1) := by decide +kernel
theorem dX5_sort_1 : decode cX5_sort 1 = .ok (.getfield 31, 3) := by decide +kernel
theorem dX5_sort_4 : decode cX5_sort 4 = .ok (.ifCond .eq 4, 3) := by decide +kernel
theorem dX5_sort_7 : decode cX5_sort 7 = .ok (.return_, 1) := by decide +kernel
theorem dX5_sort_8 : decode cX5_sort 8 = .ok (.iconst 0, 1) := by decide +kernel
theorem dX5_sort_9 : decode cX5_sort 9 = .ok (.istore_n 1, 1) := by decide +kernel
theorem dX5_sort_10 : decode cX5_sort 10 = .ok (.iload_n 1, 1) := by decide +kernel
theorem dX5_sort_11 : decode cX5_sort 11 = .ok (.aload_n 0, 1) := by decide +kernel
theorem dX5_sort_12 : decode cX5_sort 12 = .ok (.getfield 27, 3) := by decide +kernel
theorem dX5_sort_15 : decode cX5_sort 15 = .ok (.if_icmp .ge 16, 3) := by decide +kernel
theorem dX5_sort_18 : decode cX5_sort 18 = .ok (.aload_n 0, 1) := by decide +kernel
theorem dX5_sort_19 : decode cX5_sort 19 = .ok (.getfield 15, 3) := by decide +kernel
theorem dX5_sort_22 : decode cX5_sort 22 = .ok (.iload_n 1, 1) := by decide +kernel
theorem dX5_sort_23 : decode cX5_sort 23 = .ok (.iconst 0, 1) := by decide +kernel
theorem dX5_sort_24 : decode cX5_sort 24 = .ok (.iastore, 1) := by decide +kernel
theorem dX5_sort_25 : decode cX5_sort 25 = .ok (.iinc 1 1, 3) := by decide +kernel
theorem dX5_sort_28 : decode cX5_sort 28 = .ok (.goto (-18), 3) := by decide +kernel
theorem dX5_sort_31 : decode cX5_sort 31 = .ok (.iconst 1, 1) := by decide +kernel
theorem dX5_sort_32 : decode cX5_sort 32 = .ok (.istore_n 1, 1) := by decide +kernel
theorem dX5_sort_33 : decode cX5_sort 33 = .ok (.iload_n 1, 1) := by decide +kernel
theorem dX5_sort_34 : decode cX5_sort 34 = .ok (.aload_n 0, 1) := by decide +kernel
theorem dX5_sort_35 : decode cX5_sort 35 = .ok (.getfield 27, 3) := by decide +kernel
theorem dX5_sort_38 : decode cX5_sort 38 = .ok (.if_icmp .ge 14, 3) := by decide +kernel
theorem dX5_sort_41 : decode cX5_sort 41 = .ok (.aload_n 0, 1) := by decide +kernel
theorem dX5_sort_42 : decode cX5_sort 42 = .ok (.iload_n 1, 1) := by decide +kernel
theorem dX5_sort_43 : decode cX5_sort 43 = .ok (.invokevirtual 79, 3) := by decide +kernel
theorem dX5_sort_46 : decode cX5_sort 46 = .ok (.iinc 1 1, 3) := by decide +kernel
theorem dX5_sort_49 : decode cX5_sort 49 = .ok (.goto (-16), 3) := by decide +kernel
theorem dX5_sort_52 : decode cX5_sort 52 = .ok (.iconst 0, 1) := by decide +kernel
theorem dX5_sort_53 : decode cX5_sort 53 = .ok (.istore_n 1, 1) := by decide +kernel
theorem dX5_sort_54 : decode cX5_sort 54 = .ok (.iload_n 1, 1) := by decide +kernel
theorem dX5_sort_55 : decode cX5_sort 55 = .ok (.aload_n 0, 1) := by decide +kernel
theorem dX5_sort_56 : decode cX5_sort 56 = .ok (.getfield 27, 3) := by decide +kernel
theorem dX5_sort_59 : decode cX5_sort 59 = .ok (.if_icmp .ge 35, 3) := by decide +kernel
theorem dX5_sort_62 : decode cX5_sort 62 = .ok (.aload_n 0, 1) := by decide +kernel
theorem dX5_sort_63 : decode cX5_sort 63 = .ok (.getfield 15, 3) := by decide +kernel
theorem dX5_sort_66 : decode cX5_sort 66 = .ok (.iload_n 1, 1) := by decide +kernel
theorem dX5_sort_67 : decode cX5_sort 67 = .ok (.iaload, 1) := by decide +kernel
theorem dX5_sort_68 : decode cX5_sort 68 = .ok (.istore_n 2, 1) := by decide +kernel
theorem dX5_sort_69 : decode cX5_sort 69 = .ok (.iload_n 2, 1) := by decide +kernel
theorem dX5_sort_70 : decode cX5_sort 70 = .ok (.ifCond .lt 18, 3) := by decide +kernel
theorem dX5_sort_73 : decode cX5_sort 73 = .ok (.iload_n 2, 1) := by decide +kernel
theorem dX5_sort_74 : decode cX5_sort 74 = .ok (.aload_n 0, 1) := by decide +kernel
theorem dX5_sort_75 : decode cX5_sort 75 = .ok (.getfield 27, 3) := by decide +kernel
theorem dX5_sort_78 : decode cX5_sort 78 = .ok (.if_icmp .ge 10, 3) := by decide +kernel
theorem dX5_sort_81 : decode cX5_sort 81 = .ok (.aload_n 0, 1) := by decide +kernel
theorem dX5_sort_82 : decode cX5_sort 82 = .ok (.getfield 18, 3) := by decide +kernel
theorem dX5_sort_85 : decode cX5_sort 85 = .ok (.iload_n 2, 1) := by decide +kernel
theorem dX5_sort_86 : decode cX5_sort 86 = .ok (.iload_n 1, 1) := by decide +kernel
theorem dX5_sort_87 : decode cX5_sort 87 = .ok (.iastore, 1) := by decide +kernel
theorem dX5_sort_88 : decode cX5_sort 88 = .ok (.iinc 1 1, 3) := by decide +kernel
theorem dX5_sort_91 : decode cX5_sort 91 = .ok (.goto (-37), 3) := by decide +kernel
theorem dX5_sort_94 : decode cX5_sort 94 = .ok (.aload_n 0, 1) := by decide +kernel
theorem dX5_sort_95 : decode cX5_sort 95 = .ok (.iconst 0, 1) := by decide +kernel
theorem dX5_sort_96 : decode cX5_sort 96 = .ok (.putfield 58, 3) := by decide +kernel
theorem dX5_sort_99 : decode cX5_sort 99 = .ok (.aload_n 0, 1) := by decide +kernel
theorem dX5_sort_100 : decode cX5_sort 100 = .ok (.iconst 0, 1) := by decide +kernel
theorem dX5_sort_101 : decode cX5_sort 101 = .ok (.putfield 61, 3) := by decide +kernel
theorem dX5_sort_104 : decode cX5_sort 104 = .ok (.iconst 0, 1) := by decide +kernel
theorem dX5_sort_105 : decode cX5_sort 105 = .ok (.istore_n 1, 1) := by decide +kernel
theorem dX5_sort_106 : decode cX5_sort 106 = .ok (.iload_n 1, 1) := by decide +kernel
theorem dX5_sort_107 : decode cX5_sort 107 = .ok (.aload_n 0, 1) := by decide +kernel
theorem dX5_sort_108 : decode cX5_sort 108 = .ok (.getfield 27, 3) := by decide +kernel
theorem dX5_sort_111 : decode cX5_sort 111 = .ok (.if_icmp .ge 86, 3) := by decide +kernel
theorem dX5_sort_114 : decode cX5_sort 114 = .ok (.aload_n 0, 1) := by decide +kernel
theorem dX5_sort_115 : decode cX5_sort 115 = .ok (.getfield 21, 3) := by decide +kernel
theorem dX5_sort_118 : decode cX5_sort 118 = .ok (.iload_n 1, 1) := by decide +kernel
theorem dX5_sort_119 : decode cX5_sort 119 = .ok (.iload_n 1, 1) := by decide +kernel
theorem dX5_sort_120 : decode cX5_sort 120 = .ok (.ifCond .ne 7, 3) := by decide +kernel
theorem dX5_sort_123 : decode cX5_sort 123 = .ok (.iconst 0, 1) := by decide +kernel
theorem dX5_sort_124 : decode cX5_sort 124 = .ok (.goto 21, 3) := by decide +kernel
theorem dX5_sort_127 : decode cX5_sort 127 = .ok (.aload_n 0, 1) := by decide +kernel
theorem dX5_sort_128 : decode cX5_sort 128 = .ok (.aload_n 0, 1) := by decide +kernel
theorem dX5_sort_129 : decode cX5_sort 129 = .ok (.getfield 18, 3) := by decide +kernel
theorem dX5_sort_132 : decode cX5_sort 132 = .ok (.iload_n 1, 1) := by decide +kernel
theorem dX5_sort_133 : decode cX5_sort 133 = .ok (.iconst 1, 1) := by decide +kernel
theorem dX5_sort_134 : decode cX5_sort 134 = .ok (.isub, 1) := by decide +kernel
theorem dX5_sort_135 : decode cX5_sort 135 = .ok (.iaload, 1) := by decide +kernel
theorem dX5_sort_136 : decode cX5_sort 136 = .ok (.aload_n 0, 1) := by decide +kernel
theorem dX5_sort_137 : decode cX5_sort 137 = .ok (.getfield 18, 3) := by decide +kernel
theorem dX5_sort_140 : decode cX5_sort 140 = .ok (.iload_n 1, 1) := by decide +kernel
theorem dX5_sort_141 : decode cX5_sort 141 = .ok (.iaload, 1) := by decide +kernel
theorem dX5_sort_142 : decode cX5_sort 142 = .ok (.invokevirtual 82, 3) := by decide +kernel
theorem dX5_sort_145 : decode cX5_sort 145 = .ok (.iastore, 1) := by decide +kernel
theorem dX5_sort_146 : decode cX5_sort 146 = .ok (.aload_n 0, 1) := by decide +kernel
theorem dX5_sort_147 : decode cX5_sort 147 = .ok (.aload_n 0, 1) := by decide +kernel
theorem dX5_sort_148 : decode cX5_sort 148 = .ok (.getfield 21, 3) := by decide +kernel
theorem dX5_sort_151 : decode cX5_sort 151 = .ok (.iload_n 1, 1) := by decide +kernel
theorem dX5_sort_152 : decode cX5_sort 152 = .ok (.iaload, 1) := by decide +kernel
theorem dX5_sort_153 : decode cX5_sort 153 = .ok (.aload_n 0, 1) := by decide +kernel
theorem dX5_sort_154 : decode cX5_sort 154 = .ok (.getfield 58, 3) := by decide +kernel
theorem dX5_sort_157 : decode cX5_sort 157 = .ok (.if_icmp .le 12, 3) := by decide +kernel
theorem dX5_sort_160 : decode cX5_sort 160 = .ok (.aload_n 0, 1) := by decide +kernel
theorem dX5_sort_161 : decode cX5_sort 161 = .ok (.getfield 21, 3) := by decide +kernel
theorem dX5_sort_164 : decode cX5_sort 164 = .ok (.iload_n 1, 1) := by decide +kernel
theorem dX5_sort_165 : decode cX5_sort 165 = .ok (.iaload, 1) := by decide +kernel
theorem dX5_sort_166 : decode cX5_sort 166 = .ok (.goto 7, 3) := by decide +kernel
theorem dX5_sort_169 : decode cX5_sort 169 = .ok (.aload_n 0, 1) := by decide +kernel
theorem dX5_sort_170 : decode cX5_sort 170 = .ok (.getfield 58, 3) := by decide +kernel
theorem dX5_sort_173 : decode cX5_sort 173 = .ok (.putfield 58, 3) := by decide +kernel
theorem dX5_sort_176 : decode cX5_sort 176 = .ok (.aload_n 0, 1) := by decide +kernel
theorem dX5_sort_177 : decode cX5_sort 177 = .ok (.dup, 1) := by decide +kernel
theorem dX5_sort_178 : decode cX5_sort 178 = .ok (.getfield 61, 3) := by decide +kernel
theorem dX5_sort_181 : decode cX5_sort 181 = .ok (.aload_n 0, 1) := by decide +kernel
theorem dX5_sort_182 : decode cX5_sort 182 = .ok (.getfield 21, 3) := by decide +kernel
theorem dX5_sort_185 : decode cX5_sort 185 = .ok (.iload_n 1, 1) := by decide +kernel
theorem dX5_sort_186 : decode cX5_sort 186 = .ok (.iaload, 1) := by decide +kernel
theorem dX5_sort_187 : decode cX5_sort 187 = .ok (.iadd, 1) := by decide +kernel
theorem dX5_sort_188 : decode cX5_sort 188 = .ok (.putfield 61, 3) := by decide +kernel
theorem dX5_sort_191 : decode cX5_sort 191 = .ok (.iinc 1 1, 3) := by decide +kernel
theorem dX5_sort_194 : decode cX5_sort 194 = .ok (.goto (-88), 3) := by decide +kernel
theorem dX5_sort_197 : decode cX5_sort 197 = .ok (.aload_n 0, 1) := by decide +kernel
theorem dX5_sort_198 : decode cX5_sort 198 = .ok (.iconst 1, 1) := by decide +kernel
theorem dX5_sort_199 : decode cX5_sort 199 = .ok (.putfield 31, 3) := by decide +kernel
theorem dX5_sort_202 : decode cX5_sort 202 = .ok (.return_, 1) := by decide +kernel
theorem dX5_rankPairs_0 : decode cX5_rankPairs 0 = .ok (.iconst 0, 1) := by decide +kernel
theorem dX5_rankPairs_1 : decode cX5_rankPairs 1 = .ok (.istore_n 2, 1) := by decide +kernel
theorem dX5_rankPairs_2 : decode cX5_rankPairs 2 = .ok (.aload_n 0, 1) := by decide +kernel
theorem dX5_rankPairs_3 : decode cX5_rankPairs 3 = .ok (.getfield 27, 3) := by decide +kernel
theorem dX5_rankPairs_6 : decode cX5_rankPairs 6 = .ok (.iconst 1, 1) := by decide +kernel
theorem dX5_rankPairs_7 : decode cX5_rankPairs 7 = .ok (.isub, 1) := by decide +kernel
theorem dX5_rankPairs_8 : decode cX5_rankPairs 8 = .ok (.iload_n 1, 1) := by decide +kernel
theorem dX5_rankPairs_9 : decode cX5_rankPairs 9 = .ok (.isub, 1) := by decide +kernel
theorem dX5_rankPairs_10 : decode cX5_rankPairs 10 = .ok (.istore_n 3, 1) := by decide +kernel
theorem dX5_rankPairs_11 : decode cX5_rankPairs 11 = .ok (.iload_n 3, 1) := by decide +kernel
theorem dX5_rankPairs_12 : decode cX5_rankPairs 12 = .ok (.ifCond .lt 93, 3) := by decide +kernel
theorem dX5_rankPairs_15 : decode cX5_rankPairs 15 = .ok (.iload_n 3, 1) := by decide +kernel
theorem dX5_rankPairs_16 : decode cX5_rankPairs 16 = .ok (.iload_n 1, 1) := by decide +kernel
theorem dX5_rankPairs_17 : decode cX5_rankPairs 17 = .ok (.iadd, 1) := by decide +kernel
theorem dX5_rankPairs_18 : decode cX5_rankPairs 18 = .ok (.istore 4, 2) := by decide +kernel
theorem dX5_rankPairs_20 : decode cX5_rankPairs 20 = .ok (.aload_n 0, 1) := by decide +kernel
theorem dX5_rankPairs_21 : decode cX5_rankPairs 21 = .ok (.getfield 9, 3) := by decide +kernel
theorem dX5_rankPairs_24 : decode cX5_rankPairs 24 = .ok (.iload_n 3, 1) := by decide +kernel
theorem dX5_rankPairs_25 : decode cX5_rankPairs 25 = .ok (.iaload, 1) := by decide +kernel
theorem dX5_rankPairs_26 : decode cX5_rankPairs 26 = .ok (.aload_n 0, 1) := by decide +kernel
theorem dX5_rankPairs_27 : decode cX5_rankPairs 27 = .ok (.getfield 9, 3) := by decide +kernel
theorem dX5_rankPairs_30 : decode cX5_rankPairs 30 = .ok (.iload 4, 2) := by decide +kernel
theorem dX5_rankPairs_32 : decode cX5_rankPairs 32 = .ok (.iaload, 1) := by decide +kernel
theorem dX5_rankPairs_33 : decode cX5_rankPairs 33 = .ok (.if_icmp .ne 9, 3) := by decide +kernel
theorem dX5_rankPairs_36 : decode cX5_rankPairs 36 = .ok (.iload_n 2, 1) := by decide +kernel
theorem dX5_rankPairs_37 : decode cX5_rankPairs 37 = .ok (.iconst 1, 1) := by decide +kernel
theorem dX5_rankPairs_38 : decode cX5_rankPairs 38 = .ok (.iadd, 1) := by decide +kernel
theorem dX5_rankPairs_39 : decode cX5_rankPairs 39 = .ok (.goto 4, 3) := by decide +kernel
theorem dX5_rankPairs_42 : decode cX5_rankPairs 42 = .ok (.iconst 0, 1) := by decide +kernel
theorem dX5_rankPairs_43 : decode cX5_rankPairs 43 = .ok (.istore_n 2, 1) := by decide +kernel
theorem dX5_rankPairs_44 : decode cX5_rankPairs 44 = .ok (.iload 4, 2) := by decide +kernel
theorem dX5_rankPairs_46 : decode cX5_rankPairs 46 = .ok (.iload_n 2, 1) := by decide +kernel
theorem dX5_rankPairs_47 : decode cX5_rankPairs 47 = .ok (.iadd, 1) := by decide +kernel
theorem dX5_rankPairs_48 : decode cX5_rankPairs 48 = .ok (.aload_n 0, 1) := by decide +kernel
theorem dX5_rankPairs_49 : decode cX5_rankPairs 49 = .ok (.getfield 27, 3) := by decide +kernel
theorem dX5_rankPairs_52 : decode cX5_rankPairs 52 = .ok (.if_icmp .ge 23, 3) := by decide +kernel
theorem dX5_rankPairs_55 : decode cX5_rankPairs 55 = .ok (.aload_n 0, 1) := by decide +kernel
theorem dX5_rankPairs_56 : decode cX5_rankPairs 56 = .ok (.getfield 9, 3) := by decide +kernel
theorem dX5_rankPairs_59 : decode cX5_rankPairs 59 = .ok (.iload 4, 2) := by decide +kernel
theorem dX5_rankPairs_61 : decode cX5_rankPairs 61 = .ok (.iload_n 2, 1) := by decide +kernel
theorem dX5_rankPairs_62 : decode cX5_rankPairs 62 = .ok (.iadd, 1) := by decide +kernel
theorem dX5_rankPairs_63 : decode cX5_rankPairs 63 = .ok (.iaload, 1) := by decide +kernel
theorem dX5_rankPairs_64 : decode cX5_rankPairs 64 = .ok (.aload_n 0, 1) := by decide +kernel
theorem dX5_rankPairs_65 : decode cX5_rankPairs 65 = .ok (.getfield 9, 3) := by decide +kernel
theorem dX5_rankPairs_68 : decode cX5_rankPairs 68 = .ok (.iload_n 3, 1) := by decide +kernel
theorem dX5_rankPairs_69 : decode cX5_rankPairs 69 = .ok (.iload_n 2, 1) := by decide +kernel
theorem dX5_rankPairs_70 : decode cX5_rankPairs 70 = .ok (.iadd, 1) := by decide +kernel
theorem dX5_rankPairs_71 : decode cX5_rankPairs 71 = .ok (.iaload, 1) := by decide +kernel
theorem dX5_rankPairs_72 : decode cX5_rankPairs 72 = .ok (.if_icmp .ge 16, 3) := by decide +kernel
theorem dX5_rankPairs_75 : decode cX5_rankPairs 75 = .ok (.aload_n 0, 1) := by decide +kernel
theorem dX5_rankPairs_76 : decode cX5_rankPairs 76 = .ok (.getfield 15, 3) := by decide +kernel
theorem dX5_rankPairs_79 : decode cX5_rankPairs 79 = .ok (.iload_n 3, 1) := by decide +kernel
theorem dX5_rankPairs_80 : decode cX5_rankPairs 80 = .ok (.dup2, 1) := by decide +kernel
theorem dX5_rankPairs_81 : decode cX5_rankPairs 81 = .ok (.iaload, 1) := by decide +kernel
theorem dX5_rankPairs_82 : decode cX5_rankPairs 82 = .ok (.iconst 1, 1) := by decide +kernel
theorem dX5_rankPairs_83 : decode cX5_rankPairs 83 = .ok (.iadd, 1) := by decide +kernel
theorem dX5_rankPairs_84 : decode cX5_rankPairs 84 = .ok (.iastore, 1) := by decide +kernel
theorem dX5_rankPairs_85 : decode cX5_rankPairs 85 = .ok (.goto 14, 3) := by decide +kernel
theorem dX5_rankPairs_88 : decode cX5_rankPairs 88 = .ok (.aload_n 0, 1) := by decide +kernel
theorem dX5_rankPairs_89 : decode cX5_rankPairs 89 = .ok (.getfield 15, 3) := by decide +kernel
theorem dX5_rankPairs_92 : decode cX5_rankPairs 92 = .ok (.iload 4, 2) := by decide +kernel
theorem dX5_rankPairs_94 : decode cX5_rankPairs 94 = .ok (.dup2, 1) := by decide +kernel
theorem dX5_rankPairs_95 : decode cX5_rankPairs 95 = .ok (.iaload, 1) := by decide +kernel
theorem dX5_rankPairs_96 : decode cX5_rankPairs 96 = .ok (.iconst 1, 1) := by decide +kernel
theorem dX5_rankPairs_97 : decode cX5_rankPairs 97 = .ok (.iadd, 1) := by decide +kernel
theorem dX5_rankPairs_98 : decode cX5_rankPairs 98 = .ok (.iastore, 1) := by decide +kernel
theorem dX5_rankPairs_99 : decode cX5_rankPairs 99 = .ok (.iinc 3 (-1), 3) := by decide +kernel
theorem dX5_rankPairs_102 : decode cX5_rankPairs 102 = .ok (.goto (-91), 3) := by decide +kernel
theorem dX5_rankPairs_105 : decode cX5_rankPairs 105 = .ok (.return_, 1) := by decide +kernel
theorem dX6_init_0 : decode cX6_init 0 = .ok (.aload_n 0, 1) := by decide +kernel
theorem dX6_init_1 : decode cX6_init 1 = .ok (.invokespecial 3, 3) := by decide +kernel
theorem dX6_init_4 : decode cX6_init 4 = .ok (.aload_n 0, 1) := by decide +kernel
theorem dX6_init_5 : decode cX6_init 5 = .ok (.sipush 2000, 3) := by decide +kernel
theorem dX6_init_8 : decode cX6_init 8 = .ok (.newarray .int, 2) := by decide +kernel
theorem dX6_init_10 : decode cX6_init 10 = .ok (.putfield 9, 3) := by decide +kernel
theorem dX6_init_13 : decode cX6_init 13 = .ok (.return_, 1) := by decide +kernel
theorem dX6_append_0 : decode cX6_append 0 = .ok (.bipush 24, 2) := by decide +kernel
theorem dX6_append_2 : decode cX6_append 2 = .ok (.istore_n 2, 1) := by decide +kernel
theorem dX6_append_3 : decode cX6_append 3 = .ok (.iload_n 2, 1) := by decide +kernel
theorem dX6_append_4 : decode cX6_append 4 = .ok (.ifCond .lt 52, 3) := by decide +kernel
theorem dX6_append_7 : decode cX6_append 7 = .ok (.aload_n 0, 1) := by decide +kernel
theorem dX6_append_8 : decode cX6_append 8 = .ok (.getfield 15, 3) := by decide +kernel
theorem dX6_append_11 : decode cX6_append 11 = .ok (.ifCond .lt 39, 3) := by decide +kernel
theorem dX6_append_14 : decode cX6_append 14 = .ok (.aload_n 0, 1) := by decide +kernel
theorem dX6_append_15 : decode cX6_append 15 = .ok (.getfield 15, 3) := by decide +kernel
theorem dX6_append_18 : decode cX6_append 18 = .ok (.sipush 2000, 3) := by decide +kernel
theorem dX6_append_21 : decode cX6_append 21 = .ok (.if_icmp .ge 29, 3) := by decide +kernel
theorem dX6_append_24 : decode cX6_append 24 = .ok (.aload_n 0, 1) := by decide +kernel
theorem dX6_append_25 : decode cX6_append 25 = .ok (.getfield 9, 3) := by decide +kernel
theorem dX6_append_28 : decode cX6_append 28 = .ok (.aload_n 0, 1) := by decide +kernel
theorem dX6_append_29 : decode cX6_append 29 = .ok (.getfield 15, 3) := by decide +kernel
theorem dX6_append_32 : decode cX6_append 32 = .ok (.iload_n 1, 1) := by decide +kernel
theorem dX6_append_33 : decode cX6_append 33 = .ok (.iload_n 2, 1) := by decide +kernel
theorem dX6_append_34 : decode cX6_append 34 = .ok (.iushr, 1) := by decide +kernel
theorem dX6_append_35 : decode cX6_append 35 = .ok (.sipush 255, 3) := by decide +kernel
theorem dX6_append_38 : decode cX6_append 38 = .ok (.iand, 1) := by decide +kernel
theorem dX6_append_39 : decode cX6_append 39 = .ok (.iastore, 1) := by decide +kernel
theorem dX6_append_40 : decode cX6_append 40 = .ok (.aload_n 0, 1) := by decide +kernel
theorem dX6_append_41 : decode cX6_append 41 = .ok (.dup, 1) := by decide +kernel
theorem dX6_append_42 : decode cX6_append 42 = .ok (.getfield 15, 3) := by decide +kernel
theorem dX6_append_45 : decode cX6_append 45 = .ok (.iconst 1, 1) := by decide +kernel
theorem dX6_append_46 : decode cX6_append 46 = .ok (.iadd, 1) := by decide +kernel
theorem dX6_append_47 : decode cX6_append 47 = .ok (.putfield 15, 3) := by decide +kernel
theorem dX6_append_50 : decode cX6_append 50 = .ok (.iinc 2 (-8), 3) := by decide +kernel
theorem dX6_append_53 : decode cX6_append 53 = .ok (.goto (-50), 3) := by decide +kernel
theorem dX6_append_56 : decode cX6_append 56 = .ok (.return_, 1) := by decide +kernel
theorem dX6_byteAt_0 : decode cX6_byteAt 0 = .ok (.iload_n 1, 1) := by decide +kernel
theorem dX6_byteAt_1 : decode cX6_byteAt 1 = .ok (.ifCond .lt 27, 3) := by decide +kernel
theorem dX6_byteAt_4 : decode cX6_byteAt 4 = .ok (.iload_n 1, 1) := by decide +kernel
theorem dX6_byteAt_5 : decode cX6_byteAt 5 = .ok (.aload_n 0, 1) := by decide +kernel
theorem dX6_byteAt_6 : decode cX6_byteAt 6 = .ok (.getfield 15, 3) := by decide +kernel
theorem dX6_byteAt_9 : decode cX6_byteAt 9 = .ok (.if_icmp .ge 19, 3) := by decide +kernel
theorem dX6_byteAt_12 : decode cX6_byteAt 12 = .ok (.iload_n 1, 1) := by decide +kernel
theorem dX6_byteAt_13 : decode cX6_byteAt 13 = .ok (.sipush 2000, 3) := by decide +kernel
theorem dX6_byteAt_16 : decode cX6_byteAt 16 = .ok (.if_icmp .ge 12, 3) := by decide +kernel
theorem dX6_byteAt_19 : decode cX6_byteAt 19 = .ok (.aload_n 0, 1) := by decide +kernel
theorem dX6_byteAt_20 : decode cX6_byteAt 20 = .ok (.getfield 9, 3) := by decide +kernel
theorem dX6_byteAt_23 : decode cX6_byteAt 23 = .ok (.iload_n 1, 1) := by decide +kernel
theorem dX6_byteAt_24 : decode cX6_byteAt 24 = .ok (.iaload, 1) := by decide +kernel
theorem dX6_byteAt_25 : decode cX6_byteAt 25 = .ok (.goto 4, 3) := by decide +kernel
theorem dX6_byteAt_28 : decode cX6_byteAt 28 = .ok (.iconst (-1), 1) := by decide +kernel
theorem dX6_byteAt_29 : decode cX6_byteAt 29 = .ok (.ireturn, 1) := by decide +kernel
theorem dX8_init_0 : decode cX8_init 0 = .ok (.aload_n 0, 1) := by decide +kernel
theorem dX8_init_1 : decode cX8_init 1 = .ok (.invokespecial 3, 3) := by decide +kernel
theorem dX8_init_4 : decode cX8_init 4 = .ok (.aload_n 0, 1) := by decide +kernel
theorem dX8_init_5 : decode cX8_init 5 = .ok (.new 9, 3) := by decide +kernel
theorem dX8_init_8 : decode cX8_init 8 = .ok (.dup, 1) := by decide +kernel
theorem dX8_init_9 : decode cX8_init 9 = .ok (.invokespecial 11, 3) := by decide +kernel
theorem dX8_init_12 : decode cX8_init 12 = .ok (.putfield 12, 3) := by decide +kernel
theorem dX8_init_15 : decode cX8_init 15 = .ok (.aload_n 0, 1) := by decide +kernel
theorem dX8_init_16 : decode cX8_init 16 = .ok (.sipush 401, 3) := by decide +kernel
theorem dX8_init_19 : decode cX8_init 19 = .ok (.anewarray 18, 3) := by decide +kernel
theorem dX8_init_22 : decode cX8_init 22 = .ok (.putfield 20, 3) := by decide +kernel
theorem dX8_init_25 : decode cX8_init 25 = .ok (.aload_n 0, 1) := by decide +kernel
theorem dX8_init_26 : decode cX8_init 26 = .ok (.sipush 401, 3) := by decide +kernel
theorem dX8_init_29 : decode cX8_init 29 = .ok (.newarray .int, 2) := by decide +kernel
theorem dX8_init_31 : decode cX8_init 31 = .ok (.putfield 24, 3) := by decide +kernel
theorem dX8_init_34 : decode cX8_init 34 = .ok (.aload_n 0, 1) := by decide +kernel
theorem dX8_init_35 : decode cX8_init 35 = .ok (.sipush 401, 3) := by decide +kernel
theorem dX8_init_38 : decode cX8_init 38 = .ok (.newarray .int, 2) := by decide +kernel
theorem dX8_init_40 : decode cX8_init 40 = .ok (.putfield 28, 3) := by decide +kernel
theorem dX8_init_43 : decode cX8_init 43 = .ok (.aload_n 0, 1) := by decide +kernel
theorem dX8_init_44 : decode cX8_init 44 = .ok (.getstatic 31, 3) := by decide +kernel
theorem dX8_init_47 : decode cX8_init 47 = .ok (.putfield 35, 3) := by decide +kernel
theorem dX8_init_50 : decode cX8_init 50 = .ok (.iconst 0, 1) := by decide +kernel
theorem dX8_init_51 : decode cX8_init 51 = .ok (.istore_n 1, 1) := by decide +kernel
theorem dX8_init_52 : decode cX8_init 52 = .ok (.iload_n 1, 1) := by decide +kernel
theorem dX8_init_53 : decode cX8_init 53 = .ok (.sipush 400, 3) := by decide +kernel
theorem dX8_init_56 : decode cX8_init 56 = .ok (.if_icmp .gt 18, 3) := by decide +kernel
theorem dX8_init_59 : decode cX8_init 59 = .ok (.aload_n 0, 1) := by decide +kernel
theorem dX8_init_60 : decode cX8_init 60 = .ok (.getfield 20, 3) := by decide +kernel
theorem dX8_init_63 : decode cX8_init 63 = .ok (.iload_n 1, 1) := by decide +kernel
theorem dX8_init_64 : decode cX8_init 64 = .ok (.getstatic 31, 3) := by decide +kernel
theorem dX8_init_67 : decode cX8_init 67 = .ok (.aastore, 1) := by decide +kernel
theorem dX8_init_68 : decode cX8_init 68 = .ok (.iinc 1 1, 3) := by decide +kernel
theorem dX8_init_71 : decode cX8_init 71 = .ok (.goto (-19), 3) := by decide +kernel
theorem dX8_init_74 : decode cX8_init 74 = .ok (.return_, 1) := by decide +kernel
theorem dX8_split_0 : decode cX8_split 0 = .ok (.aload_n 0, 1) := by decide +kernel
theorem dX8_split_1 : decode cX8_split 1 = .ok (.iconst 0, 1) := by decide +kernel
theorem dX8_split_2 : decode cX8_split 2 = .ok (.putfield 38, 3) := by decide +kernel
theorem dX8_split_5 : decode cX8_split 5 = .ok (.iconst 0, 1) := by decide +kernel
theorem dX8_split_6 : decode cX8_split 6 = .ok (.istore_n 1, 1) := by decide +kernel
theorem dX8_split_7 : decode cX8_split 7 = .ok (.iload_n 1, 1) := by decide +kernel
theorem dX8_split_8 : decode cX8_split 8 = .ok (.sipush 400, 3) := by decide +kernel
theorem dX8_split_11 : decode cX8_split 11 = .ok (.if_icmp .gt 139, 3) := by decide +kernel
theorem dX8_split_14 : decode cX8_split 14 = .ok (.aload_n 0, 1) := by decide +kernel
theorem dX8_split_15 : decode cX8_split 15 = .ok (.aload_n 0, 1) := by decide +kernel
theorem dX8_split_16 : decode cX8_split 16 = .ok (.aload_n 0, 1) := by decide +kernel
theorem dX8_split_17 : decode cX8_split 17 = .ok (.getfield 38, 3) := by decide +kernel
theorem dX8_split_20 : decode cX8_split 20 = .ok (.invokevirtual 42, 3) := by decide +kernel
theorem dX8_split_23 : decode cX8_split 23 = .ok (.putfield 46, 3) := by decide +kernel
theorem dX8_split_26 : decode cX8_split 26 = .ok (.aload_n 0, 1) := by decide +kernel
theorem dX8_split_27 : decode cX8_split 27 = .ok (.aload_n 0, 1) := by decide +kernel
theorem dX8_split_28 : decode cX8_split 28 = .ok (.getfield 46, 3) := by decide +kernel
theorem dX8_split_31 : decode cX8_split 31 = .ok (.putfield 38, 3) := by decide +kernel
theorem dX8_split_34 : decode cX8_split 34 = .ok (.aload_n 0, 1) := by decide +kernel
theorem dX8_split_35 : decode cX8_split 35 = .ok (.aload_n 0, 1) := by decide +kernel
theorem dX8_split_36 : decode cX8_split 36 = .ok (.getfield 46, 3) := by decide +kernel
theorem dX8_split_39 : decode cX8_split 39 = .ok (.aload_n 0, 1) := by decide +kernel
theorem dX8_split_40 : decode cX8_split 40 = .ok (.getfield 12, 3) := by decide +kernel
theorem dX8_split_43 : decode cX8_split 43 = .ok (.getfield 49, 3) := by decide +kernel
theorem dX8_split_46 : decode cX8_split 46 = .ok (.if_icmp .lt 9, 3) := by decide +kernel
theorem dX8_split_49 : decode cX8_split 49 = .ok (.getstatic 52, 3) := by decide +kernel
theorem dX8_split_52 : decode cX8_split 52 = .ok (.goto 6, 3) := by decide +kernel
theorem dX8_split_55 : decode cX8_split 55 = .ok (.getstatic 31, 3) := by decide +kernel
theorem dX8_split_58 : decode cX8_split 58 = .ok (.putfield 35, 3) := by decide +kernel
theorem dX8_split_61 : decode cX8_split 61 = .ok (.aload_n 0, 1) := by decide +kernel
theorem dX8_split_62 : decode cX8_split 62 = .ok (.getfield 35, 3) := by decide +kernel
theorem dX8_split_65 : decode cX8_split 65 = .ok (.getstatic 31, 3) := by decide +kernel
theorem dX8_split_68 : decode cX8_split 68 = .ok (.if_acmp .ne 18, 3) := by decide +kernel
theorem dX8_split_71 : decode cX8_split 71 = .ok (.iload_n 1, 1) := by decide +kernel
theorem dX8_split_72 : decode cX8_split 72 = .ok (.sipush 400, 3) := by decide +kernel
theorem dX8_split_75 : decode cX8_split 75 = .ok (.if_icmp .ge 11, 3) := by decide +kernel
theorem dX8_split_78 : decode cX8_split 78 = .ok (.aload_n 0, 1) := by decide +kernel
theorem dX8_split_79 : decode cX8_split 79 = .ok (.aload_n 0, 1) := by decide +kernel
theorem dX8_split_80 : decode cX8_split 80 = .ok (.invokevirtual 55, 3) := by decide +kernel
theorem dX8_split_83 : decode cX8_split 83 = .ok (.putfield 35, 3) := by decide +kernel
theorem dX8_split_86 : decode cX8_split 86 = .ok (.aload_n 0, 1) := by decide +kernel
theorem dX8_split_87 : decode cX8_split 87 = .ok (.getfield 20, 3) := by decide +kernel
theorem dX8_split_90 : decode cX8_split 90 = .ok (.iload_n 1, 1) := by decide +kernel
theorem dX8_split_91 : decode cX8_split 91 = .ok (.aload_n 0, 1) := by decide +kernel
theorem dX8_split_92 : decode cX8_split 92 = .ok (.getfield 35, 3) := by decide +kernel
theorem dX8_split_95 : decode cX8_split 95 = .ok (.aastore, 1) := by decide +kernel
theorem dX8_split_96 : decode cX8_split 96 = .ok (.aload_n 0, 1) := by decide +kernel
theorem dX8_split_97 : decode cX8_split 97 = .ok (.getfield 24, 3) := by decide +kernel
theorem dX8_split_100 : decode cX8_split 100 = .ok (.iload_n 1, 1) := by decide +kernel
theorem dX8_split_101 : decode cX8_split 101 = .ok (.aload_n 0, 1) := by decide +kernel
theorem dX8_split_102 : decode cX8_split 102 = .ok (.getfield 46, 3) := by decide +kernel
theorem dX8_split_105 : decode cX8_split 105 = .ok (.iastore, 1) := by decide +kernel
theorem dX8_split_106 : decode cX8_split 106 = .ok (.aload_n 0, 1) := by decide +kernel
theorem dX8_split_107 : decode cX8_split 107 = .ok (.getfield 28, 3) := by decide +kernel
theorem dX8_split_110 : decode cX8_split 110 = .ok (.iload_n 1, 1) := by decide +kernel
theorem dX8_split_111 : decode cX8_split 111 = .ok (.aload_n 0, 1) := by decide +kernel
theorem dX8_split_112 : decode cX8_split 112 = .ok (.getfield 38, 3) := by decide +kernel
theorem dX8_split_115 : decode cX8_split 115 = .ok (.iastore, 1) := by decide +kernel
theorem dX8_split_116 : decode cX8_split 116 = .ok (.aload_n 0, 1) := by decide +kernel
theorem dX8_split_117 : decode cX8_split 117 = .ok (.iload_n 1, 1) := by decide +kernel
theorem dX8_split_118 : decode cX8_split 118 = .ok (.putfield 59, 3) := by decide +kernel
theorem dX8_split_121 : decode cX8_split 121 = .ok (.aload_n 0, 1) := by decide +kernel
theorem dX8_split_122 : decode cX8_split 122 = .ok (.getfield 35, 3) := by decide +kernel
theorem dX8_split_125 : decode cX8_split 125 = .ok (.getstatic 52, 3) := by decide +kernel
theorem dX8_split_128 : decode cX8_split 128 = .ok (.if_acmp .eq 22, 3) := by decide +kernel
theorem dX8_split_131 : decode cX8_split 131 = .ok (.aload_n 0, 1) := by decide +kernel
theorem dX8_split_132 : decode cX8_split 132 = .ok (.getfield 35, 3) := by decide +kernel
theorem dX8_split_135 : decode cX8_split 135 = .ok (.getstatic 31, 3) := by decide +kernel
theorem dX8_split_138 : decode cX8_split 138 = .ok (.if_acmp .ne 6, 3) := by decide +kernel
theorem dX8_split_141 : decode cX8_split 141 = .ok (.goto 9, 3) := by decide +kernel
theorem dX8_split_144 : decode cX8_split 144 = .ok (.iinc 1 1, 3) := by decide +kernel
theorem dX8_split_147 : decode cX8_split 147 = .ok (.goto (-140), 3) := by decide +kernel
theorem dX8_split_150 : decode cX8_split 150 = .ok (.aload_n 0, 1) := by decide +kernel
theorem dX8_split_151 : decode cX8_split 151 = .ok (.iconst 0, 1) := by decide +kernel
theorem dX8_split_152 : decode cX8_split 152 = .ok (.invokevirtual 62, 3) := by decide +kernel
theorem dX8_split_155 : decode cX8_split 155 = .ok (.return_, 1) := by decide +kernel
theorem dX8_advance_0 : decode cX8_advance 0 = .ok (.aload_n 0, 1) := by decide +kernel
theorem dX8_advance_1 : decode cX8_advance 1 = .ok (.aload_n 0, 1) := by decide +kernel
theorem dX8_advance_2 : decode cX8_advance 2 = .ok (.getfield 66, 3) := by decide +kernel
theorem dX8_advance_5 : decode cX8_advance 5 = .ok (.iconst 1, 1) := by decide +kernel
theorem dX8_advance_6 : decode cX8_advance 6 = .ok (.iadd, 1) := by decide +kernel
theorem dX8_advance_7 : decode cX8_advance 7 = .ok (.aload_n 0, 1) := by decide +kernel
theorem dX8_advance_8 : decode cX8_advance 8 = .ok (.getfield 59, 3) := by decide +kernel
theorem dX8_advance_11 : decode cX8_advance 11 = .ok (.invokestatic 69, 3) := by decide +kernel
theorem dX8_advance_14 : decode cX8_advance 14 = .ok (.invokevirtual 62, 3) := by decide +kernel
theorem dX8_advance_17 : decode cX8_advance 17 = .ok (.return_, 1) := by decide +kernel
theorem dX8_number_0 : decode cX8_number 0 = .ok (.iconst 0, 1) := by decide +kernel
theorem dX8_number_1 : decode cX8_number 1 = .ok (.istore_n 1, 1) := by decide +kernel
theorem dX8_number_2 : decode cX8_number 2 = .ok (.aload_n 0, 1) := by decide +kernel
theorem dX8_number_3 : decode cX8_number 3 = .ok (.getfield 46, 3) := by decide +kernel
theorem dX8_number_6 : decode cX8_number 6 = .ok (.istore_n 2, 1) := by decide +kernel
theorem dX8_number_7 : decode cX8_number 7 = .ok (.iload_n 2, 1) := by decide +kernel
theorem dX8_number_8 : decode cX8_number 8 = .ok (.aload_n 0, 1) := by decide +kernel
theorem dX8_number_9 : decode cX8_number 9 = .ok (.getfield 38, 3) := by decide +kernel
theorem dX8_number_12 : decode cX8_number 12 = .ok (.if_icmp .ge 26, 3) := by decide +kernel
theorem dX8_number_15 : decode cX8_number 15 = .ok (.iload_n 1, 1) := by decide +kernel
theorem dX8_number_16 : decode cX8_number 16 = .ok (.bipush 10, 2) := by decide +kernel
theorem dX8_number_18 : decode cX8_number 18 = .ok (.imul, 1) := by decide +kernel
theorem dX8_number_19 : decode cX8_number 19 = .ok (.aload_n 0, 1) := by decide +kernel
theorem dX8_number_20 : decode cX8_number 20 = .ok (.getfield 12, 3) := by decide +kernel
theorem dX8_number_23 : decode cX8_number 23 = .ok (.iload_n 2, 1) := by decide +kernel
theorem dX8_number_24 : decode cX8_number 24 = .ok (.invokevirtual 75, 3) := by decide +kernel
theorem dX8_number_27 : decode cX8_number 27 = .ok (.iadd, 1) := by decide +kernel
theorem dX8_number_28 : decode cX8_number 28 = .ok (.bipush 48, 2) := by decide +kernel
theorem dX8_number_30 : decode cX8_number 30 = .ok (.isub, 1) := by decide +kernel
theorem dX8_number_31 : decode cX8_number 31 = .ok (.istore_n 1, 1) := by decide +kernel
theorem dX8_number_32 : decode cX8_number 32 = .ok (.iinc 2 1, 3) := by decide +kernel
theorem dX8_number_35 : decode cX8_number 35 = .ok (.goto (-28), 3) := by decide +kernel
theorem dX8_number_38 : decode cX8_number 38 = .ok (.iload_n 1, 1) := by decide +kernel
theorem dX8_number_39 : decode cX8_number 39 = .ok (.ireturn, 1) := by decide +kernel
theorem dX8_hasDigit_0 : decode cX8_hasDigit 0 = .ok (.aload_n 0, 1) := by decide +kernel
theorem dX8_hasDigit_1 : decode cX8_hasDigit 1 = .ok (.getfield 46, 3) := by decide +kernel
theorem dX8_hasDigit_4 : decode cX8_hasDigit 4 = .ok (.istore_n 1, 1) := by decide +kernel
theorem dX8_hasDigit_5 : decode cX8_hasDigit 5 = .ok (.iload_n 1, 1) := by decide +kernel
theorem dX8_hasDigit_6 : decode cX8_hasDigit 6 = .ok (.aload_n 0, 1) := by decide +kernel
theorem dX8_hasDigit_7 : decode cX8_hasDigit 7 = .ok (.getfield 38, 3) := by decide +kernel
theorem dX8_hasDigit_10 : decode cX8_hasDigit 10 = .ok (.if_icmp .ge 25, 3) := by decide +kernel
theorem dX8_hasDigit_13 : decode cX8_hasDigit 13 = .ok (.aload_n 0, 1) := by decide +kernel
theorem dX8_hasDigit_14 : decode cX8_hasDigit 14 = .ok (.getfield 12, 3) := by decide +kernel
theorem dX8_hasDigit_17 : decode cX8_hasDigit 17 = .ok (.iload_n 1, 1) := by decide +kernel
theorem dX8_hasDigit_18 : decode cX8_hasDigit 18 = .ok (.invokevirtual 75, 3) := by decide +kernel
theorem dX8_hasDigit_21 : decode cX8_hasDigit 21 = .ok (.invokestatic 78, 3) := by decide +kernel
theorem dX8_hasDigit_24 : decode cX8_hasDigit 24 = .ok (.ifCond .eq 5, 3) := by decide +kernel
theorem dX8_hasDigit_27 : decode cX8_hasDigit 27 = .ok (.iconst 1, 1) := by decide +kernel
theorem dX8_hasDigit_28 : decode cX8_hasDigit 28 = .ok (.ireturn, 1) := by decide +kernel
theorem dX8_hasDigit_29 : decode cX8_hasDigit 29 = .ok (.iinc 1 1, 3) := by decide +kernel
theorem dX8_hasDigit_32 : decode cX8_hasDigit 32 = .ok (.goto (-27), 3) := by decide +kernel
theorem dX8_hasDigit_35 : decode cX8_hasDigit 35 = .ok (.iconst 0, 1) := by decide +kernel
theorem dX8_hasDigit_36 : decode cX8_hasDigit 36 = .ok (.ireturn, 1) := by decide +kernel
theorem dX8_spell_0 : decode cX8_spell 0 = .ok (.aload_n 1, 1) := by decide +kernel
theorem dX8_spell_1 : decode cX8_spell 1 = .ok (.iconst 0, 1) := by decide +kernel
theorem dX8_spell_2 : decode cX8_spell 2 = .ok (.putfield 82, 3) := by decide +kernel
theorem dX8_spell_5 : decode cX8_spell 5 = .ok (.aload_n 0, 1) := by decide +kernel
theorem dX8_spell_6 : decode cX8_spell 6 = .ok (.getfield 46, 3) := by decide +kernel
theorem dX8_spell_9 : decode cX8_spell 9 = .ok (.istore_n 2, 1) := by decide +kernel
theorem dX8_spell_10 : decode cX8_spell 10 = .ok (.iload_n 2, 1) := by decide +kernel
theorem dX8_spell_11 : decode cX8_spell 11 = .ok (.aload_n 0, 1) := by decide +kernel
theorem dX8_spell_12 : decode cX8_spell 12 = .ok (.getfield 38, 3) := by decide +kernel
theorem dX8_spell_15 : decode cX8_spell 15 = .ok (.if_icmp .ge 48, 3) := by decide +kernel
theorem dX8_spell_18 : decode cX8_spell 18 = .ok (.aload_n 1, 1) := by decide +kernel
theorem dX8_spell_19 : decode cX8_spell 19 = .ok (.getfield 82, 3) := by decide +kernel
theorem dX8_spell_22 : decode cX8_spell 22 = .ok (.bipush 10, 2) := by decide +kernel
theorem dX8_spell_24 : decode cX8_spell 24 = .ok (.if_icmp .ge 39, 3) := by decide +kernel
theorem dX8_spell_27 : decode cX8_spell 27 = .ok (.aload_n 1, 1) := by decide +kernel
theorem dX8_spell_28 : decode cX8_spell 28 = .ok (.getfield 87, 3) := by decide +kernel
theorem dX8_spell_31 : decode cX8_spell 31 = .ok (.aload_n 1, 1) := by decide +kernel
theorem dX8_spell_32 : decode cX8_spell 32 = .ok (.getfield 82, 3) := by decide +kernel
theorem dX8_spell_35 : decode cX8_spell 35 = .ok (.aload_n 0, 1) := by decide +kernel
theorem dX8_spell_36 : decode cX8_spell 36 = .ok (.getfield 12, 3) := by decide +kernel
theorem dX8_spell_39 : decode cX8_spell 39 = .ok (.iload_n 2, 1) := by decide +kernel
theorem dX8_spell_40 : decode cX8_spell 40 = .ok (.invokevirtual 75, 3) := by decide +kernel
theorem dX8_spell_43 : decode cX8_spell 43 = .ok (.bipush 96, 2) := by decide +kernel
theorem dX8_spell_45 : decode cX8_spell 45 = .ok (.isub, 1) := by decide +kernel
theorem dX8_spell_46 : decode cX8_spell 46 = .ok (.iastore, 1) := by decide +kernel
theorem dX8_spell_47 : decode cX8_spell 47 = .ok (.aload_n 1, 1) := by decide +kernel
theorem dX8_spell_48 : decode cX8_spell 48 = .ok (.dup, 1) := by decide +kernel
theorem dX8_spell_49 : decode cX8_spell 49 = .ok (.getfield 82, 3) := by decide +kernel
theorem dX8_spell_52 : decode cX8_spell 52 = .ok (.iconst 1, 1) := by decide +kernel
theorem dX8_spell_53 : decode cX8_spell 53 = .ok (.iadd, 1) := by decide +kernel
theorem dX8_spell_54 : decode cX8_spell 54 = .ok (.putfield 82, 3) := by decide +kernel
theorem dX8_spell_57 : decode cX8_spell 57 = .ok (.iinc 2 1, 3) := by decide +kernel
theorem dX8_spell_60 : decode cX8_spell 60 = .ok (.goto (-50), 3) := by decide +kernel
theorem dX8_spell_63 : decode cX8_spell 63 = .ok (.return_, 1) := by decide +kernel
theorem dX8_spells_0 : decode cX8_spells 0 = .ok (.aload_n 0, 1) := by decide +kernel
theorem dX8_spells_1 : decode cX8_spells 1 = .ok (.getfield 38, 3) := by decide +kernel
theorem dX8_spells_4 : decode cX8_spells 4 = .ok (.aload_n 0, 1) := by decide +kernel
theorem dX8_spells_5 : decode cX8_spells 5 = .ok (.getfield 46, 3) := by decide +kernel
theorem dX8_spells_8 : decode cX8_spells 8 = .ok (.isub, 1) := by decide +kernel
theorem dX8_spells_9 : decode cX8_spells 9 = .ok (.aload_n 1, 1) := by decide +kernel
theorem dX8_spells_10 : decode cX8_spells 10 = .ok (.getfield 82, 3) := by decide +kernel
theorem dX8_spells_13 : decode cX8_spells 13 = .ok (.if_icmp .eq 5, 3) := by decide +kernel
theorem dX8_spells_16 : decode cX8_spells 16 = .ok (.iconst 0, 1) := by decide +kernel
theorem dX8_spells_17 : decode cX8_spells 17 = .ok (.ireturn, 1) := by decide +kernel
theorem dX8_spells_18 : decode cX8_spells 18 = .ok (.iconst 0, 1) := by decide +kernel
theorem dX8_spells_19 : decode cX8_spells 19 = .ok (.istore_n 2, 1) := by decide +kernel
theorem dX8_spells_20 : decode cX8_spells 20 = .ok (.iload_n 2, 1) := by decide +kernel
theorem dX8_spells_21 : decode cX8_spells 21 = .ok (.aload_n 1, 1) := by decide +kernel
theorem dX8_spells_22 : decode cX8_spells 22 = .ok (.getfield 82, 3) := by decide +kernel
theorem dX8_spells_25 : decode cX8_spells 25 = .ok (.if_icmp .ge 36, 3) := by decide +kernel
theorem dX8_spells_28 : decode cX8_spells 28 = .ok (.aload_n 1, 1) := by decide +kernel
theorem dX8_spells_29 : decode cX8_spells 29 = .ok (.getfield 87, 3) := by decide +kernel
theorem dX8_spells_32 : decode cX8_spells 32 = .ok (.iload_n 2, 1) := by decide +kernel
theorem dX8_spells_33 : decode cX8_spells 33 = .ok (.iaload, 1) := by decide +kernel
theorem dX8_spells_34 : decode cX8_spells 34 = .ok (.aload_n 0, 1) := by decide +kernel
theorem dX8_spells_35 : decode cX8_spells 35 = .ok (.getfield 12, 3) := by decide +kernel
theorem dX8_spells_38 : decode cX8_spells 38 = .ok (.aload_n 0, 1) := by decide +kernel
theorem dX8_spells_39 : decode cX8_spells 39 = .ok (.getfield 46, 3) := by decide +kernel
theorem dX8_spells_42 : decode cX8_spells 42 = .ok (.iload_n 2, 1) := by decide +kernel
theorem dX8_spells_43 : decode cX8_spells 43 = .ok (.iadd, 1) := by decide +kernel
theorem dX8_spells_44 : decode cX8_spells 44 = .ok (.invokevirtual 75, 3) := by decide +kernel
theorem dX8_spells_47 : decode cX8_spells 47 = .ok (.bipush 96, 2) := by decide +kernel
theorem dX8_spells_49 : decode cX8_spells 49 = .ok (.isub, 1) := by decide +kernel
theorem dX8_spells_50 : decode cX8_spells 50 = .ok (.if_icmp .eq 5, 3) := by decide +kernel
theorem dX8_spells_53 : decode cX8_spells 53 = .ok (.iconst 0, 1) := by decide +kernel
theorem dX8_spells_54 : decode cX8_spells 54 = .ok (.ireturn, 1) := by decide +kernel
theorem dX8_spells_55 : decode cX8_spells 55 = .ok (.iinc 2 1, 3) := by decide +kernel
theorem dX8_spells_58 : decode cX8_spells 58 = .ok (.goto (-38), 3) := by decide +kernel
theorem dX8_spells_61 : decode cX8_spells 61 = .ok (.iconst 1, 1) := by decide +kernel
theorem dX8_spells_62 : decode cX8_spells 62 = .ok (.ireturn, 1) := by decide +kernel
theorem dX8_lookAt_0 : decode cX8_lookAt 0 = .ok (.iload_n 1, 1) := by decide +kernel
theorem dX8_lookAt_1 : decode cX8_lookAt 1 = .ok (.ifCond .lt 45, 3) := by decide +kernel
theorem dX8_lookAt_4 : decode cX8_lookAt 4 = .ok (.iload_n 1, 1) := by decide +kernel
theorem dX8_lookAt_5 : decode cX8_lookAt 5 = .ok (.sipush 400, 3) := by decide +kernel
theorem dX8_lookAt_8 : decode cX8_lookAt 8 = .ok (.if_icmp .gt 38, 3) := by decide +kernel
theorem dX8_lookAt_11 : decode cX8_lookAt 11 = .ok (.aload_n 0, 1) := by decide +kernel
theorem dX8_lookAt_12 : decode cX8_lookAt 12 = .ok (.iload_n 1, 1) := by decide +kernel
theorem dX8_lookAt_13 : decode cX8_lookAt 13 = .ok (.putfield 66, 3) := by decide +kernel
theorem dX8_lookAt_16 : decode cX8_lookAt 16 = .ok (.aload_n 0, 1) := by decide +kernel
theorem dX8_lookAt_17 : decode cX8_lookAt 17 = .ok (.aload_n 0, 1) := by decide +kernel
theorem dX8_lookAt_18 : decode cX8_lookAt 18 = .ok (.getfield 20, 3) := by decide +kernel
theorem dX8_lookAt_21 : decode cX8_lookAt 21 = .ok (.iload_n 1, 1) := by decide +kernel
theorem dX8_lookAt_22 : decode cX8_lookAt 22 = .ok (.aaload, 1) := by decide +kernel
theorem dX8_lookAt_23 : decode cX8_lookAt 23 = .ok (.putfield 35, 3) := by decide +kernel
theorem dX8_lookAt_26 : decode cX8_lookAt 26 = .ok (.aload_n 0, 1) := by decide +kernel
theorem dX8_lookAt_27 : decode cX8_lookAt 27 = .ok (.aload_n 0, 1) := by decide +kernel
theorem dX8_lookAt_28 : decode cX8_lookAt 28 = .ok (.getfield 24, 3) := by decide +kernel
theorem dX8_lookAt_31 : decode cX8_lookAt 31 = .ok (.iload_n 1, 1) := by decide +kernel
theorem dX8_lookAt_32 : decode cX8_lookAt 32 = .ok (.iaload, 1) := by decide +kernel
theorem dX8_lookAt_33 : decode cX8_lookAt 33 = .ok (.putfield 46, 3) := by decide +kernel
theorem dX8_lookAt_36 : decode cX8_lookAt 36 = .ok (.aload_n 0, 1) := by decide +kernel
theorem dX8_lookAt_37 : decode cX8_lookAt 37 = .ok (.aload_n 0, 1) := by decide +kernel
theorem dX8_lookAt_38 : decode cX8_lookAt 38 = .ok (.getfield 28, 3) := by decide +kernel
theorem dX8_lookAt_41 : decode cX8_lookAt 41 = .ok (.iload_n 1, 1) := by decide +kernel
theorem dX8_lookAt_42 : decode cX8_lookAt 42 = .ok (.iaload, 1) := by decide +kernel
theorem dX8_lookAt_43 : decode cX8_lookAt 43 = .ok (.putfield 38, 3) := by decide +kernel
theorem dX8_lookAt_46 : decode cX8_lookAt 46 = .ok (.return_, 1) := by decide +kernel
theorem dX8_behindBlanks_0 : decode cX8_behindBlanks 0 = .ok (.iload_n 1, 1) := by decide +kernel
theorem dX8_behindBlanks_1 : decode cX8_behindBlanks 1 = .ok (.istore_n 2, 1) := by decide +kernel
theorem dX8_behindBlanks_2 : decode cX8_behindBlanks 2 = .ok (.iload_n 2, 1) := by decide +kernel
theorem dX8_behindBlanks_3 : decode cX8_behindBlanks 3 = .ok (.aload_n 0, 1) := by decide +kernel
theorem dX8_behindBlanks_4 : decode cX8_behindBlanks 4 = .ok (.getfield 12, 3) := by decide +kernel
theorem dX8_behindBlanks_7 : decode cX8_behindBlanks 7 = .ok (.getfield 49, 3) := by decide +kernel
theorem dX8_behindBlanks_10 : decode cX8_behindBlanks 10 = .ok (.if_icmp .ge 23, 3) := by decide +kernel
theorem dX8_behindBlanks_13 : decode cX8_behindBlanks 13 = .ok (.aload_n 0, 1) := by decide +kernel
theorem dX8_behindBlanks_14 : decode cX8_behindBlanks 14 = .ok (.getfield 12, 3) := by decide +kernel
theorem dX8_behindBlanks_17 : decode cX8_behindBlanks 17 = .ok (.iload_n 2, 1) := by decide +kernel
theorem dX8_behindBlanks_18 : decode cX8_behindBlanks 18 = .ok (.invokevirtual 75, 3) := by decide +kernel
theorem dX8_behindBlanks_21 : decode cX8_behindBlanks 21 = .ok (.invokestatic 90, 3) := by decide +kernel
theorem dX8_behindBlanks_24 : decode cX8_behindBlanks 24 = .ok (.ifCond .eq 9, 3) := by decide +kernel
theorem dX8_behindBlanks_27 : decode cX8_behindBlanks 27 = .ok (.iinc 2 1, 3) := by decide +kernel
theorem dX8_behindBlanks_30 : decode cX8_behindBlanks 30 = .ok (.goto (-28), 3) := by decide +kernel
theorem dX8_behindBlanks_33 : decode cX8_behindBlanks 33 = .ok (.iload_n 2, 1) := by decide +kernel
theorem dX8_behindBlanks_34 : decode cX8_behindBlanks 34 = .ok (.ireturn, 1) := by decide +kernel
theorem dX8_readToken_0 : decode cX8_readToken 0 = .ok (.aload_n 0, 1) := by decide +kernel
theorem dX8_readToken_1 : decode cX8_readToken 1 = .ok (.getfield 12, 3) := by decide +kernel
theorem dX8_readToken_4 : decode cX8_readToken 4 = .ok (.aload_n 0, 1) := by decide +kernel
theorem dX8_readToken_5 : decode cX8_readToken 5 = .ok (.getfield 46, 3) := by decide +kernel
theorem dX8_readToken_8 : decode cX8_readToken 8 = .ok (.invokevirtual 75, 3) := by decide +kernel
theorem dX8_readToken_11 : decode cX8_readToken 11 = .ok (.invokestatic 93, 3) := by decide +kernel
theorem dX8_readToken_14 : decode cX8_readToken 14 = .ok (.ifCond .eq 8, 3) := by decide +kernel
theorem dX8_readToken_17 : decode cX8_readToken 17 = .ok (.aload_n 0, 1) := by decide +kernel
theorem dX8_readToken_18 : decode cX8_readToken 18 = .ok (.invokevirtual 96, 3) := by decide +kernel
theorem dX8_readToken_21 : decode cX8_readToken 21 = .ok (.areturn, 1) := by decide +kernel
theorem dX8_readToken_22 : decode cX8_readToken 22 = .ok (.aload_n 0, 1) := by decide +kernel
theorem dX8_readToken_23 : decode cX8_readToken 23 = .ok (.getfield 12, 3) := by decide +kernel
theorem dX8_readToken_26 : decode cX8_readToken 26 = .ok (.aload_n 0, 1) := by decide +kernel
theorem dX8_readToken_27 : decode cX8_readToken 27 = .ok (.getfield 46, 3) := by decide +kernel
theorem dX8_readToken_30 : decode cX8_readToken 30 = .ok (.invokevirtual 75, 3) := by decide +kernel
theorem dX8_readToken_33 : decode cX8_readToken 33 = .ok (.invokestatic 78, 3) := by decide +kernel
theorem dX8_readToken_36 : decode cX8_readToken 36 = .ok (.ifCond .eq 8, 3) := by decide +kernel
theorem dX8_readToken_39 : decode cX8_readToken 39 = .ok (.aload_n 0, 1) := by decide +kernel
theorem dX8_readToken_40 : decode cX8_readToken 40 = .ok (.invokevirtual 99, 3) := by decide +kernel
theorem dX8_readToken_43 : decode cX8_readToken 43 = .ok (.areturn, 1) := by decide +kernel
theorem dX8_readToken_44 : decode cX8_readToken 44 = .ok (.aload_n 0, 1) := by decide +kernel
theorem dX8_readToken_45 : decode cX8_readToken 45 = .ok (.invokevirtual 102, 3) := by decide +kernel
theorem dX8_readToken_48 : decode cX8_readToken 48 = .ok (.areturn, 1) := by decide +kernel
theorem dX8_readWord_0 : decode cX8_readWord 0 = .ok (.aload_n 0, 1) := by decide +kernel
theorem dX8_readWord_1 : decode cX8_readWord 1 = .ok (.getfield 38, 3) := by decide +kernel
theorem dX8_readWord_4 : decode cX8_readWord 4 = .ok (.aload_n 0, 1) := by decide +kernel
theorem dX8_readWord_5 : decode cX8_readWord 5 = .ok (.getfield 12, 3) := by decide +kernel
theorem dX8_readWord_8 : decode cX8_readWord 8 = .ok (.getfield 49, 3) := by decide +kernel
theorem dX8_readWord_11 : decode cX8_readWord 11 = .ok (.if_icmp .ge 33, 3) := by decide +kernel
theorem dX8_readWord_14 : decode cX8_readWord 14 = .ok (.aload_n 0, 1) := by decide +kernel
theorem dX8_readWord_15 : decode cX8_readWord 15 = .ok (.getfield 12, 3) := by decide +kernel
theorem dX8_readWord_18 : decode cX8_readWord 18 = .ok (.aload_n 0, 1) := by decide +kernel
theorem dX8_readWord_19 : decode cX8_readWord 19 = .ok (.getfield 38, 3) := by decide +kernel
theorem dX8_readWord_22 : decode cX8_readWord 22 = .ok (.invokevirtual 75, 3) := by decide +kernel
theorem dX8_readWord_25 : decode cX8_readWord 25 = .ok (.invokestatic 105, 3) := by decide +kernel
theorem dX8_readWord_28 : decode cX8_readWord 28 = .ok (.ifCond .eq 16, 3) := by decide +kernel
theorem dX8_readWord_31 : decode cX8_readWord 31 = .ok (.aload_n 0, 1) := by decide +kernel
theorem dX8_readWord_32 : decode cX8_readWord 32 = .ok (.dup, 1) := by decide +kernel
theorem dX8_readWord_33 : decode cX8_readWord 33 = .ok (.getfield 38, 3) := by decide +kernel
theorem dX8_readWord_36 : decode cX8_readWord 36 = .ok (.iconst 1, 1) := by decide +kernel
theorem dX8_readWord_37 : decode cX8_readWord 37 = .ok (.iadd, 1) := by decide +kernel
theorem dX8_readWord_38 : decode cX8_readWord 38 = .ok (.putfield 38, 3) := by decide +kernel
theorem dX8_readWord_41 : decode cX8_readWord 41 = .ok (.goto (-41), 3) := by decide +kernel
theorem dX8_readWord_44 : decode cX8_readWord 44 = .ok (.aload_n 0, 1) := by decide +kernel
theorem dX8_readWord_45 : decode cX8_readWord 45 = .ok (.getfield 38, 3) := by decide +kernel
theorem dX8_readWord_48 : decode cX8_readWord 48 = .ok (.aload_n 0, 1) := by decide +kernel
theorem dX8_readWord_49 : decode cX8_readWord 49 = .ok (.getfield 46, 3) := by decide +kernel
theorem dX8_readWord_52 : decode cX8_readWord 52 = .ok (.isub, 1) := by decide +kernel
theorem dX8_readWord_53 : decode cX8_readWord 53 = .ok (.bipush 10, 2) := by decide +kernel
theorem dX8_readWord_55 : decode cX8_readWord 55 = .ok (.if_icmp .le 7, 3) := by decide +kernel
theorem dX8_readWord_58 : decode cX8_readWord 58 = .ok (.getstatic 31, 3) := by decide +kernel
theorem dX8_readWord_61 : decode cX8_readWord 61 = .ok (.areturn, 1) := by decide +kernel
theorem dX8_readWord_62 : decode cX8_readWord 62 = .ok (.getstatic 108, 3) := by decide +kernel
theorem dX8_readWord_65 : decode cX8_readWord 65 = .ok (.astore_n 1, 1) := by decide +kernel
theorem dX8_readWord_66 : decode cX8_readWord 66 = .ok (.aload_n 1, 1) := by decide +kernel
theorem dX8_readWord_67 : decode cX8_readWord 67 = .ok (.arraylength, 1) := by decide +kernel
theorem dX8_readWord_68 : decode cX8_readWord 68 = .ok (.istore_n 2, 1) := by decide +kernel
theorem dX8_readWord_69 : decode cX8_readWord 69 = .ok (.iconst 0, 1) := by decide +kernel
theorem dX8_readWord_70 : decode cX8_readWord 70 = .ok (.istore_n 3, 1) := by decide +kernel
theorem dX8_readWord_71 : decode cX8_readWord 71 = .ok (.iload_n 3, 1) := by decide +kernel
theorem dX8_readWord_72 : decode cX8_readWord 72 = .ok (.iload_n 2, 1) := by decide +kernel
theorem dX8_readWord_73 : decode cX8_readWord 73 = .ok (.if_icmp .ge 49, 3) := by decide +kernel
theorem dX8_readWord_76 : decode cX8_readWord 76 = .ok (.aload_n 1, 1) := by decide +kernel
theorem dX8_readWord_77 : decode cX8_readWord 77 = .ok (.iload_n 3, 1) := by decide +kernel
theorem dX8_readWord_78 : decode cX8_readWord 78 = .ok (.aaload, 1) := by decide +kernel
theorem dX8_readWord_79 : decode cX8_readWord 79 = .ok (.astore 4, 2) := by decide +kernel
theorem dX8_readWord_81 : decode cX8_readWord 81 = .ok (.aload 4, 2) := by decide +kernel
theorem dX8_readWord_83 : decode cX8_readWord 83 = .ok (.getfield 111, 3) := by decide +kernel
theorem dX8_readWord_86 : decode cX8_readWord 86 = .ok (.invokevirtual 115, 3) := by decide +kernel
theorem dX8_readWord_89 : decode cX8_readWord 89 = .ok (.aload_n 0, 1) := by decide +kernel
theorem dX8_readWord_90 : decode cX8_readWord 90 = .ok (.getfield 38, 3) := by decide +kernel
theorem dX8_readWord_93 : decode cX8_readWord 93 = .ok (.aload_n 0, 1) := by decide +kernel
theorem dX8_readWord_94 : decode cX8_readWord 94 = .ok (.getfield 46, 3) := by decide +kernel
theorem dX8_readWord_97 : decode cX8_readWord 97 = .ok (.isub, 1) := by decide +kernel
theorem dX8_readWord_98 : decode cX8_readWord 98 = .ok (.if_icmp .ne 18, 3) := by decide +kernel
theorem dX8_readWord_101 : decode cX8_readWord 101 = .ok (.aload_n 0, 1) := by decide +kernel
theorem dX8_readWord_102 : decode cX8_readWord 102 = .ok (.aload 4, 2) := by decide +kernel
theorem dX8_readWord_104 : decode cX8_readWord 104 = .ok (.getfield 111, 3) := by decide +kernel
theorem dX8_readWord_107 : decode cX8_readWord 107 = .ok (.invokevirtual 121, 3) := by decide +kernel
theorem dX8_readWord_110 : decode cX8_readWord 110 = .ok (.ifCond .eq 6, 3) := by decide +kernel
theorem dX8_readWord_113 : decode cX8_readWord 113 = .ok (.aload 4, 2) := by decide +kernel
theorem dX8_readWord_115 : decode cX8_readWord 115 = .ok (.areturn, 1) := by decide +kernel
theorem dX8_readWord_116 : decode cX8_readWord 116 = .ok (.iinc 3 1, 3) := by decide +kernel
theorem dX8_readWord_119 : decode cX8_readWord 119 = .ok (.goto (-48), 3) := by decide +kernel
theorem dX8_readWord_122 : decode cX8_readWord 122 = .ok (.getstatic 125, 3) := by decide +kernel
theorem dX8_readWord_125 : decode cX8_readWord 125 = .ok (.areturn, 1) := by decide +kernel
theorem dX8_readNumber_0 : decode cX8_readNumber 0 = .ok (.aload_n 0, 1) := by decide +kernel
theorem dX8_readNumber_1 : decode cX8_readNumber 1 = .ok (.getfield 38, 3) := by decide +kernel
theorem dX8_readNumber_4 : decode cX8_readNumber 4 = .ok (.aload_n 0, 1) := by decide +kernel
theorem dX8_readNumber_5 : decode cX8_readNumber 5 = .ok (.getfield 12, 3) := by decide +kernel
theorem dX8_readNumber_8 : decode cX8_readNumber 8 = .ok (.getfield 49, 3) := by decide +kernel
theorem dX8_readNumber_11 : decode cX8_readNumber 11 = .ok (.if_icmp .ge 33, 3) := by decide +kernel
theorem dX8_readNumber_14 : decode cX8_readNumber 14 = .ok (.aload_n 0, 1) := by decide +kernel
theorem dX8_readNumber_15 : decode cX8_readNumber 15 = .ok (.getfield 12, 3) := by decide +kernel
theorem dX8_readNumber_18 : decode cX8_readNumber 18 = .ok (.aload_n 0, 1) := by decide +kernel
theorem dX8_readNumber_19 : decode cX8_readNumber 19 = .ok (.getfield 38, 3) := by decide +kernel
theorem dX8_readNumber_22 : decode cX8_readNumber 22 = .ok (.invokevirtual 75, 3) := by decide +kernel
theorem dX8_readNumber_25 : decode cX8_readNumber 25 = .ok (.invokestatic 78, 3) := by decide +kernel
theorem dX8_readNumber_28 : decode cX8_readNumber 28 = .ok (.ifCond .eq 16, 3) := by decide +kernel
theorem dX8_readNumber_31 : decode cX8_readNumber 31 = .ok (.aload_n 0, 1) := by decide +kernel
theorem dX8_readNumber_32 : decode cX8_readNumber 32 = .ok (.dup, 1) := by decide +kernel
theorem dX8_readNumber_33 : decode cX8_readNumber 33 = .ok (.getfield 38, 3) := by decide +kernel
theorem dX8_readNumber_36 : decode cX8_readNumber 36 = .ok (.iconst 1, 1) := by decide +kernel
theorem dX8_readNumber_37 : decode cX8_readNumber 37 = .ok (.iadd, 1) := by decide +kernel
theorem dX8_readNumber_38 : decode cX8_readNumber 38 = .ok (.putfield 38, 3) := by decide +kernel
theorem dX8_readNumber_41 : decode cX8_readNumber 41 = .ok (.goto (-41), 3) := by decide +kernel
theorem dX8_readNumber_44 : decode cX8_readNumber 44 = .ok (.aload_n 0, 1) := by decide +kernel
theorem dX8_readNumber_45 : decode cX8_readNumber 45 = .ok (.getfield 38, 3) := by decide +kernel
theorem dX8_readNumber_48 : decode cX8_readNumber 48 = .ok (.aload_n 0, 1) := by decide +kernel
theorem dX8_readNumber_49 : decode cX8_readNumber 49 = .ok (.getfield 46, 3) := by decide +kernel
theorem dX8_readNumber_52 : decode cX8_readNumber 52 = .ok (.isub, 1) := by decide +kernel
theorem dX8_readNumber_53 : decode cX8_readNumber 53 = .ok (.bipush 6, 2) := by decide +kernel
theorem dX8_readNumber_55 : decode cX8_readNumber 55 = .ok (.if_icmp .le 9, 3) := by decide +kernel
theorem dX8_readNumber_58 : decode cX8_readNumber 58 = .ok (.getstatic 31, 3) := by decide +kernel
theorem dX8_readNumber_61 : decode cX8_readNumber 61 = .ok (.goto 6, 3) := by decide +kernel
theorem dX8_readNumber_64 : decode cX8_readNumber 64 = .ok (.getstatic 128, 3) := by decide +kernel
theorem dX8_readNumber_67 : decode cX8_readNumber 67 = .ok (.areturn, 1) := by decide +kernel
theorem dX8_readSymbol_0 : decode cX8_readSymbol 0 = .ok (.getstatic 31, 3) := by decide +kernel
theorem dX8_readSymbol_3 : decode cX8_readSymbol 3 = .ok (.astore_n 1, 1) := by decide +kernel
theorem dX8_readSymbol_4 : decode cX8_readSymbol 4 = .ok (.getstatic 108, 3) := by decide +kernel
theorem dX8_readSymbol_7 : decode cX8_readSymbol 7 = .ok (.astore_n 2, 1) := by decide +kernel
theorem dX8_readSymbol_8 : decode cX8_readSymbol 8 = .ok (.aload_n 2, 1) := by decide +kernel
theorem dX8_readSymbol_9 : decode cX8_readSymbol 9 = .ok (.arraylength, 1) := by decide +kernel
theorem dX8_readSymbol_10 : decode cX8_readSymbol 10 = .ok (.istore_n 3, 1) := by decide +kernel
theorem dX8_readSymbol_11 : decode cX8_readSymbol 11 = .ok (.iconst 0, 1) := by decide +kernel
theorem dX8_readSymbol_12 : decode cX8_readSymbol 12 = .ok (.istore 4, 2) := by decide +kernel
theorem dX8_readSymbol_14 : decode cX8_readSymbol 14 = .ok (.iload 4, 2) := by decide +kernel
theorem dX8_readSymbol_16 : decode cX8_readSymbol 16 = .ok (.iload_n 3, 1) := by decide +kernel
theorem dX8_readSymbol_17 : decode cX8_readSymbol 17 = .ok (.if_icmp .ge 48, 3) := by decide +kernel
theorem dX8_readSymbol_20 : decode cX8_readSymbol 20 = .ok (.aload_n 2, 1) := by decide +kernel
theorem dX8_readSymbol_21 : decode cX8_readSymbol 21 = .ok (.iload 4, 2) := by decide +kernel
theorem dX8_readSymbol_23 : decode cX8_readSymbol 23 = .ok (.aaload, 1) := by decide +kernel
theorem dX8_readSymbol_24 : decode cX8_readSymbol 24 = .ok (.astore 5, 2) := by decide +kernel
theorem dX8_readSymbol_26 : decode cX8_readSymbol 26 = .ok (.aload 5, 2) := by decide +kernel
theorem dX8_readSymbol_28 : decode cX8_readSymbol 28 = .ok (.getfield 111, 3) := by decide +kernel
theorem dX8_readSymbol_31 : decode cX8_readSymbol 31 = .ok (.invokevirtual 115, 3) := by decide +kernel
theorem dX8_readSymbol_34 : decode cX8_readSymbol 34 = .ok (.aload_n 1, 1) := by decide +kernel
theorem dX8_readSymbol_35 : decode cX8_readSymbol 35 = .ok (.getfield 111, 3) := by decide +kernel
theorem dX8_readSymbol_38 : decode cX8_readSymbol 38 = .ok (.invokevirtual 115, 3) := by decide +kernel
theorem dX8_readSymbol_41 : decode cX8_readSymbol 41 = .ok (.if_icmp .le 18, 3) := by decide +kernel
theorem dX8_readSymbol_44 : decode cX8_readSymbol 44 = .ok (.aload_n 0, 1) := by decide +kernel
theorem dX8_readSymbol_45 : decode cX8_readSymbol 45 = .ok (.aload 5, 2) := by decide +kernel
theorem dX8_readSymbol_47 : decode cX8_readSymbol 47 = .ok (.getfield 111, 3) := by decide +kernel
theorem dX8_readSymbol_50 : decode cX8_readSymbol 50 = .ok (.invokevirtual 121, 3) := by decide +kernel
theorem dX8_readSymbol_53 : decode cX8_readSymbol 53 = .ok (.ifCond .eq 6, 3) := by decide +kernel
theorem dX8_readSymbol_56 : decode cX8_readSymbol 56 = .ok (.aload 5, 2) := by decide +kernel
theorem dX8_readSymbol_58 : decode cX8_readSymbol 58 = .ok (.astore_n 1, 1) := by decide +kernel
theorem dX8_readSymbol_59 : decode cX8_readSymbol 59 = .ok (.iinc 4 1, 3) := by decide +kernel
theorem dX8_readSymbol_62 : decode cX8_readSymbol 62 = .ok (.goto (-48), 3) := by decide +kernel
theorem dX8_readSymbol_65 : decode cX8_readSymbol 65 = .ok (.aload_n 0, 1) := by decide +kernel
theorem dX8_readSymbol_66 : decode cX8_readSymbol 66 = .ok (.aload_n 0, 1) := by decide +kernel
theorem dX8_readSymbol_67 : decode cX8_readSymbol 67 = .ok (.getfield 46, 3) := by decide +kernel
theorem dX8_readSymbol_70 : decode cX8_readSymbol 70 = .ok (.aload_n 1, 1) := by decide +kernel
theorem dX8_readSymbol_71 : decode cX8_readSymbol 71 = .ok (.getfield 111, 3) := by decide +kernel
theorem dX8_readSymbol_74 : decode cX8_readSymbol 74 = .ok (.invokevirtual 115, 3) := by decide +kernel
theorem dX8_readSymbol_77 : decode cX8_readSymbol 77 = .ok (.iadd, 1) := by decide +kernel
theorem dX8_readSymbol_78 : decode cX8_readSymbol 78 = .ok (.putfield 38, 3) := by decide +kernel
theorem dX8_readSymbol_81 : decode cX8_readSymbol 81 = .ok (.aload_n 1, 1) := by decide +kernel
theorem dX8_readSymbol_82 : decode cX8_readSymbol 82 = .ok (.areturn, 1) := by decide +kernel
theorem dX8_standsHere_0 : decode cX8_standsHere 0 = .ok (.iconst 0, 1) := by decide +kernel
theorem dX8_standsHere_1 : decode cX8_standsHere 1 = .ok (.istore_n 2, 1) := by decide +kernel
theorem dX8_standsHere_2 : decode cX8_standsHere 2 = .ok (.iload_n 2, 1) := by decide +kernel
theorem dX8_standsHere_3 : decode cX8_standsHere 3 = .ok (.aload_n 1, 1) := by decide +kernel
theorem dX8_standsHere_4 : decode cX8_standsHere 4 = .ok (.invokevirtual 115, 3) := by decide +kernel
theorem dX8_standsHere_7 : decode cX8_standsHere 7 = .ok (.if_icmp .ge 32, 3) := by decide +kernel
theorem dX8_standsHere_10 : decode cX8_standsHere 10 = .ok (.aload_n 0, 1) := by decide +kernel
theorem dX8_standsHere_11 : decode cX8_standsHere 11 = .ok (.getfield 12, 3) := by decide +kernel
theorem dX8_standsHere_14 : decode cX8_standsHere 14 = .ok (.aload_n 0, 1) := by decide +kernel
theorem dX8_standsHere_15 : decode cX8_standsHere 15 = .ok (.getfield 46, 3) := by decide +kernel
theorem dX8_standsHere_18 : decode cX8_standsHere 18 = .ok (.iload_n 2, 1) := by decide +kernel
theorem dX8_standsHere_19 : decode cX8_standsHere 19 = .ok (.iadd, 1) := by decide +kernel
theorem dX8_standsHere_20 : decode cX8_standsHere 20 = .ok (.invokevirtual 75, 3) := by decide +kernel
theorem dX8_standsHere_23 : decode cX8_standsHere 23 = .ok (.aload_n 1, 1) := by decide +kernel
theorem dX8_standsHere_24 : decode cX8_standsHere 24 = .ok (.iload_n 2, 1) := by decide +kernel
theorem dX8_standsHere_25 : decode cX8_standsHere 25 = .ok (.invokevirtual 131, 3) := by decide +kernel
theorem dX8_standsHere_28 : decode cX8_standsHere 28 = .ok (.if_icmp .eq 5, 3) := by decide +kernel
theorem dX8_standsHere_31 : decode cX8_standsHere 31 = .ok (.iconst 0, 1) := by decide +kernel
theorem dX8_standsHere_32 : decode cX8_standsHere 32 = .ok (.ireturn, 1) := by decide +kernel
theorem dX8_standsHere_33 : decode cX8_standsHere 33 = .ok (.iinc 2 1, 3) := by decide +kernel
theorem dX8_standsHere_36 : decode cX8_standsHere 36 = .ok (.goto (-34), 3) := by decide +kernel
theorem dX8_standsHere_39 : decode cX8_standsHere 39 = .ok (.iconst 1, 1) := by decide +kernel
theorem dX8_standsHere_40 : decode cX8_standsHere 40 = .ok (.ireturn, 1) := by decide +kernel
theorem dX8_isBlank_0 : decode cX8_isBlank 0 = .ok (.iload_n 0, 1) := by decide +kernel
theorem dX8_isBlank_1 : decode cX8_isBlank 1 = .ok (.bipush 32, 2) := by decide +kernel
theorem dX8_isBlank_3 : decode cX8_isBlank 3 = .ok (.if_icmp .eq 9, 3) := by decide +kernel
theorem dX8_isBlank_6 : decode cX8_isBlank 6 = .ok (.iload_n 0, 1) := by decide +kernel
theorem dX8_isBlank_7 : decode cX8_isBlank 7 = .ok (.bipush 10, 2) := by decide +kernel
theorem dX8_isBlank_9 : decode cX8_isBlank 9 = .ok (.if_icmp .ne 7, 3) := by decide +kernel
theorem dX8_isBlank_12 : decode cX8_isBlank 12 = .ok (.iconst 1, 1) := by decide +kernel
theorem dX8_isBlank_13 : decode cX8_isBlank 13 = .ok (.goto 4, 3) := by decide +kernel
theorem dX8_isBlank_16 : decode cX8_isBlank 16 = .ok (.iconst 0, 1) := by decide +kernel
theorem dX8_isBlank_17 : decode cX8_isBlank 17 = .ok (.ireturn, 1) := by decide +kernel
theorem dX8_isLetter_0 : decode cX8_isLetter 0 = .ok (.iload_n 0, 1) := by decide +kernel
theorem dX8_isLetter_1 : decode cX8_isLetter 1 = .ok (.bipush 97, 2) := by decide +kernel
theorem dX8_isLetter_3 : decode cX8_isLetter 3 = .ok (.if_icmp .lt 13, 3) := by decide +kernel
theorem dX8_isLetter_6 : decode cX8_isLetter 6 = .ok (.iload_n 0, 1) := by decide +kernel
theorem dX8_isLetter_7 : decode cX8_isLetter 7 = .ok (.bipush 122, 2) := by decide +kernel
theorem dX8_isLetter_9 : decode cX8_isLetter 9 = .ok (.if_icmp .gt 7, 3) := by decide +kernel
theorem dX8_isLetter_12 : decode cX8_isLetter 12 = .ok (.iconst 1, 1) := by decide +kernel
theorem dX8_isLetter_13 : decode cX8_isLetter 13 = .ok (.goto 4, 3) := by decide +kernel
theorem dX8_isLetter_16 : decode cX8_isLetter 16 = .ok (.iconst 0, 1) := by decide +kernel
theorem dX8_isLetter_17 : decode cX8_isLetter 17 = .ok (.ireturn, 1) := by decide +kernel
theorem dX8_isDigit_0 : decode cX8_isDigit 0 = .ok (.iload_n 0, 1) := by decide +kernel
theorem dX8_isDigit_1 : decode cX8_isDigit 1 = .ok (.bipush 48, 2) := by decide +kernel
theorem dX8_isDigit_3 : decode cX8_isDigit 3 = .ok (.if_icmp .lt 13, 3) := by decide +kernel
theorem dX8_isDigit_6 : decode cX8_isDigit 6 = .ok (.iload_n 0, 1) := by decide +kernel
theorem dX8_isDigit_7 : decode cX8_isDigit 7 = .ok (.bipush 57, 2) := by decide +kernel
theorem dX8_isDigit_9 : decode cX8_isDigit 9 = .ok (.if_icmp .gt 7, 3) := by decide +kernel
theorem dX8_isDigit_12 : decode cX8_isDigit 12 = .ok (.iconst 1, 1) := by decide +kernel
theorem dX8_isDigit_13 : decode cX8_isDigit 13 = .ok (.goto 4, 3) := by decide +kernel
theorem dX8_isDigit_16 : decode cX8_isDigit 16 = .ok (.iconst 0, 1) := by decide +kernel
theorem dX8_isDigit_17 : decode cX8_isDigit 17 = .ok (.ireturn, 1) := by decide +kernel
theorem dX8_isLetterOrDigit_0 : decode cX8_isLetterOrDigit 0 = .ok (.iload_n 0, 1) := by decide +kernel
theorem dX8_isLetterOrDigit_1 : decode cX8_isLetterOrDigit 1 = .ok (.invokestatic 93, 3) := by decide +kernel
theorem dX8_isLetterOrDigit_4 : decode cX8_isLetterOrDigit 4 = .ok (.ifCond .ne 10, 3) := by decide +kernel
theorem dX8_isLetterOrDigit_7 : decode cX8_isLetterOrDigit 7 = .ok (.iload_n 0, 1) := by decide +kernel
theorem dX8_isLetterOrDigit_8 : decode cX8_isLetterOrDigit 8 = .ok (.invokestatic 78, 3) := by decide +kernel
theorem dX8_isLetterOrDigit_11 : decode cX8_isLetterOrDigit 11 = .ok (.ifCond .eq 7, 3) := by decide +kernel
theorem dX8_isLetterOrDigit_14 : decode cX8_isLetterOrDigit 14 = .ok (.iconst 1, 1) := by decide +kernel
theorem dX8_isLetterOrDigit_15 : decode cX8_isLetterOrDigit 15 = .ok (.goto 4, 3) := by decide +kernel
theorem dX8_isLetterOrDigit_18 : decode cX8_isLetterOrDigit 18 = .ok (.iconst 0, 1) := by decide +kernel
theorem dX8_isLetterOrDigit_19 : decode cX8_isLetterOrDigit 19 = .ok (.ireturn, 1) := by decide +kernel
theorem dX9_init_0 : decode cX9_init 0 = .ok (.aload_n 0, 1) := by decide +kernel
theorem dX9_init_1 : decode cX9_init 1 = .ok (.invokespecial 3, 3) := by decide +kernel
theorem dX9_init_4 : decode cX9_init 4 = .ok (.aload_n 0, 1) := by decide +kernel
theorem dX9_init_5 : decode cX9_init 5 = .ok (.bipush 10, 2) := by decide +kernel
theorem dX9_init_7 : decode cX9_init 7 = .ok (.newarray .int, 2) := by decide +kernel
theorem dX9_init_9 : decode cX9_init 9 = .ok (.putfield 9, 3) := by decide +kernel
theorem dX9_init_12 : decode cX9_init 12 = .ok (.return_, 1) := by decide +kernel
