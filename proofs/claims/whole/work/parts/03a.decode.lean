theorem dX0_init_0 : decode cX0_init 0 = .ok (.aload_n 0, 1) := by decide +kernel
theorem dX0_init_1 : decode cX0_init 1 = .ok (.invokespecial 3, 3) := by decide +kernel
theorem dX0_init_4 : decode cX0_init 4 = .ok (.aload_n 0, 1) := by decide +kernel
theorem dX0_init_5 : decode cX0_init 5 = .ok (.bipush 30, 2) := by decide +kernel
theorem dX0_init_7 : decode cX0_init 7 = .ok (.newarray .int, 2) := by decide +kernel
theorem dX0_init_9 : decode cX0_init 9 = .ok (.putfield 9, 3) := by decide +kernel
theorem dX0_init_12 : decode cX0_init 12 = .ok (.aload_n 0, 1) := by decide +kernel
theorem dX0_init_13 : decode cX0_init 13 = .ok (.iconst 0, 1) := by decide +kernel
theorem dX0_init_14 : decode cX0_init 14 = .ok (.putfield 15, 3) := by decide +kernel
theorem dX0_init_17 : decode cX0_init 17 = .ok (.aload_n 0, 1) := by decide +kernel
theorem dX0_init_18 : decode cX0_init 18 = .ok (.iconst 0, 1) := by decide +kernel
theorem dX0_init_19 : decode cX0_init 19 = .ok (.putfield 19, 3) := by decide +kernel
theorem dX0_init_22 : decode cX0_init 22 = .ok (.aload_n 0, 1) := by decide +kernel
theorem dX0_init_23 : decode cX0_init 23 = .ok (.iconst 0, 1) := by decide +kernel
theorem dX0_init_24 : decode cX0_init 24 = .ok (.putfield 23, 3) := by decide +kernel
theorem dX0_init_27 : decode cX0_init 27 = .ok (.aload_n 0, 1) := by decide +kernel
theorem dX0_init_28 : decode cX0_init 28 = .ok (.iconst 0, 1) := by decide +kernel
theorem dX0_init_29 : decode cX0_init 29 = .ok (.putfield 26, 3) := by decide +kernel
theorem dX0_init_32 : decode cX0_init 32 = .ok (.aload_n 0, 1) := by decide +kernel
theorem dX0_init_33 : decode cX0_init 33 = .ok (.iconst 0, 1) := by decide +kernel
theorem dX0_init_34 : decode cX0_init 34 = .ok (.putfield 29, 3) := by decide +kernel
theorem dX0_init_37 : decode cX0_init 37 = .ok (.return_, 1) := by decide +kernel
theorem dX0_forget_0 : decode cX0_forget 0 = .ok (.aload_n 0, 1) := by decide +kernel
theorem dX0_forget_1 : decode cX0_forget 1 = .ok (.iconst 0, 1) := by decide +kernel
theorem dX0_forget_2 : decode cX0_forget 2 = .ok (.putfield 15, 3) := by decide +kernel
theorem dX0_forget_5 : decode cX0_forget 5 = .ok (.aload_n 0, 1) := by decide +kernel
theorem dX0_forget_6 : decode cX0_forget 6 = .ok (.iconst 0, 1) := by decide +kernel
theorem dX0_forget_7 : decode cX0_forget 7 = .ok (.putfield 19, 3) := by decide +kernel
theorem dX0_forget_10 : decode cX0_forget 10 = .ok (.return_, 1) := by decide +kernel
theorem dX0_answer_0 : decode cX0_answer 0 = .ok (.aload_n 0, 1) := by decide +kernel
theorem dX0_answer_1 : decode cX0_answer 1 = .ok (.aload_n 1, 1) := by decide +kernel
theorem dX0_answer_2 : decode cX0_answer 2 = .ok (.getfield 32, 3) := by decide +kernel
theorem dX0_answer_5 : decode cX0_answer 5 = .ok (.iconst 0, 1) := by decide +kernel
theorem dX0_answer_6 : decode cX0_answer 6 = .ok (.iaload, 1) := by decide +kernel
theorem dX0_answer_7 : decode cX0_answer 7 = .ok (.putfield 23, 3) := by decide +kernel
theorem dX0_answer_10 : decode cX0_answer 10 = .ok (.aload_n 0, 1) := by decide +kernel
theorem dX0_answer_11 : decode cX0_answer 11 = .ok (.aload_n 1, 1) := by decide +kernel
theorem dX0_answer_12 : decode cX0_answer 12 = .ok (.getfield 32, 3) := by decide +kernel
theorem dX0_answer_15 : decode cX0_answer 15 = .ok (.iconst 1, 1) := by decide +kernel
theorem dX0_answer_16 : decode cX0_answer 16 = .ok (.iaload, 1) := by decide +kernel
theorem dX0_answer_17 : decode cX0_answer 17 = .ok (.putfield 29, 3) := by decide +kernel
theorem dX0_answer_20 : decode cX0_answer 20 = .ok (.aload_n 0, 1) := by decide +kernel
theorem dX0_answer_21 : decode cX0_answer 21 = .ok (.iload_n 2, 1) := by decide +kernel
theorem dX0_answer_22 : decode cX0_answer 22 = .ok (.putfield 26, 3) := by decide +kernel
theorem dX0_answer_25 : decode cX0_answer 25 = .ok (.iconst 0, 1) := by decide +kernel
theorem dX0_answer_26 : decode cX0_answer 26 = .ok (.istore 5, 2) := by decide +kernel
theorem dX0_answer_28 : decode cX0_answer 28 = .ok (.iload_n 3, 1) := by decide +kernel
theorem dX0_answer_29 : decode cX0_answer 29 = .ok (.tableswitch 60 0 2 #[27, 38, 49], 27) := by decide +kernel
theorem dX0_answer_56 : decode cX0_answer 56 = .ok (.aload_n 0, 1) := by decide +kernel
theorem dX0_answer_57 : decode cX0_answer 57 = .ok (.iload 4, 2) := by decide +kernel
theorem dX0_answer_59 : decode cX0_answer 59 = .ok (.invokevirtual 37, 3) := by decide +kernel
theorem dX0_answer_62 : decode cX0_answer 62 = .ok (.istore 5, 2) := by decide +kernel
theorem dX0_answer_64 : decode cX0_answer 64 = .ok (.goto 33, 3) := by decide +kernel
theorem dX0_answer_67 : decode cX0_answer 67 = .ok (.aload_n 0, 1) := by decide +kernel
theorem dX0_answer_68 : decode cX0_answer 68 = .ok (.iload 4, 2) := by decide +kernel
theorem dX0_answer_70 : decode cX0_answer 70 = .ok (.invokevirtual 41, 3) := by decide +kernel
theorem dX0_answer_73 : decode cX0_answer 73 = .ok (.istore 5, 2) := by decide +kernel
theorem dX0_answer_75 : decode cX0_answer 75 = .ok (.goto 22, 3) := by decide +kernel
theorem dX0_answer_78 : decode cX0_answer 78 = .ok (.aload_n 0, 1) := by decide +kernel
theorem dX0_answer_79 : decode cX0_answer 79 = .ok (.iload 4, 2) := by decide +kernel
theorem dX0_answer_81 : decode cX0_answer 81 = .ok (.invokevirtual 44, 3) := by decide +kernel
theorem dX0_answer_84 : decode cX0_answer 84 = .ok (.istore 5, 2) := by decide +kernel
theorem dX0_answer_86 : decode cX0_answer 86 = .ok (.goto 11, 3) := by decide +kernel
theorem dX0_answer_89 : decode cX0_answer 89 = .ok (.aload_n 0, 1) := by decide +kernel
theorem dX0_answer_90 : decode cX0_answer 90 = .ok (.iload 4, 2) := by decide +kernel
theorem dX0_answer_92 : decode cX0_answer 92 = .ok (.invokevirtual 47, 3) := by decide +kernel
theorem dX0_answer_95 : decode cX0_answer 95 = .ok (.istore 5, 2) := by decide +kernel
theorem dX0_answer_97 : decode cX0_answer 97 = .ok (.aload_n 0, 1) := by decide +kernel
theorem dX0_answer_98 : decode cX0_answer 98 = .ok (.getfield 19, 3) := by decide +kernel
theorem dX0_answer_101 : decode cX0_answer 101 = .ok (.ifCond .eq 8, 3) := by decide +kernel
theorem dX0_answer_104 : decode cX0_answer 104 = .ok (.bipush (-15), 2) := by decide +kernel
theorem dX0_answer_106 : decode cX0_answer 106 = .ok (.goto 5, 3) := by decide +kernel
theorem dX0_answer_109 : decode cX0_answer 109 = .ok (.iload 5, 2) := by decide +kernel
theorem dX0_answer_111 : decode cX0_answer 111 = .ok (.ireturn, 1) := by decide +kernel
theorem dX0_begin_0 : decode cX0_begin 0 = .ok (.aload_n 0, 1) := by decide +kernel
theorem dX0_begin_1 : decode cX0_begin 1 = .ok (.getfield 19, 3) := by decide +kernel
theorem dX0_begin_4 : decode cX0_begin 4 = .ok (.ifCond .ne 32, 3) := by decide +kernel
theorem dX0_begin_7 : decode cX0_begin 7 = .ok (.aload_n 0, 1) := by decide +kernel
theorem dX0_begin_8 : decode cX0_begin 8 = .ok (.getfield 15, 3) := by decide +kernel
theorem dX0_begin_11 : decode cX0_begin 11 = .ok (.bipush 30, 2) := by decide +kernel
theorem dX0_begin_13 : decode cX0_begin 13 = .ok (.if_icmp .ge 23, 3) := by decide +kernel
theorem dX0_begin_16 : decode cX0_begin 16 = .ok (.aload_n 0, 1) := by decide +kernel
theorem dX0_begin_17 : decode cX0_begin 17 = .ok (.getfield 9, 3) := by decide +kernel
theorem dX0_begin_20 : decode cX0_begin 20 = .ok (.aload_n 0, 1) := by decide +kernel
theorem dX0_begin_21 : decode cX0_begin 21 = .ok (.getfield 15, 3) := by decide +kernel
theorem dX0_begin_24 : decode cX0_begin 24 = .ok (.iload_n 1, 1) := by decide +kernel
theorem dX0_begin_25 : decode cX0_begin 25 = .ok (.iastore, 1) := by decide +kernel
theorem dX0_begin_26 : decode cX0_begin 26 = .ok (.aload_n 0, 1) := by decide +kernel
theorem dX0_begin_27 : decode cX0_begin 27 = .ok (.dup, 1) := by decide +kernel
theorem dX0_begin_28 : decode cX0_begin 28 = .ok (.getfield 15, 3) := by decide +kernel
theorem dX0_begin_31 : decode cX0_begin 31 = .ok (.iconst 1, 1) := by decide +kernel
theorem dX0_begin_32 : decode cX0_begin 32 = .ok (.iadd, 1) := by decide +kernel
theorem dX0_begin_33 : decode cX0_begin 33 = .ok (.putfield 15, 3) := by decide +kernel
theorem dX0_begin_36 : decode cX0_begin 36 = .ok (.return_, 1) := by decide +kernel
theorem dX0_lifts_0 : decode cX0_lifts 0 = .ok (.aload_n 0, 1) := by decide +kernel
theorem dX0_lifts_1 : decode cX0_lifts 1 = .ok (.getfield 23, 3) := by decide +kernel
theorem dX0_lifts_4 : decode cX0_lifts 4 = .ok (.tableswitch 102 2 4 #[28, 49, 78], 28) := by decide +kernel
theorem dX0_lifts_32 : decode cX0_lifts 32 = .ok (.aload_n 0, 1) := by decide +kernel
theorem dX0_lifts_33 : decode cX0_lifts 33 = .ok (.bipush 30, 2) := by decide +kernel
theorem dX0_lifts_35 : decode cX0_lifts 35 = .ok (.invokevirtual 50, 3) := by decide +kernel
theorem dX0_lifts_38 : decode cX0_lifts 38 = .ok (.aload_n 0, 1) := by decide +kernel
theorem dX0_lifts_39 : decode cX0_lifts 39 = .ok (.bipush 10, 2) := by decide +kernel
theorem dX0_lifts_41 : decode cX0_lifts 41 = .ok (.invokevirtual 50, 3) := by decide +kernel
theorem dX0_lifts_44 : decode cX0_lifts 44 = .ok (.iload_n 1, 1) := by decide +kernel
theorem dX0_lifts_45 : decode cX0_lifts 45 = .ok (.aload_n 0, 1) := by decide +kernel
theorem dX0_lifts_46 : decode cX0_lifts 46 = .ok (.getfield 26, 3) := by decide +kernel
theorem dX0_lifts_49 : decode cX0_lifts 49 = .ok (.iadd, 1) := by decide +kernel
theorem dX0_lifts_50 : decode cX0_lifts 50 = .ok (.iconst 3, 1) := by decide +kernel
theorem dX0_lifts_51 : decode cX0_lifts 51 = .ok (.imul, 1) := by decide +kernel
theorem dX0_lifts_52 : decode cX0_lifts 52 = .ok (.ireturn, 1) := by decide +kernel
theorem dX0_lifts_53 : decode cX0_lifts 53 = .ok (.aload_n 0, 1) := by decide +kernel
theorem dX0_lifts_54 : decode cX0_lifts 54 = .ok (.bipush 40, 2) := by decide +kernel
theorem dX0_lifts_56 : decode cX0_lifts 56 = .ok (.invokevirtual 50, 3) := by decide +kernel
theorem dX0_lifts_59 : decode cX0_lifts 59 = .ok (.aload_n 0, 1) := by decide +kernel
theorem dX0_lifts_60 : decode cX0_lifts 60 = .ok (.bipush 30, 2) := by decide +kernel
theorem dX0_lifts_62 : decode cX0_lifts 62 = .ok (.invokevirtual 50, 3) := by decide +kernel
theorem dX0_lifts_65 : decode cX0_lifts 65 = .ok (.aload_n 0, 1) := by decide +kernel
theorem dX0_lifts_66 : decode cX0_lifts 66 = .ok (.bipush 10, 2) := by decide +kernel
theorem dX0_lifts_68 : decode cX0_lifts 68 = .ok (.invokevirtual 50, 3) := by decide +kernel
theorem dX0_lifts_71 : decode cX0_lifts 71 = .ok (.iconst 0, 1) := by decide +kernel
theorem dX0_lifts_72 : decode cX0_lifts 72 = .ok (.iload_n 1, 1) := by decide +kernel
theorem dX0_lifts_73 : decode cX0_lifts 73 = .ok (.aload_n 0, 1) := by decide +kernel
theorem dX0_lifts_74 : decode cX0_lifts 74 = .ok (.getfield 26, 3) := by decide +kernel
theorem dX0_lifts_77 : decode cX0_lifts 77 = .ok (.iadd, 1) := by decide +kernel
theorem dX0_lifts_78 : decode cX0_lifts 78 = .ok (.iconst 3, 1) := by decide +kernel
theorem dX0_lifts_79 : decode cX0_lifts 79 = .ok (.imul, 1) := by decide +kernel
theorem dX0_lifts_80 : decode cX0_lifts 80 = .ok (.isub, 1) := by decide +kernel
theorem dX0_lifts_81 : decode cX0_lifts 81 = .ok (.ireturn, 1) := by decide +kernel
theorem dX0_lifts_82 : decode cX0_lifts 82 = .ok (.aload_n 0, 1) := by decide +kernel
theorem dX0_lifts_83 : decode cX0_lifts 83 = .ok (.bipush 51, 2) := by decide +kernel
theorem dX0_lifts_85 : decode cX0_lifts 85 = .ok (.invokevirtual 50, 3) := by decide +kernel
theorem dX0_lifts_88 : decode cX0_lifts 88 = .ok (.aload_n 0, 1) := by decide +kernel
theorem dX0_lifts_89 : decode cX0_lifts 89 = .ok (.bipush 10, 2) := by decide +kernel
theorem dX0_lifts_91 : decode cX0_lifts 91 = .ok (.invokevirtual 50, 3) := by decide +kernel
theorem dX0_lifts_94 : decode cX0_lifts 94 = .ok (.iload_n 1, 1) := by decide +kernel
theorem dX0_lifts_95 : decode cX0_lifts 95 = .ok (.aload_n 0, 1) := by decide +kernel
theorem dX0_lifts_96 : decode cX0_lifts 96 = .ok (.getfield 26, 3) := by decide +kernel
theorem dX0_lifts_99 : decode cX0_lifts 99 = .ok (.iadd, 1) := by decide +kernel
theorem dX0_lifts_100 : decode cX0_lifts 100 = .ok (.aload_n 0, 1) := by decide +kernel
theorem dX0_lifts_101 : decode cX0_lifts 101 = .ok (.getfield 26, 3) := by decide +kernel
theorem dX0_lifts_104 : decode cX0_lifts 104 = .ok (.isub, 1) := by decide +kernel
theorem dX0_lifts_105 : decode cX0_lifts 105 = .ok (.ireturn, 1) := by decide +kernel
theorem dX0_lifts_106 : decode cX0_lifts 106 = .ok (.aload_n 0, 1) := by decide +kernel
theorem dX0_lifts_107 : decode cX0_lifts 107 = .ok (.bipush 10, 2) := by decide +kernel
theorem dX0_lifts_109 : decode cX0_lifts 109 = .ok (.invokevirtual 50, 3) := by decide +kernel
theorem dX0_lifts_112 : decode cX0_lifts 112 = .ok (.iload_n 1, 1) := by decide +kernel
theorem dX0_lifts_113 : decode cX0_lifts 113 = .ok (.aload_n 0, 1) := by decide +kernel
theorem dX0_lifts_114 : decode cX0_lifts 114 = .ok (.getfield 26, 3) := by decide +kernel
theorem dX0_lifts_117 : decode cX0_lifts 117 = .ok (.iadd, 1) := by decide +kernel
theorem dX0_lifts_118 : decode cX0_lifts 118 = .ok (.ireturn, 1) := by decide +kernel
theorem dX0_sinks_0 : decode cX0_sinks 0 = .ok (.aload_n 0, 1) := by decide +kernel
theorem dX0_sinks_1 : decode cX0_sinks 1 = .ok (.getfield 23, 3) := by decide +kernel
theorem dX0_sinks_4 : decode cX0_sinks 4 = .ok (.tableswitch 86 1 4 #[32, 86, 57, 32], 32) := by decide +kernel
theorem dX0_sinks_36 : decode cX0_sinks 36 = .ok (.aload_n 0, 1) := by decide +kernel
theorem dX0_sinks_37 : decode cX0_sinks 37 = .ok (.bipush 20, 2) := by decide +kernel
theorem dX0_sinks_39 : decode cX0_sinks 39 = .ok (.invokevirtual 50, 3) := by decide +kernel
theorem dX0_sinks_42 : decode cX0_sinks 42 = .ok (.aload_n 0, 1) := by decide +kernel
theorem dX0_sinks_43 : decode cX0_sinks 43 = .ok (.bipush 11, 2) := by decide +kernel
theorem dX0_sinks_45 : decode cX0_sinks 45 = .ok (.invokevirtual 50, 3) := by decide +kernel
theorem dX0_sinks_48 : decode cX0_sinks 48 = .ok (.aload_n 0, 1) := by decide +kernel
theorem dX0_sinks_49 : decode cX0_sinks 49 = .ok (.iload_n 1, 1) := by decide +kernel
theorem dX0_sinks_50 : decode cX0_sinks 50 = .ok (.invokevirtual 37, 3) := by decide +kernel
theorem dX0_sinks_53 : decode cX0_sinks 53 = .ok (.iconst 2, 1) := by decide +kernel
theorem dX0_sinks_54 : decode cX0_sinks 54 = .ok (.imul, 1) := by decide +kernel
theorem dX0_sinks_55 : decode cX0_sinks 55 = .ok (.aload_n 0, 1) := by decide +kernel
theorem dX0_sinks_56 : decode cX0_sinks 56 = .ok (.getfield 29, 3) := by decide +kernel
theorem dX0_sinks_59 : decode cX0_sinks 59 = .ok (.isub, 1) := by decide +kernel
theorem dX0_sinks_60 : decode cX0_sinks 60 = .ok (.ireturn, 1) := by decide +kernel
theorem dX0_sinks_61 : decode cX0_sinks 61 = .ok (.aload_n 0, 1) := by decide +kernel
theorem dX0_sinks_62 : decode cX0_sinks 62 = .ok (.bipush 41, 2) := by decide +kernel
theorem dX0_sinks_64 : decode cX0_sinks 64 = .ok (.invokevirtual 50, 3) := by decide +kernel
theorem dX0_sinks_67 : decode cX0_sinks 67 = .ok (.aload_n 0, 1) := by decide +kernel
theorem dX0_sinks_68 : decode cX0_sinks 68 = .ok (.bipush 11, 2) := by decide +kernel
theorem dX0_sinks_70 : decode cX0_sinks 70 = .ok (.invokevirtual 50, 3) := by decide +kernel
theorem dX0_sinks_73 : decode cX0_sinks 73 = .ok (.aload_n 0, 1) := by decide +kernel
theorem dX0_sinks_74 : decode cX0_sinks 74 = .ok (.iload_n 1, 1) := by decide +kernel
theorem dX0_sinks_75 : decode cX0_sinks 75 = .ok (.invokevirtual 37, 3) := by decide +kernel
theorem dX0_sinks_78 : decode cX0_sinks 78 = .ok (.iconst 2, 1) := by decide +kernel
theorem dX0_sinks_79 : decode cX0_sinks 79 = .ok (.imul, 1) := by decide +kernel
theorem dX0_sinks_80 : decode cX0_sinks 80 = .ok (.aload_n 0, 1) := by decide +kernel
theorem dX0_sinks_81 : decode cX0_sinks 81 = .ok (.aload_n 0, 1) := by decide +kernel
theorem dX0_sinks_82 : decode cX0_sinks 82 = .ok (.getfield 26, 3) := by decide +kernel
theorem dX0_sinks_85 : decode cX0_sinks 85 = .ok (.invokevirtual 37, 3) := by decide +kernel
theorem dX0_sinks_88 : decode cX0_sinks 88 = .ok (.iadd, 1) := by decide +kernel
theorem dX0_sinks_89 : decode cX0_sinks 89 = .ok (.ireturn, 1) := by decide +kernel
theorem dX0_sinks_90 : decode cX0_sinks 90 = .ok (.aload_n 0, 1) := by decide +kernel
theorem dX0_sinks_91 : decode cX0_sinks 91 = .ok (.bipush 11, 2) := by decide +kernel
theorem dX0_sinks_93 : decode cX0_sinks 93 = .ok (.invokevirtual 50, 3) := by decide +kernel
theorem dX0_sinks_96 : decode cX0_sinks 96 = .ok (.aload_n 0, 1) := by decide +kernel
theorem dX0_sinks_97 : decode cX0_sinks 97 = .ok (.iload_n 1, 1) := by decide +kernel
theorem dX0_sinks_98 : decode cX0_sinks 98 = .ok (.invokevirtual 37, 3) := by decide +kernel
theorem dX0_sinks_101 : decode cX0_sinks 101 = .ok (.iconst 2, 1) := by decide +kernel
theorem dX0_sinks_102 : decode cX0_sinks 102 = .ok (.imul, 1) := by decide +kernel
theorem dX0_sinks_103 : decode cX0_sinks 103 = .ok (.ireturn, 1) := by decide +kernel
theorem dX0_shares_0 : decode cX0_shares 0 = .ok (.aload_n 0, 1) := by decide +kernel
theorem dX0_shares_1 : decode cX0_shares 1 = .ok (.getfield 23, 3) := by decide +kernel
theorem dX0_shares_4 : decode cX0_shares 4 = .ok (.lookupswitch 65 #[(4, 28), (5, 44)], 28) := by decide +kernel
theorem dX0_shares_32 : decode cX0_shares 32 = .ok (.aload_n 0, 1) := by decide +kernel
theorem dX0_shares_33 : decode cX0_shares 33 = .ok (.bipush 50, 2) := by decide +kernel
theorem dX0_shares_35 : decode cX0_shares 35 = .ok (.invokevirtual 50, 3) := by decide +kernel
theorem dX0_shares_38 : decode cX0_shares 38 = .ok (.aload_n 0, 1) := by decide +kernel
theorem dX0_shares_39 : decode cX0_shares 39 = .ok (.iload_n 1, 1) := by decide +kernel
theorem dX0_shares_40 : decode cX0_shares 40 = .ok (.iconst 2, 1) := by decide +kernel
theorem dX0_shares_41 : decode cX0_shares 41 = .ok (.iadd, 1) := by decide +kernel
theorem dX0_shares_42 : decode cX0_shares 42 = .ok (.invokevirtual 54, 3) := by decide +kernel
theorem dX0_shares_45 : decode cX0_shares 45 = .ok (.iconst 1, 1) := by decide +kernel
theorem dX0_shares_46 : decode cX0_shares 46 = .ok (.ixor, 1) := by decide +kernel
theorem dX0_shares_47 : decode cX0_shares 47 = .ok (.ireturn, 1) := by decide +kernel
theorem dX0_shares_48 : decode cX0_shares 48 = .ok (.aload_n 0, 1) := by decide +kernel
theorem dX0_shares_49 : decode cX0_shares 49 = .ok (.bipush 61, 2) := by decide +kernel
theorem dX0_shares_51 : decode cX0_shares 51 = .ok (.invokevirtual 50, 3) := by decide +kernel
theorem dX0_shares_54 : decode cX0_shares 54 = .ok (.aload_n 0, 1) := by decide +kernel
theorem dX0_shares_55 : decode cX0_shares 55 = .ok (.iload_n 1, 1) := by decide +kernel
theorem dX0_shares_56 : decode cX0_shares 56 = .ok (.invokevirtual 54, 3) := by decide +kernel
theorem dX0_shares_59 : decode cX0_shares 59 = .ok (.aload_n 0, 1) := by decide +kernel
theorem dX0_shares_60 : decode cX0_shares 60 = .ok (.aload_n 0, 1) := by decide +kernel
theorem dX0_shares_61 : decode cX0_shares 61 = .ok (.getfield 29, 3) := by decide +kernel
theorem dX0_shares_64 : decode cX0_shares 64 = .ok (.invokevirtual 37, 3) := by decide +kernel
theorem dX0_shares_67 : decode cX0_shares 67 = .ok (.iadd, 1) := by decide +kernel
theorem dX0_shares_68 : decode cX0_shares 68 = .ok (.ireturn, 1) := by decide +kernel
theorem dX0_shares_69 : decode cX0_shares 69 = .ok (.aload_n 0, 1) := by decide +kernel
theorem dX0_shares_70 : decode cX0_shares 70 = .ok (.iload_n 1, 1) := by decide +kernel
theorem dX0_shares_71 : decode cX0_shares 71 = .ok (.invokevirtual 54, 3) := by decide +kernel
theorem dX0_shares_74 : decode cX0_shares 74 = .ok (.ireturn, 1) := by decide +kernel
theorem dX0_parted_0 : decode cX0_parted 0 = .ok (.aload_n 0, 1) := by decide +kernel
theorem dX0_parted_1 : decode cX0_parted 1 = .ok (.bipush 12, 2) := by decide +kernel
theorem dX0_parted_3 : decode cX0_parted 3 = .ok (.invokevirtual 50, 3) := by decide +kernel
theorem dX0_parted_6 : decode cX0_parted 6 = .ok (.aload_n 0, 1) := by decide +kernel
theorem dX0_parted_7 : decode cX0_parted 7 = .ok (.getfield 29, 3) := by decide +kernel
theorem dX0_parted_10 : decode cX0_parted 10 = .ok (.aload_n 0, 1) := by decide +kernel
theorem dX0_parted_11 : decode cX0_parted 11 = .ok (.getfield 26, 3) := by decide +kernel
theorem dX0_parted_14 : decode cX0_parted 14 = .ok (.if_icmp .ne 10, 3) := by decide +kernel
theorem dX0_parted_17 : decode cX0_parted 17 = .ok (.aload_n 0, 1) := by decide +kernel
theorem dX0_parted_18 : decode cX0_parted 18 = .ok (.iconst 1, 1) := by decide +kernel
theorem dX0_parted_19 : decode cX0_parted 19 = .ok (.putfield 19, 3) := by decide +kernel
theorem dX0_parted_22 : decode cX0_parted 22 = .ok (.iconst 0, 1) := by decide +kernel
theorem dX0_parted_23 : decode cX0_parted 23 = .ok (.ireturn, 1) := by decide +kernel
theorem dX0_parted_24 : decode cX0_parted 24 = .ok (.iload_n 1, 1) := by decide +kernel
theorem dX0_parted_25 : decode cX0_parted 25 = .ok (.aload_n 0, 1) := by decide +kernel
theorem dX0_parted_26 : decode cX0_parted 26 = .ok (.getfield 29, 3) := by decide +kernel
theorem dX0_parted_29 : decode cX0_parted 29 = .ok (.aload_n 0, 1) := by decide +kernel
theorem dX0_parted_30 : decode cX0_parted 30 = .ok (.getfield 26, 3) := by decide +kernel
theorem dX0_parted_33 : decode cX0_parted 33 = .ok (.isub, 1) := by decide +kernel
theorem dX0_parted_34 : decode cX0_parted 34 = .ok (.idiv, 1) := by decide +kernel
theorem dX0_parted_35 : decode cX0_parted 35 = .ok (.ireturn, 1) := by decide +kernel
theorem dX0_tells_0 : decode cX0_tells 0 = .ok (.aload_n 0, 1) := by decide +kernel
theorem dX0_tells_1 : decode cX0_tells 1 = .ok (.getfield 23, 3) := by decide +kernel
theorem dX0_tells_4 : decode cX0_tells 4 = .ok (.tableswitch 89 2 5 #[32, 32, 89, 64], 32) := by decide +kernel
theorem dX0_tells_36 : decode cX0_tells 36 = .ok (.aload_n 0, 1) := by decide +kernel
theorem dX0_tells_37 : decode cX0_tells 37 = .ok (.bipush 31, 2) := by decide +kernel
theorem dX0_tells_39 : decode cX0_tells 39 = .ok (.invokevirtual 50, 3) := by decide +kernel
theorem dX0_tells_42 : decode cX0_tells 42 = .ok (.aload_n 0, 1) := by decide +kernel
theorem dX0_tells_43 : decode cX0_tells 43 = .ok (.bipush 13, 2) := by decide +kernel
theorem dX0_tells_45 : decode cX0_tells 45 = .ok (.invokevirtual 50, 3) := by decide +kernel
theorem dX0_tells_48 : decode cX0_tells 48 = .ok (.aload_n 0, 1) := by decide +kernel
theorem dX0_tells_49 : decode cX0_tells 49 = .ok (.iload_n 1, 1) := by decide +kernel
theorem dX0_tells_50 : decode cX0_tells 50 = .ok (.invokevirtual 41, 3) := by decide +kernel
theorem dX0_tells_53 : decode cX0_tells 53 = .ok (.aload_n 0, 1) := by decide +kernel
theorem dX0_tells_54 : decode cX0_tells 54 = .ok (.getfield 29, 3) := by decide +kernel
theorem dX0_tells_57 : decode cX0_tells 57 = .ok (.ixor, 1) := by decide +kernel
theorem dX0_tells_58 : decode cX0_tells 58 = .ok (.aload_n 0, 1) := by decide +kernel
theorem dX0_tells_59 : decode cX0_tells 59 = .ok (.aload_n 0, 1) := by decide +kernel
theorem dX0_tells_60 : decode cX0_tells 60 = .ok (.getfield 26, 3) := by decide +kernel
theorem dX0_tells_63 : decode cX0_tells 63 = .ok (.invokevirtual 44, 3) := by decide +kernel
theorem dX0_tells_66 : decode cX0_tells 66 = .ok (.iadd, 1) := by decide +kernel
theorem dX0_tells_67 : decode cX0_tells 67 = .ok (.ireturn, 1) := by decide +kernel
theorem dX0_tells_68 : decode cX0_tells 68 = .ok (.aload_n 0, 1) := by decide +kernel
theorem dX0_tells_69 : decode cX0_tells 69 = .ok (.bipush 60, 2) := by decide +kernel
theorem dX0_tells_71 : decode cX0_tells 71 = .ok (.invokevirtual 50, 3) := by decide +kernel
theorem dX0_tells_74 : decode cX0_tells 74 = .ok (.aload_n 0, 1) := by decide +kernel
theorem dX0_tells_75 : decode cX0_tells 75 = .ok (.bipush 13, 2) := by decide +kernel
theorem dX0_tells_77 : decode cX0_tells 77 = .ok (.invokevirtual 50, 3) := by decide +kernel
theorem dX0_tells_80 : decode cX0_tells 80 = .ok (.aload_n 0, 1) := by decide +kernel
theorem dX0_tells_81 : decode cX0_tells 81 = .ok (.iload_n 1, 1) := by decide +kernel
theorem dX0_tells_82 : decode cX0_tells 82 = .ok (.invokevirtual 41, 3) := by decide +kernel
theorem dX0_tells_85 : decode cX0_tells 85 = .ok (.aload_n 0, 1) := by decide +kernel
theorem dX0_tells_86 : decode cX0_tells 86 = .ok (.getfield 29, 3) := by decide +kernel
theorem dX0_tells_89 : decode cX0_tells 89 = .ok (.ixor, 1) := by decide +kernel
theorem dX0_tells_90 : decode cX0_tells 90 = .ok (.iconst 2, 1) := by decide +kernel
theorem dX0_tells_91 : decode cX0_tells 91 = .ok (.imul, 1) := by decide +kernel
theorem dX0_tells_92 : decode cX0_tells 92 = .ok (.ireturn, 1) := by decide +kernel
theorem dX0_tells_93 : decode cX0_tells 93 = .ok (.aload_n 0, 1) := by decide +kernel
theorem dX0_tells_94 : decode cX0_tells 94 = .ok (.bipush 13, 2) := by decide +kernel
theorem dX0_tells_96 : decode cX0_tells 96 = .ok (.invokevirtual 50, 3) := by decide +kernel
theorem dX0_tells_99 : decode cX0_tells 99 = .ok (.aload_n 0, 1) := by decide +kernel
theorem dX0_tells_100 : decode cX0_tells 100 = .ok (.iload_n 1, 1) := by decide +kernel
theorem dX0_tells_101 : decode cX0_tells 101 = .ok (.invokevirtual 41, 3) := by decide +kernel
theorem dX0_tells_104 : decode cX0_tells 104 = .ok (.aload_n 0, 1) := by decide +kernel
theorem dX0_tells_105 : decode cX0_tells 105 = .ok (.getfield 29, 3) := by decide +kernel
theorem dX0_tells_108 : decode cX0_tells 108 = .ok (.ixor, 1) := by decide +kernel
theorem dX0_tells_109 : decode cX0_tells 109 = .ok (.ireturn, 1) := by decide +kernel
theorem dX1_init_0 : decode cX1_init 0 = .ok (.aload_n 0, 1) := by decide +kernel
theorem dX1_init_1 : decode cX1_init 1 = .ok (.invokespecial 3, 3) := by decide +kernel
theorem dX1_init_4 : decode cX1_init 4 = .ok (.aload_n 0, 1) := by decide +kernel
theorem dX1_init_5 : decode cX1_init 5 = .ok (.bipush 9, 2) := by decide +kernel
theorem dX1_init_7 : decode cX1_init 7 = .ok (.newarray .int, 2) := by decide +kernel
theorem dX1_init_9 : decode cX1_init 9 = .ok (.putfield 9, 3) := by decide +kernel
theorem dX1_init_12 : decode cX1_init 12 = .ok (.return_, 1) := by decide +kernel
theorem dX1_begin_0 : decode cX1_begin 0 = .ok (.getstatic 15, 3) := by decide +kernel
theorem dX1_begin_3 : decode cX1_begin 3 = .ok (.iconst 0, 1) := by decide +kernel
theorem dX1_begin_4 : decode cX1_begin 4 = .ok (.aload_n 0, 1) := by decide +kernel
theorem dX1_begin_5 : decode cX1_begin 5 = .ok (.getfield 9, 3) := by decide +kernel
theorem dX1_begin_8 : decode cX1_begin 8 = .ok (.iconst 0, 1) := by decide +kernel
theorem dX1_begin_9 : decode cX1_begin 9 = .ok (.bipush 9, 2) := by decide +kernel
theorem dX1_begin_11 : decode cX1_begin 11 = .ok (.invokestatic 18, 3) := by decide +kernel
theorem dX1_begin_14 : decode cX1_begin 14 = .ok (.aload_n 0, 1) := by decide +kernel
theorem dX1_begin_15 : decode cX1_begin 15 = .ok (.getfield 9, 3) := by decide +kernel
theorem dX1_begin_18 : decode cX1_begin 18 = .ok (.iconst 0, 1) := by decide +kernel
theorem dX1_begin_19 : decode cX1_begin 19 = .ok (.iload_n 1, 1) := by decide +kernel
theorem dX1_begin_20 : decode cX1_begin 20 = .ok (.iastore, 1) := by decide +kernel
theorem dX1_begin_21 : decode cX1_begin 21 = .ok (.aload_n 0, 1) := by decide +kernel
theorem dX1_begin_22 : decode cX1_begin 22 = .ok (.getfield 9, 3) := by decide +kernel
theorem dX1_begin_25 : decode cX1_begin 25 = .ok (.iconst 1, 1) := by decide +kernel
theorem dX1_begin_26 : decode cX1_begin 26 = .ok (.iload_n 2, 1) := by decide +kernel
theorem dX1_begin_27 : decode cX1_begin 27 = .ok (.iastore, 1) := by decide +kernel
theorem dX1_begin_28 : decode cX1_begin 28 = .ok (.aload_n 0, 1) := by decide +kernel
theorem dX1_begin_29 : decode cX1_begin 29 = .ok (.getfield 9, 3) := by decide +kernel
theorem dX1_begin_32 : decode cX1_begin 32 = .ok (.iconst 2, 1) := by decide +kernel
theorem dX1_begin_33 : decode cX1_begin 33 = .ok (.iload_n 3, 1) := by decide +kernel
theorem dX1_begin_34 : decode cX1_begin 34 = .ok (.iastore, 1) := by decide +kernel
theorem dX1_begin_35 : decode cX1_begin 35 = .ok (.return_, 1) := by decide +kernel
theorem dX1_copyFrom_0 : decode cX1_copyFrom 0 = .ok (.aload_n 1, 1) := by decide +kernel
theorem dX1_copyFrom_1 : decode cX1_copyFrom 1 = .ok (.getfield 9, 3) := by decide +kernel
theorem dX1_copyFrom_4 : decode cX1_copyFrom 4 = .ok (.iconst 0, 1) := by decide +kernel
theorem dX1_copyFrom_5 : decode cX1_copyFrom 5 = .ok (.aload_n 0, 1) := by decide +kernel
theorem dX1_copyFrom_6 : decode cX1_copyFrom 6 = .ok (.getfield 9, 3) := by decide +kernel
theorem dX1_copyFrom_9 : decode cX1_copyFrom 9 = .ok (.iconst 0, 1) := by decide +kernel
theorem dX1_copyFrom_10 : decode cX1_copyFrom 10 = .ok (.bipush 9, 2) := by decide +kernel
theorem dX1_copyFrom_12 : decode cX1_copyFrom 12 = .ok (.invokestatic 18, 3) := by decide +kernel
theorem dX1_copyFrom_15 : decode cX1_copyFrom 15 = .ok (.return_, 1) := by decide +kernel
theorem dX1_lift_0 : decode cX1_lift 0 = .ok (.aload_n 0, 1) := by decide +kernel
theorem dX1_lift_1 : decode cX1_lift 1 = .ok (.getfield 9, 3) := by decide +kernel
theorem dX1_lift_4 : decode cX1_lift 4 = .ok (.iconst 5, 1) := by decide +kernel
theorem dX1_lift_5 : decode cX1_lift 5 = .ok (.iaload, 1) := by decide +kernel
theorem dX1_lift_6 : decode cX1_lift 6 = .ok (.istore_n 2, 1) := by decide +kernel
theorem dX1_lift_7 : decode cX1_lift 7 = .ok (.aload_n 0, 1) := by decide +kernel
theorem dX1_lift_8 : decode cX1_lift 8 = .ok (.getfield 9, 3) := by decide +kernel
theorem dX1_lift_11 : decode cX1_lift 11 = .ok (.iconst 0, 1) := by decide +kernel
theorem dX1_lift_12 : decode cX1_lift 12 = .ok (.iaload, 1) := by decide +kernel
theorem dX1_lift_13 : decode cX1_lift 13 = .ok (.lookupswitch 51 #[(1, 27), (4, 38)], 27) := by decide +kernel
theorem dX1_lift_40 : decode cX1_lift 40 = .ok (.iload_n 2, 1) := by decide +kernel
theorem dX1_lift_41 : decode cX1_lift 41 = .ok (.iload_n 2, 1) := by decide +kernel
theorem dX1_lift_42 : decode cX1_lift 42 = .ok (.iconst 2, 1) := by decide +kernel
theorem dX1_lift_43 : decode cX1_lift 43 = .ok (.imul, 1) := by decide +kernel
theorem dX1_lift_44 : decode cX1_lift 44 = .ok (.iload_n 1, 1) := by decide +kernel
theorem dX1_lift_45 : decode cX1_lift 45 = .ok (.imul, 1) := by decide +kernel
theorem dX1_lift_46 : decode cX1_lift 46 = .ok (.bipush 100, 2) := by decide +kernel
theorem dX1_lift_48 : decode cX1_lift 48 = .ok (.idiv, 1) := by decide +kernel
theorem dX1_lift_49 : decode cX1_lift 49 = .ok (.iadd, 1) := by decide +kernel
theorem dX1_lift_50 : decode cX1_lift 50 = .ok (.ireturn, 1) := by decide +kernel
theorem dX1_lift_51 : decode cX1_lift 51 = .ok (.iload_n 2, 1) := by decide +kernel
theorem dX1_lift_52 : decode cX1_lift 52 = .ok (.iload_n 2, 1) := by decide +kernel
theorem dX1_lift_53 : decode cX1_lift 53 = .ok (.iconst 2, 1) := by decide +kernel
theorem dX1_lift_54 : decode cX1_lift 54 = .ok (.imul, 1) := by decide +kernel
theorem dX1_lift_55 : decode cX1_lift 55 = .ok (.iload_n 1, 1) := by decide +kernel
theorem dX1_lift_56 : decode cX1_lift 56 = .ok (.imul, 1) := by decide +kernel
theorem dX1_lift_57 : decode cX1_lift 57 = .ok (.bipush 100, 2) := by decide +kernel
theorem dX1_lift_59 : decode cX1_lift 59 = .ok (.idiv, 1) := by decide +kernel
theorem dX1_lift_60 : decode cX1_lift 60 = .ok (.iadd, 1) := by decide +kernel
theorem dX1_lift_61 : decode cX1_lift 61 = .ok (.iconst 5, 1) := by decide +kernel
theorem dX1_lift_62 : decode cX1_lift 62 = .ok (.iadd, 1) := by decide +kernel
theorem dX1_lift_63 : decode cX1_lift 63 = .ok (.ireturn, 1) := by decide +kernel
theorem dX1_lift_64 : decode cX1_lift 64 = .ok (.iload_n 2, 1) := by decide +kernel
theorem dX1_lift_65 : decode cX1_lift 65 = .ok (.iload_n 2, 1) := by decide +kernel
theorem dX1_lift_66 : decode cX1_lift 66 = .ok (.iload_n 1, 1) := by decide +kernel
theorem dX1_lift_67 : decode cX1_lift 67 = .ok (.imul, 1) := by decide +kernel
theorem dX1_lift_68 : decode cX1_lift 68 = .ok (.bipush 100, 2) := by decide +kernel
theorem dX1_lift_70 : decode cX1_lift 70 = .ok (.idiv, 1) := by decide +kernel
theorem dX1_lift_71 : decode cX1_lift 71 = .ok (.iadd, 1) := by decide +kernel
theorem dX1_lift_72 : decode cX1_lift 72 = .ok (.ireturn, 1) := by decide +kernel
theorem dX1_weight_0 : decode cX1_weight 0 = .ok (.aload_n 0, 1) := by decide +kernel
theorem dX1_weight_1 : decode cX1_weight 1 = .ok (.getfield 9, 3) := by decide +kernel
theorem dX1_weight_4 : decode cX1_weight 4 = .ok (.bipush 6, 2) := by decide +kernel
theorem dX1_weight_6 : decode cX1_weight 6 = .ok (.iaload, 1) := by decide +kernel
theorem dX1_weight_7 : decode cX1_weight 7 = .ok (.aload_n 0, 1) := by decide +kernel
theorem dX1_weight_8 : decode cX1_weight 8 = .ok (.getfield 9, 3) := by decide +kernel
theorem dX1_weight_11 : decode cX1_weight 11 = .ok (.bipush 7, 2) := by decide +kernel
theorem dX1_weight_13 : decode cX1_weight 13 = .ok (.iaload, 1) := by decide +kernel
theorem dX1_weight_14 : decode cX1_weight 14 = .ok (.iadd, 1) := by decide +kernel
theorem dX1_weight_15 : decode cX1_weight 15 = .ok (.aload_n 0, 1) := by decide +kernel
theorem dX1_weight_16 : decode cX1_weight 16 = .ok (.getfield 9, 3) := by decide +kernel
theorem dX1_weight_19 : decode cX1_weight 19 = .ok (.bipush 8, 2) := by decide +kernel
theorem dX1_weight_21 : decode cX1_weight 21 = .ok (.iaload, 1) := by decide +kernel
theorem dX1_weight_22 : decode cX1_weight 22 = .ok (.iadd, 1) := by decide +kernel
theorem dX1_weight_23 : decode cX1_weight 23 = .ok (.aload_n 0, 1) := by decide +kernel
theorem dX1_weight_24 : decode cX1_weight 24 = .ok (.getfield 9, 3) := by decide +kernel
theorem dX1_weight_27 : decode cX1_weight 27 = .ok (.iconst 1, 1) := by decide +kernel
theorem dX1_weight_28 : decode cX1_weight 28 = .ok (.iaload, 1) := by decide +kernel
theorem dX1_weight_29 : decode cX1_weight 29 = .ok (.iadd, 1) := by decide +kernel
theorem dX1_weight_30 : decode cX1_weight 30 = .ok (.ireturn, 1) := by decide +kernel
theorem dX1_target_0 : decode cX1_target 0 = .ok (.aload_n 0, 1) := by decide +kernel
theorem dX1_target_1 : decode cX1_target 1 = .ok (.iload_n 1, 1) := by decide +kernel
theorem dX1_target_2 : decode cX1_target 2 = .ok (.invokevirtual 24, 3) := by decide +kernel
theorem dX1_target_5 : decode cX1_target 5 = .ok (.aload_n 0, 1) := by decide +kernel
theorem dX1_target_6 : decode cX1_target 6 = .ok (.invokevirtual 28, 3) := by decide +kernel
theorem dX1_target_9 : decode cX1_target 9 = .ok (.isub, 1) := by decide +kernel
theorem dX1_target_10 : decode cX1_target 10 = .ok (.istore_n 2, 1) := by decide +kernel
theorem dX1_target_11 : decode cX1_target 11 = .ok (.aload_n 0, 1) := by decide +kernel
theorem dX1_target_12 : decode cX1_target 12 = .ok (.getfield 9, 3) := by decide +kernel
theorem dX1_target_15 : decode cX1_target 15 = .ok (.iconst 0, 1) := by decide +kernel
theorem dX1_target_16 : decode cX1_target 16 = .ok (.iaload, 1) := by decide +kernel
theorem dX1_target_17 : decode cX1_target 17 = .ok (.iconst 5, 1) := by decide +kernel
theorem dX1_target_18 : decode cX1_target 18 = .ok (.if_icmp .ne 9, 3) := by decide +kernel
theorem dX1_target_21 : decode cX1_target 21 = .ok (.iload_n 2, 1) := by decide +kernel
theorem dX1_target_22 : decode cX1_target 22 = .ok (.iconst 2, 1) := by decide +kernel
theorem dX1_target_23 : decode cX1_target 23 = .ok (.idiv, 1) := by decide +kernel
theorem dX1_target_24 : decode cX1_target 24 = .ok (.goto 4, 3) := by decide +kernel
theorem dX1_target_27 : decode cX1_target 27 = .ok (.iload_n 2, 1) := by decide +kernel
theorem dX1_target_28 : decode cX1_target 28 = .ok (.iconst 0, 1) := by decide +kernel
theorem dX1_target_29 : decode cX1_target 29 = .ok (.aload_n 0, 1) := by decide +kernel
theorem dX1_target_30 : decode cX1_target 30 = .ok (.getfield 9, 3) := by decide +kernel
theorem dX1_target_33 : decode cX1_target 33 = .ok (.iconst 4, 1) := by decide +kernel
theorem dX1_target_34 : decode cX1_target 34 = .ok (.iaload, 1) := by decide +kernel
theorem dX1_target_35 : decode cX1_target 35 = .ok (.invokestatic 32, 3) := by decide +kernel
theorem dX1_target_38 : decode cX1_target 38 = .ok (.ireturn, 1) := by decide +kernel
theorem dX1_leaks_0 : decode cX1_leaks 0 = .ok (.aload_n 0, 1) := by decide +kernel
theorem dX1_leaks_1 : decode cX1_leaks 1 = .ok (.getfield 9, 3) := by decide +kernel
theorem dX1_leaks_4 : decode cX1_leaks 4 = .ok (.iconst 0, 1) := by decide +kernel
theorem dX1_leaks_5 : decode cX1_leaks 5 = .ok (.iaload, 1) := by decide +kernel
theorem dX1_leaks_6 : decode cX1_leaks 6 = .ok (.lookupswitch 40 #[(2, 26), (3, 28)], 26) := by decide +kernel
theorem dX1_leaks_32 : decode cX1_leaks 32 = .ok (.iconst 2, 1) := by decide +kernel
theorem dX1_leaks_33 : decode cX1_leaks 33 = .ok (.ireturn, 1) := by decide +kernel
theorem dX1_leaks_34 : decode cX1_leaks 34 = .ok (.iload_n 1, 1) := by decide +kernel
theorem dX1_leaks_35 : decode cX1_leaks 35 = .ok (.iconst 2, 1) := by decide +kernel
theorem dX1_leaks_36 : decode cX1_leaks 36 = .ok (.irem, 1) := by decide +kernel
theorem dX1_leaks_37 : decode cX1_leaks 37 = .ok (.ifCond .ne 7, 3) := by decide +kernel
theorem dX1_leaks_40 : decode cX1_leaks 40 = .ok (.iconst 1, 1) := by decide +kernel
theorem dX1_leaks_41 : decode cX1_leaks 41 = .ok (.goto 4, 3) := by decide +kernel
theorem dX1_leaks_44 : decode cX1_leaks 44 = .ok (.iconst 0, 1) := by decide +kernel
theorem dX1_leaks_45 : decode cX1_leaks 45 = .ok (.ireturn, 1) := by decide +kernel
theorem dX1_leaks_46 : decode cX1_leaks 46 = .ok (.iconst 0, 1) := by decide +kernel
theorem dX1_leaks_47 : decode cX1_leaks 47 = .ok (.ireturn, 1) := by decide +kernel
theorem dX1_passHour_0 : decode cX1_passHour 0 = .ok (.aload_n 0, 1) := by decide +kernel
theorem dX1_passHour_1 : decode cX1_passHour 1 = .ok (.getfield 9, 3) := by decide +kernel
theorem dX1_passHour_4 : decode cX1_passHour 4 = .ok (.iconst 3, 1) := by decide +kernel
theorem dX1_passHour_5 : decode cX1_passHour 5 = .ok (.dup2, 1) := by decide +kernel
theorem dX1_passHour_6 : decode cX1_passHour 6 = .ok (.iaload, 1) := by decide +kernel
theorem dX1_passHour_7 : decode cX1_passHour 7 = .ok (.aload_n 0, 1) := by decide +kernel
theorem dX1_passHour_8 : decode cX1_passHour 8 = .ok (.iload_n 1, 1) := by decide +kernel
theorem dX1_passHour_9 : decode cX1_passHour 9 = .ok (.invokevirtual 36, 3) := by decide +kernel
theorem dX1_passHour_12 : decode cX1_passHour 12 = .ok (.aload_n 0, 1) := by decide +kernel
theorem dX1_passHour_13 : decode cX1_passHour 13 = .ok (.getfield 9, 3) := by decide +kernel
theorem dX1_passHour_16 : decode cX1_passHour 16 = .ok (.iconst 3, 1) := by decide +kernel
theorem dX1_passHour_17 : decode cX1_passHour 17 = .ok (.iaload, 1) := by decide +kernel
theorem dX1_passHour_18 : decode cX1_passHour 18 = .ok (.isub, 1) := by decide +kernel
theorem dX1_passHour_19 : decode cX1_passHour 19 = .ok (.bipush (-10), 2) := by decide +kernel
theorem dX1_passHour_21 : decode cX1_passHour 21 = .ok (.bipush 10, 2) := by decide +kernel
theorem dX1_passHour_23 : decode cX1_passHour 23 = .ok (.invokestatic 32, 3) := by decide +kernel
theorem dX1_passHour_26 : decode cX1_passHour 26 = .ok (.iadd, 1) := by decide +kernel
theorem dX1_passHour_27 : decode cX1_passHour 27 = .ok (.iastore, 1) := by decide +kernel
theorem dX1_passHour_28 : decode cX1_passHour 28 = .ok (.aload_n 0, 1) := by decide +kernel
theorem dX1_passHour_29 : decode cX1_passHour 29 = .ok (.getfield 9, 3) := by decide +kernel
theorem dX1_passHour_32 : decode cX1_passHour 32 = .ok (.iconst 5, 1) := by decide +kernel
theorem dX1_passHour_33 : decode cX1_passHour 33 = .ok (.iconst 0, 1) := by decide +kernel
theorem dX1_passHour_34 : decode cX1_passHour 34 = .ok (.aload_n 0, 1) := by decide +kernel
theorem dX1_passHour_35 : decode cX1_passHour 35 = .ok (.getfield 9, 3) := by decide +kernel
theorem dX1_passHour_38 : decode cX1_passHour 38 = .ok (.iconst 5, 1) := by decide +kernel
theorem dX1_passHour_39 : decode cX1_passHour 39 = .ok (.iaload, 1) := by decide +kernel
theorem dX1_passHour_40 : decode cX1_passHour 40 = .ok (.aload_n 0, 1) := by decide +kernel
theorem dX1_passHour_41 : decode cX1_passHour 41 = .ok (.iload_n 2, 1) := by decide +kernel
theorem dX1_passHour_42 : decode cX1_passHour 42 = .ok (.invokevirtual 39, 3) := by decide +kernel
theorem dX1_passHour_45 : decode cX1_passHour 45 = .ok (.isub, 1) := by decide +kernel
theorem dX1_passHour_46 : decode cX1_passHour 46 = .ok (.invokestatic 42, 3) := by decide +kernel
theorem dX1_passHour_49 : decode cX1_passHour 49 = .ok (.iastore, 1) := by decide +kernel
theorem dX1_passHour_50 : decode cX1_passHour 50 = .ok (.aload_n 0, 1) := by decide +kernel
theorem dX1_passHour_51 : decode cX1_passHour 51 = .ok (.getfield 9, 3) := by decide +kernel
theorem dX1_passHour_54 : decode cX1_passHour 54 = .ok (.bipush 7, 2) := by decide +kernel
theorem dX1_passHour_56 : decode cX1_passHour 56 = .ok (.iconst 0, 1) := by decide +kernel
theorem dX1_passHour_57 : decode cX1_passHour 57 = .ok (.aload_n 0, 1) := by decide +kernel
theorem dX1_passHour_58 : decode cX1_passHour 58 = .ok (.getfield 9, 3) := by decide +kernel
theorem dX1_passHour_61 : decode cX1_passHour 61 = .ok (.bipush 7, 2) := by decide +kernel
theorem dX1_passHour_63 : decode cX1_passHour 63 = .ok (.iaload, 1) := by decide +kernel
theorem dX1_passHour_64 : decode cX1_passHour 64 = .ok (.aload_n 0, 1) := by decide +kernel
theorem dX1_passHour_65 : decode cX1_passHour 65 = .ok (.getfield 9, 3) := by decide +kernel
theorem dX1_passHour_68 : decode cX1_passHour 68 = .ok (.bipush 8, 2) := by decide +kernel
theorem dX1_passHour_70 : decode cX1_passHour 70 = .ok (.iaload, 1) := by decide +kernel
theorem dX1_passHour_71 : decode cX1_passHour 71 = .ok (.isub, 1) := by decide +kernel
theorem dX1_passHour_72 : decode cX1_passHour 72 = .ok (.invokestatic 42, 3) := by decide +kernel
theorem dX1_passHour_75 : decode cX1_passHour 75 = .ok (.iastore, 1) := by decide +kernel
theorem dX1_passHour_76 : decode cX1_passHour 76 = .ok (.return_, 1) := by decide +kernel
theorem dX2_init_0 : decode cX2_init 0 = .ok (.aload_n 0, 1) := by decide +kernel
theorem dX2_init_1 : decode cX2_init 1 = .ok (.invokespecial 3, 3) := by decide +kernel
theorem dX2_init_4 : decode cX2_init 4 = .ok (.aload_n 0, 1) := by decide +kernel
theorem dX2_init_5 : decode cX2_init 5 = .ok (.bipush 40, 2) := by decide +kernel
theorem dX2_init_7 : decode cX2_init 7 = .ok (.newarray .int, 2) := by decide +kernel
theorem dX2_init_9 : decode cX2_init 9 = .ok (.putfield 9, 3) := by decide +kernel
theorem dX2_init_12 : decode cX2_init 12 = .ok (.aload_n 0, 1) := by decide +kernel
theorem dX2_init_13 : decode cX2_init 13 = .ok (.iconst (-1), 1) := by decide +kernel
theorem dX2_init_14 : decode cX2_init 14 = .ok (.putfield 15, 3) := by decide +kernel
theorem dX2_init_17 : decode cX2_init 17 = .ok (.aload_n 0, 1) := by decide +kernel
theorem dX2_init_18 : decode cX2_init 18 = .ok (.iconst 0, 1) := by decide +kernel
theorem dX2_init_19 : decode cX2_init 19 = .ok (.putfield 19, 3) := by decide +kernel
theorem dX2_init_22 : decode cX2_init 22 = .ok (.return_, 1) := by decide +kernel
theorem dX2_becomeRow_0 : decode cX2_becomeRow 0 = .ok (.aload_n 0, 1) := by decide +kernel
theorem dX2_becomeRow_1 : decode cX2_becomeRow 1 = .ok (.iload_n 1, 1) := by decide +kernel
theorem dX2_becomeRow_2 : decode cX2_becomeRow 2 = .ok (.putfield 15, 3) := by decide +kernel
theorem dX2_becomeRow_5 : decode cX2_becomeRow 5 = .ok (.aload_n 0, 1) := by decide +kernel
theorem dX2_becomeRow_6 : decode cX2_becomeRow 6 = .ok (.iload_n 2, 1) := by decide +kernel
theorem dX2_becomeRow_7 : decode cX2_becomeRow 7 = .ok (.putfield 19, 3) := by decide +kernel
theorem dX2_becomeRow_10 : decode cX2_becomeRow 10 = .ok (.iconst 0, 1) := by decide +kernel
theorem dX2_becomeRow_11 : decode cX2_becomeRow 11 = .ok (.istore_n 3, 1) := by decide +kernel
theorem dX2_becomeRow_12 : decode cX2_becomeRow 12 = .ok (.iload_n 3, 1) := by decide +kernel
theorem dX2_becomeRow_13 : decode cX2_becomeRow 13 = .ok (.iload_n 2, 1) := by decide +kernel
theorem dX2_becomeRow_14 : decode cX2_becomeRow 14 = .ok (.if_icmp .ge 16, 3) := by decide +kernel
theorem dX2_becomeRow_17 : decode cX2_becomeRow 17 = .ok (.aload_n 0, 1) := by decide +kernel
theorem dX2_becomeRow_18 : decode cX2_becomeRow 18 = .ok (.getfield 9, 3) := by decide +kernel
theorem dX2_becomeRow_21 : decode cX2_becomeRow 21 = .ok (.iload_n 3, 1) := by decide +kernel
theorem dX2_becomeRow_22 : decode cX2_becomeRow 22 = .ok (.iconst 0, 1) := by decide +kernel
theorem dX2_becomeRow_23 : decode cX2_becomeRow 23 = .ok (.iastore, 1) := by decide +kernel
theorem dX2_becomeRow_24 : decode cX2_becomeRow 24 = .ok (.iinc 3 1, 3) := by decide +kernel
theorem dX2_becomeRow_27 : decode cX2_becomeRow 27 = .ok (.goto (-15), 3) := by decide +kernel
theorem dX2_becomeRow_30 : decode cX2_becomeRow 30 = .ok (.return_, 1) := by decide +kernel
theorem dX2_narrowed_0 : decode cX2_narrowed 0 = .ok (.aload_n 0, 1) := by decide +kernel
theorem dX2_narrowed_1 : decode cX2_narrowed 1 = .ok (.getfield 15, 3) := by decide +kernel
theorem dX2_narrowed_4 : decode cX2_narrowed 4 = .ok (.lookupswitch 34 #[(0, 28), (1, 31)], 28) := by decide +kernel
theorem dX2_narrowed_32 : decode cX2_narrowed 32 = .ok (.iload_n 1, 1) := by decide +kernel
theorem dX2_narrowed_33 : decode cX2_narrowed 33 = .ok (.i2b, 1) := by decide +kernel
theorem dX2_narrowed_34 : decode cX2_narrowed 34 = .ok (.ireturn, 1) := by decide +kernel
theorem dX2_narrowed_35 : decode cX2_narrowed 35 = .ok (.iload_n 1, 1) := by decide +kernel
theorem dX2_narrowed_36 : decode cX2_narrowed 36 = .ok (.i2s, 1) := by decide +kernel
theorem dX2_narrowed_37 : decode cX2_narrowed 37 = .ok (.ireturn, 1) := by decide +kernel
theorem dX2_narrowed_38 : decode cX2_narrowed 38 = .ok (.iload_n 1, 1) := by decide +kernel
theorem dX2_narrowed_39 : decode cX2_narrowed 39 = .ok (.ireturn, 1) := by decide +kernel
theorem dX3_init_0 : decode cX3_init 0 = .ok (.aload_n 0, 1) := by decide +kernel
theorem dX3_init_1 : decode cX3_init 1 = .ok (.invokespecial 3, 3) := by decide +kernel
theorem dX3_init_4 : decode cX3_init 4 = .ok (.aload_n 0, 1) := by decide +kernel
theorem dX3_init_5 : decode cX3_init 5 = .ok (.iconst 2, 1) := by decide +kernel
theorem dX3_init_6 : decode cX3_init 6 = .ok (.putfield 9, 3) := by decide +kernel
theorem dX3_init_9 : decode cX3_init 9 = .ok (.aload_n 0, 1) := by decide +kernel
theorem dX3_init_10 : decode cX3_init 10 = .ok (.iconst 0, 1) := by decide +kernel
theorem dX3_init_11 : decode cX3_init 11 = .ok (.putfield 15, 3) := by decide +kernel
theorem dX3_init_14 : decode cX3_init 14 = .ok (.aload_n 0, 1) := by decide +kernel
theorem dX3_init_15 : decode cX3_init 15 = .ok (.iconst (-1), 1) := by decide +kernel
theorem dX3_init_16 : decode cX3_init 16 = .ok (.putfield 18, 3) := by decide +kernel
theorem dX3_init_19 : decode cX3_init 19 = .ok (.aload_n 0, 1) := by decide +kernel
theorem dX3_init_20 : decode cX3_init 20 = .ok (.iconst 0, 1) := by decide +kernel
theorem dX3_init_21 : decode cX3_init 21 = .ok (.putfield 21, 3) := by decide +kernel
theorem dX3_init_24 : decode cX3_init 24 = .ok (.return_, 1) := by decide +kernel
theorem dX3_holdBalloon_0 : decode cX3_holdBalloon 0 = .ok (.aload_n 0, 1) := by decide +kernel
theorem dX3_holdBalloon_1 : decode cX3_holdBalloon 1 = .ok (.iconst 0, 1) := by decide +kernel
theorem dX3_holdBalloon_2 : decode cX3_holdBalloon 2 = .ok (.putfield 9, 3) := by decide +kernel
theorem dX3_holdBalloon_5 : decode cX3_holdBalloon 5 = .ok (.aload_n 0, 1) := by decide +kernel
theorem dX3_holdBalloon_6 : decode cX3_holdBalloon 6 = .ok (.iload_n 1, 1) := by decide +kernel
theorem dX3_holdBalloon_7 : decode cX3_holdBalloon 7 = .ok (.putfield 15, 3) := by decide +kernel
theorem dX3_holdBalloon_10 : decode cX3_holdBalloon 10 = .ok (.return_, 1) := by decide +kernel
theorem dX3_holdRow_0 : decode cX3_holdRow 0 = .ok (.aload_n 0, 1) := by decide +kernel
theorem dX3_holdRow_1 : decode cX3_holdRow 1 = .ok (.aload_n 1, 1) := by decide +kernel
theorem dX3_holdRow_2 : decode cX3_holdRow 2 = .ok (.getfield 24, 3) := by decide +kernel
theorem dX3_holdRow_5 : decode cX3_holdRow 5 = .ok (.iconst (-1), 1) := by decide +kernel
theorem dX3_holdRow_6 : decode cX3_holdRow 6 = .ok (.if_icmp .ne 7, 3) := by decide +kernel
theorem dX3_holdRow_9 : decode cX3_holdRow 9 = .ok (.iconst 2, 1) := by decide +kernel
theorem dX3_holdRow_10 : decode cX3_holdRow 10 = .ok (.goto 4, 3) := by decide +kernel
theorem dX3_holdRow_13 : decode cX3_holdRow 13 = .ok (.iconst 1, 1) := by decide +kernel
theorem dX3_holdRow_14 : decode cX3_holdRow 14 = .ok (.putfield 9, 3) := by decide +kernel
theorem dX3_holdRow_17 : decode cX3_holdRow 17 = .ok (.aload_n 0, 1) := by decide +kernel
theorem dX3_holdRow_18 : decode cX3_holdRow 18 = .ok (.aload_n 1, 1) := by decide +kernel
theorem dX3_holdRow_19 : decode cX3_holdRow 19 = .ok (.getfield 24, 3) := by decide +kernel
theorem dX3_holdRow_22 : decode cX3_holdRow 22 = .ok (.putfield 18, 3) := by decide +kernel
theorem dX3_holdRow_25 : decode cX3_holdRow 25 = .ok (.aload_n 0, 1) := by decide +kernel
theorem dX3_holdRow_26 : decode cX3_holdRow 26 = .ok (.aload_n 1, 1) := by decide +kernel
theorem dX3_holdRow_27 : decode cX3_holdRow 27 = .ok (.getfield 27, 3) := by decide +kernel
theorem dX3_holdRow_30 : decode cX3_holdRow 30 = .ok (.putfield 21, 3) := by decide +kernel
theorem dX3_holdRow_33 : decode cX3_holdRow 33 = .ok (.return_, 1) := by decide +kernel
theorem dX4_init_0 : decode cX4_init 0 = .ok (.aload_n 0, 1) := by decide +kernel
theorem dX4_init_1 : decode cX4_init 1 = .ok (.invokespecial 3, 3) := by decide +kernel
theorem dX4_init_4 : decode cX4_init 4 = .ok (.aload_n 0, 1) := by decide +kernel
theorem dX4_init_5 : decode cX4_init 5 = .ok (.sipush 240, 3) := by decide +kernel
theorem dX4_init_8 : decode cX4_init 8 = .ok (.newarray .byte, 2) := by decide +kernel
theorem dX4_init_10 : decode cX4_init 10 = .ok (.putfield 9, 3) := by decide +kernel
theorem dX4_init_13 : decode cX4_init 13 = .ok (.aload_n 0, 1) := by decide +kernel
theorem dX4_init_14 : decode cX4_init 14 = .ok (.iconst 0, 1) := by decide +kernel
theorem dX4_init_15 : decode cX4_init 15 = .ok (.putfield 15, 3) := by decide +kernel
theorem dX4_init_18 : decode cX4_init 18 = .ok (.aload_n 0, 1) := by decide +kernel
theorem dX4_init_19 : decode cX4_init 19 = .ok (.iconst 0, 1) := by decide +kernel
theorem dX4_init_20 : decode cX4_init 20 = .ok (.putfield 19, 3) := by decide +kernel
theorem dX4_init_23 : decode cX4_init 23 = .ok (.aload_n 0, 1) := by decide +kernel
theorem dX4_init_24 : decode cX4_init 24 = .ok (.iconst 0, 1) := by decide +kernel
theorem dX4_init_25 : decode cX4_init 25 = .ok (.putfield 22, 3) := by decide +kernel
theorem dX4_init_28 : decode cX4_init 28 = .ok (.aload_n 0, 1) := by decide +kernel
theorem dX4_init_29 : decode cX4_init 29 = .ok (.iconst 0, 1) := by decide +kernel
theorem dX4_init_30 : decode cX4_init 30 = .ok (.putfield 25, 3) := by decide +kernel
theorem dX4_init_33 : decode cX4_init 33 = .ok (.aload_n 0, 1) := by decide +kernel
theorem dX4_init_34 : decode cX4_init 34 = .ok (.bipush (-3), 2) := by decide +kernel
theorem dX4_init_36 : decode cX4_init 36 = .ok (.putfield 28, 3) := by decide +kernel
theorem dX4_init_39 : decode cX4_init 39 = .ok (.return_, 1) := by decide +kernel
theorem dX4_take_0 : decode cX4_take 0 = .ok (.iconst 0, 1) := by decide +kernel
theorem dX4_take_1 : decode cX4_take 1 = .ok (.istore 4, 2) := by decide +kernel
theorem dX4_take_3 : decode cX4_take 3 = .ok (.iload 4, 2) := by decide +kernel
theorem dX4_take_5 : decode cX4_take 5 = .ok (.iload_n 3, 1) := by decide +kernel
theorem dX4_take_6 : decode cX4_take 6 = .ok (.if_icmp .ge 37, 3) := by decide +kernel
theorem dX4_take_9 : decode cX4_take 9 = .ok (.aload_n 0, 1) := by decide +kernel
theorem dX4_take_10 : decode cX4_take 10 = .ok (.getfield 9, 3) := by decide +kernel
theorem dX4_take_13 : decode cX4_take 13 = .ok (.aload_n 0, 1) := by decide +kernel
theorem dX4_take_14 : decode cX4_take 14 = .ok (.getfield 15, 3) := by decide +kernel
theorem dX4_take_17 : decode cX4_take 17 = .ok (.lload_n 1, 1) := by decide +kernel
theorem dX4_take_18 : decode cX4_take 18 = .ok (.bipush 8, 2) := by decide +kernel
theorem dX4_take_20 : decode cX4_take 20 = .ok (.iload 4, 2) := by decide +kernel
theorem dX4_take_22 : decode cX4_take 22 = .ok (.imul, 1) := by decide +kernel
theorem dX4_take_23 : decode cX4_take 23 = .ok (.lshr, 1) := by decide +kernel
theorem dX4_take_24 : decode cX4_take 24 = .ok (.l2i, 1) := by decide +kernel
theorem dX4_take_25 : decode cX4_take 25 = .ok (.i2b, 1) := by decide +kernel
theorem dX4_take_26 : decode cX4_take 26 = .ok (.bastore, 1) := by decide +kernel
theorem dX4_take_27 : decode cX4_take 27 = .ok (.aload_n 0, 1) := by decide +kernel
theorem dX4_take_28 : decode cX4_take 28 = .ok (.dup, 1) := by decide +kernel
theorem dX4_take_29 : decode cX4_take 29 = .ok (.getfield 15, 3) := by decide +kernel
theorem dX4_take_32 : decode cX4_take 32 = .ok (.iconst 1, 1) := by decide +kernel
theorem dX4_take_33 : decode cX4_take 33 = .ok (.iadd, 1) := by decide +kernel
theorem dX4_take_34 : decode cX4_take 34 = .ok (.putfield 15, 3) := by decide +kernel
theorem dX4_take_37 : decode cX4_take 37 = .ok (.iinc 4 1, 3) := by decide +kernel
theorem dX4_take_40 : decode cX4_take 40 = .ok (.goto (-37), 3) := by decide +kernel
theorem dX4_take_43 : decode cX4_take 43 = .ok (.return_, 1) := by decide +kernel
theorem dX4_readInto_0 : decode cX4_readInto 0 = .ok (.aload_n 1, 1) := by decide +kernel
theorem dX4_readInto_1 : decode cX4_readInto 1 = .ok (.invokevirtual 31, 3) := by decide +kernel
theorem dX4_readInto_4 : decode cX4_readInto 4 = .ok (.aload_n 0, 1) := by decide +kernel
theorem dX4_readInto_5 : decode cX4_readInto 5 = .ok (.bipush (-3), 2) := by decide +kernel
theorem dX4_readInto_7 : decode cX4_readInto 7 = .ok (.putfield 28, 3) := by decide +kernel
theorem dX4_readInto_10 : decode cX4_readInto 10 = .ok (.aload_n 0, 1) := by decide +kernel
theorem dX4_readInto_11 : decode cX4_readInto 11 = .ok (.iconst 0, 1) := by decide +kernel
theorem dX4_readInto_12 : decode cX4_readInto 12 = .ok (.putfield 25, 3) := by decide +kernel
theorem dX4_readInto_15 : decode cX4_readInto 15 = .ok (.aload_n 0, 1) := by decide +kernel
theorem dX4_readInto_16 : decode cX4_readInto 16 = .ok (.invokevirtual 36, 3) := by decide +kernel
theorem dX4_readInto_19 : decode cX4_readInto 19 = .ok (.iconst 0, 1) := by decide +kernel
theorem dX4_readInto_20 : decode cX4_readInto 20 = .ok (.istore_n 2, 1) := by decide +kernel
theorem dX4_readInto_21 : decode cX4_readInto 21 = .ok (.iload_n 2, 1) := by decide +kernel
theorem dX4_readInto_22 : decode cX4_readInto 22 = .ok (.sipush 240, 3) := by decide +kernel
theorem dX4_readInto_25 : decode cX4_readInto 25 = .ok (.if_icmp .ge 122, 3) := by decide +kernel
theorem dX4_readInto_28 : decode cX4_readInto 28 = .ok (.aload_n 0, 1) := by decide +kernel
theorem dX4_readInto_29 : decode cX4_readInto 29 = .ok (.getfield 19, 3) := by decide +kernel
theorem dX4_readInto_32 : decode cX4_readInto 32 = .ok (.ifCond .eq 115, 3) := by decide +kernel
theorem dX4_readInto_35 : decode cX4_readInto 35 = .ok (.aload_n 0, 1) := by decide +kernel
theorem dX4_readInto_36 : decode cX4_readInto 36 = .ok (.getfield 28, 3) := by decide +kernel
theorem dX4_readInto_39 : decode cX4_readInto 39 = .ok (.bipush (-3), 2) := by decide +kernel
theorem dX4_readInto_41 : decode cX4_readInto 41 = .ok (.if_icmp .ne 106, 3) := by decide +kernel
theorem dX4_readInto_44 : decode cX4_readInto 44 = .ok (.aload_n 0, 1) := by decide +kernel
theorem dX4_readInto_45 : decode cX4_readInto 45 = .ok (.invokevirtual 39, 3) := by decide +kernel
theorem dX4_readInto_48 : decode cX4_readInto 48 = .ok (.istore_n 3, 1) := by decide +kernel
theorem dX4_readInto_49 : decode cX4_readInto 49 = .ok (.iload_n 3, 1) := by decide +kernel
theorem dX4_readInto_50 : decode cX4_readInto 50 = .ok (.bipush (-3), 2) := by decide +kernel
theorem dX4_readInto_52 : decode cX4_readInto 52 = .ok (.if_icmp .eq 12, 3) := by decide +kernel
theorem dX4_readInto_55 : decode cX4_readInto 55 = .ok (.aload_n 0, 1) := by decide +kernel
theorem dX4_readInto_56 : decode cX4_readInto 56 = .ok (.aload_n 1, 1) := by decide +kernel
theorem dX4_readInto_57 : decode cX4_readInto 57 = .ok (.iload_n 3, 1) := by decide +kernel
theorem dX4_readInto_58 : decode cX4_readInto 58 = .ok (.invokevirtual 43, 3) := by decide +kernel
theorem dX4_readInto_61 : decode cX4_readInto 61 = .ok (.goto 74, 3) := by decide +kernel
theorem dX4_readInto_64 : decode cX4_readInto 64 = .ok (.aload_n 0, 1) := by decide +kernel
theorem dX4_readInto_65 : decode cX4_readInto 65 = .ok (.ldc 47, 2) := by decide +kernel
theorem dX4_readInto_67 : decode cX4_readInto 67 = .ok (.invokevirtual 49, 3) := by decide +kernel
theorem dX4_readInto_70 : decode cX4_readInto 70 = .ok (.ifCond .eq 14, 3) := by decide +kernel
theorem dX4_readInto_73 : decode cX4_readInto 73 = .ok (.aload_n 0, 1) := by decide +kernel
theorem dX4_readInto_74 : decode cX4_readInto 74 = .ok (.aload_n 1, 1) := by decide +kernel
theorem dX4_readInto_75 : decode cX4_readInto 75 = .ok (.bipush 40, 2) := by decide +kernel
theorem dX4_readInto_77 : decode cX4_readInto 77 = .ok (.iconst 1, 1) := by decide +kernel
theorem dX4_readInto_78 : decode cX4_readInto 78 = .ok (.invokevirtual 53, 3) := by decide +kernel
theorem dX4_readInto_81 : decode cX4_readInto 81 = .ok (.goto 54, 3) := by decide +kernel
theorem dX4_readInto_84 : decode cX4_readInto 84 = .ok (.aload_n 0, 1) := by decide +kernel
theorem dX4_readInto_85 : decode cX4_readInto 85 = .ok (.ldc 57, 2) := by decide +kernel
theorem dX4_readInto_87 : decode cX4_readInto 87 = .ok (.invokevirtual 49, 3) := by decide +kernel
theorem dX4_readInto_90 : decode cX4_readInto 90 = .ok (.ifCond .eq 14, 3) := by decide +kernel
theorem dX4_readInto_93 : decode cX4_readInto 93 = .ok (.aload_n 0, 1) := by decide +kernel
theorem dX4_readInto_94 : decode cX4_readInto 94 = .ok (.aload_n 1, 1) := by decide +kernel
theorem dX4_readInto_95 : decode cX4_readInto 95 = .ok (.bipush 20, 2) := by decide +kernel
theorem dX4_readInto_97 : decode cX4_readInto 97 = .ok (.iconst (-1), 1) := by decide +kernel
theorem dX4_readInto_98 : decode cX4_readInto 98 = .ok (.invokevirtual 53, 3) := by decide +kernel
theorem dX4_readInto_101 : decode cX4_readInto 101 = .ok (.goto 34, 3) := by decide +kernel
theorem dX4_readInto_104 : decode cX4_readInto 104 = .ok (.aload_n 0, 1) := by decide +kernel
theorem dX4_readInto_105 : decode cX4_readInto 105 = .ok (.ldc 59, 2) := by decide +kernel
theorem dX4_readInto_107 : decode cX4_readInto 107 = .ok (.invokevirtual 49, 3) := by decide +kernel
theorem dX4_readInto_110 : decode cX4_readInto 110 = .ok (.ifCond .eq 21, 3) := by decide +kernel
theorem dX4_readInto_113 : decode cX4_readInto 113 = .ok (.aload_n 0, 1) := by decide +kernel
theorem dX4_readInto_114 : decode cX4_readInto 114 = .ok (.invokevirtual 36, 3) := by decide +kernel
theorem dX4_readInto_117 : decode cX4_readInto 117 = .ok (.aload_n 1, 1) := by decide +kernel
theorem dX4_readInto_118 : decode cX4_readInto 118 = .ok (.aload_n 0, 1) := by decide +kernel
theorem dX4_readInto_119 : decode cX4_readInto 119 = .ok (.iconst 1, 1) := by decide +kernel
theorem dX4_readInto_120 : decode cX4_readInto 120 = .ok (.bipush 20, 2) := by decide +kernel
theorem dX4_readInto_122 : decode cX4_readInto 122 = .ok (.invokevirtual 61, 3) := by decide +kernel
theorem dX4_readInto_125 : decode cX4_readInto 125 = .ok (.putfield 65, 3) := by decide +kernel
theorem dX4_readInto_128 : decode cX4_readInto 128 = .ok (.goto 7, 3) := by decide +kernel
theorem dX4_readInto_131 : decode cX4_readInto 131 = .ok (.aload_n 0, 1) := by decide +kernel
theorem dX4_readInto_132 : decode cX4_readInto 132 = .ok (.invokevirtual 67, 3) := by decide +kernel
theorem dX4_readInto_135 : decode cX4_readInto 135 = .ok (.aload_n 0, 1) := by decide +kernel
theorem dX4_readInto_136 : decode cX4_readInto 136 = .ok (.bipush 59, 2) := by decide +kernel
theorem dX4_readInto_138 : decode cX4_readInto 138 = .ok (.invokevirtual 70, 3) := by decide +kernel
theorem dX4_readInto_141 : decode cX4_readInto 141 = .ok (.iinc 2 1, 3) := by decide +kernel
theorem dX4_readInto_144 : decode cX4_readInto 144 = .ok (.goto (-123), 3) := by decide +kernel
theorem dX4_readInto_147 : decode cX4_readInto 147 = .ok (.aload_n 0, 1) := by decide +kernel
theorem dX4_readInto_148 : decode cX4_readInto 148 = .ok (.getfield 28, 3) := by decide +kernel
theorem dX4_readInto_151 : decode cX4_readInto 151 = .ok (.ireturn, 1) := by decide +kernel
theorem dX4_readBalloon_0 : decode cX4_readBalloon 0 = .ok (.aload_n 1, 1) := by decide +kernel
theorem dX4_readBalloon_1 : decode cX4_readBalloon 1 = .ok (.getfield 74, 3) := by decide +kernel
theorem dX4_readBalloon_4 : decode cX4_readBalloon 4 = .ok (.bipush 6, 2) := by decide +kernel
theorem dX4_readBalloon_6 : decode cX4_readBalloon 6 = .ok (.if_icmp .lt 8, 3) := by decide +kernel
theorem dX4_readBalloon_9 : decode cX4_readBalloon 9 = .ok (.aload_n 0, 1) := by decide +kernel
theorem dX4_readBalloon_10 : decode cX4_readBalloon 10 = .ok (.invokevirtual 67, 3) := by decide +kernel
theorem dX4_readBalloon_13 : decode cX4_readBalloon 13 = .ok (.return_, 1) := by decide +kernel
theorem dX4_readBalloon_14 : decode cX4_readBalloon 14 = .ok (.aload_n 0, 1) := by decide +kernel
theorem dX4_readBalloon_15 : decode cX4_readBalloon 15 = .ok (.invokevirtual 36, 3) := by decide +kernel
theorem dX4_readBalloon_18 : decode cX4_readBalloon 18 = .ok (.aload_n 0, 1) := by decide +kernel
theorem dX4_readBalloon_19 : decode cX4_readBalloon 19 = .ok (.getstatic 77, 3) := by decide +kernel
theorem dX4_readBalloon_22 : decode cX4_readBalloon 22 = .ok (.iconst 1, 1) := by decide +kernel
theorem dX4_readBalloon_23 : decode cX4_readBalloon 23 = .ok (.iaload, 1) := by decide +kernel
theorem dX4_readBalloon_24 : decode cX4_readBalloon 24 = .ok (.getstatic 81, 3) := by decide +kernel
theorem dX4_readBalloon_27 : decode cX4_readBalloon 27 = .ok (.iconst 1, 1) := by decide +kernel
theorem dX4_readBalloon_28 : decode cX4_readBalloon 28 = .ok (.iaload, 1) := by decide +kernel
theorem dX4_readBalloon_29 : decode cX4_readBalloon 29 = .ok (.invokevirtual 61, 3) := by decide +kernel
theorem dX4_readBalloon_32 : decode cX4_readBalloon 32 = .ok (.istore_n 3, 1) := by decide +kernel
theorem dX4_readBalloon_33 : decode cX4_readBalloon 33 = .ok (.aload_n 0, 1) := by decide +kernel
theorem dX4_readBalloon_34 : decode cX4_readBalloon 34 = .ok (.ldc 84, 2) := by decide +kernel
theorem dX4_readBalloon_36 : decode cX4_readBalloon 36 = .ok (.invokevirtual 86, 3) := by decide +kernel
theorem dX4_readBalloon_39 : decode cX4_readBalloon 39 = .ok (.aload_n 1, 1) := by decide +kernel
theorem dX4_readBalloon_40 : decode cX4_readBalloon 40 = .ok (.iload_n 2, 1) := by decide +kernel
theorem dX4_readBalloon_41 : decode cX4_readBalloon 41 = .ok (.iload_n 3, 1) := by decide +kernel
theorem dX4_readBalloon_42 : decode cX4_readBalloon 42 = .ok (.aload_n 0, 1) := by decide +kernel
theorem dX4_readBalloon_43 : decode cX4_readBalloon 43 = .ok (.getstatic 77, 3) := by decide +kernel
theorem dX4_readBalloon_46 : decode cX4_readBalloon 46 = .ok (.iconst 2, 1) := by decide +kernel
theorem dX4_readBalloon_47 : decode cX4_readBalloon 47 = .ok (.iaload, 1) := by decide +kernel
theorem dX4_readBalloon_48 : decode cX4_readBalloon 48 = .ok (.getstatic 81, 3) := by decide +kernel
theorem dX4_readBalloon_51 : decode cX4_readBalloon 51 = .ok (.iconst 2, 1) := by decide +kernel
theorem dX4_readBalloon_52 : decode cX4_readBalloon 52 = .ok (.iaload, 1) := by decide +kernel
theorem dX4_readBalloon_53 : decode cX4_readBalloon 53 = .ok (.invokevirtual 61, 3) := by decide +kernel
theorem dX4_readBalloon_56 : decode cX4_readBalloon 56 = .ok (.invokevirtual 90, 3) := by decide +kernel
theorem dX4_readBalloon_59 : decode cX4_readBalloon 59 = .ok (.aload_n 1, 1) := by decide +kernel
theorem dX4_readBalloon_60 : decode cX4_readBalloon 60 = .ok (.getfield 94, 3) := by decide +kernel
theorem dX4_readBalloon_63 : decode cX4_readBalloon 63 = .ok (.aload_n 1, 1) := by decide +kernel
theorem dX4_readBalloon_64 : decode cX4_readBalloon 64 = .ok (.getfield 74, 3) := by decide +kernel
theorem dX4_readBalloon_67 : decode cX4_readBalloon 67 = .ok (.iconst 1, 1) := by decide +kernel
theorem dX4_readBalloon_68 : decode cX4_readBalloon 68 = .ok (.isub, 1) := by decide +kernel
theorem dX4_readBalloon_69 : decode cX4_readBalloon 69 = .ok (.aaload, 1) := by decide +kernel
theorem dX4_readBalloon_70 : decode cX4_readBalloon 70 = .ok (.getfield 98, 3) := by decide +kernel
theorem dX4_readBalloon_73 : decode cX4_readBalloon 73 = .ok (.astore 4, 2) := by decide +kernel
theorem dX4_readBalloon_75 : decode cX4_readBalloon 75 = .ok (.aload_n 0, 1) := by decide +kernel
theorem dX4_readBalloon_76 : decode cX4_readBalloon 76 = .ok (.ldc 103, 2) := by decide +kernel
theorem dX4_readBalloon_78 : decode cX4_readBalloon 78 = .ok (.aload 4, 2) := by decide +kernel
theorem dX4_readBalloon_80 : decode cX4_readBalloon 80 = .ok (.iconst 5, 1) := by decide +kernel
theorem dX4_readBalloon_81 : decode cX4_readBalloon 81 = .ok (.invokevirtual 105, 3) := by decide +kernel
theorem dX4_readBalloon_84 : decode cX4_readBalloon 84 = .ok (.aload_n 0, 1) := by decide +kernel
theorem dX4_readBalloon_85 : decode cX4_readBalloon 85 = .ok (.ldc 109, 2) := by decide +kernel
theorem dX4_readBalloon_87 : decode cX4_readBalloon 87 = .ok (.aload 4, 2) := by decide +kernel
theorem dX4_readBalloon_89 : decode cX4_readBalloon 89 = .ok (.bipush 6, 2) := by decide +kernel
theorem dX4_readBalloon_91 : decode cX4_readBalloon 91 = .ok (.invokevirtual 105, 3) := by decide +kernel
theorem dX4_readBalloon_94 : decode cX4_readBalloon 94 = .ok (.aload_n 0, 1) := by decide +kernel
theorem dX4_readBalloon_95 : decode cX4_readBalloon 95 = .ok (.ldc 111, 2) := by decide +kernel
theorem dX4_readBalloon_97 : decode cX4_readBalloon 97 = .ok (.aload 4, 2) := by decide +kernel
theorem dX4_readBalloon_99 : decode cX4_readBalloon 99 = .ok (.iconst 4, 1) := by decide +kernel
theorem dX4_readBalloon_100 : decode cX4_readBalloon 100 = .ok (.invokevirtual 105, 3) := by decide +kernel
theorem dX4_readBalloon_103 : decode cX4_readBalloon 103 = .ok (.aload_n 0, 1) := by decide +kernel
theorem dX4_readBalloon_104 : decode cX4_readBalloon 104 = .ok (.ldc 113, 2) := by decide +kernel
theorem dX4_readBalloon_106 : decode cX4_readBalloon 106 = .ok (.aload 4, 2) := by decide +kernel
theorem dX4_readBalloon_108 : decode cX4_readBalloon 108 = .ok (.bipush 7, 2) := by decide +kernel
theorem dX4_readBalloon_110 : decode cX4_readBalloon 110 = .ok (.invokevirtual 105, 3) := by decide +kernel
theorem dX4_readBalloon_113 : decode cX4_readBalloon 113 = .ok (.aload_n 0, 1) := by decide +kernel
theorem dX4_readBalloon_114 : decode cX4_readBalloon 114 = .ok (.ldc 115, 2) := by decide +kernel
theorem dX4_readBalloon_116 : decode cX4_readBalloon 116 = .ok (.aload 4, 2) := by decide +kernel
theorem dX4_readBalloon_118 : decode cX4_readBalloon 118 = .ok (.bipush 8, 2) := by decide +kernel
theorem dX4_readBalloon_120 : decode cX4_readBalloon 120 = .ok (.invokevirtual 105, 3) := by decide +kernel
theorem dX4_readBalloon_123 : decode cX4_readBalloon 123 = .ok (.return_, 1) := by decide +kernel
theorem dX4_readPart_0 : decode cX4_readPart 0 = .ok (.aload_n 0, 1) := by decide +kernel
theorem dX4_readPart_1 : decode cX4_readPart 1 = .ok (.getfield 28, 3) := by decide +kernel
theorem dX4_readPart_4 : decode cX4_readPart 4 = .ok (.bipush (-3), 2) := by decide +kernel
theorem dX4_readPart_6 : decode cX4_readPart 6 = .ok (.if_icmp .ne 32, 3) := by decide +kernel
theorem dX4_readPart_9 : decode cX4_readPart 9 = .ok (.aload_n 0, 1) := by decide +kernel
theorem dX4_readPart_10 : decode cX4_readPart 10 = .ok (.aload_n 1, 1) := by decide +kernel
theorem dX4_readPart_11 : decode cX4_readPart 11 = .ok (.invokevirtual 49, 3) := by decide +kernel
theorem dX4_readPart_14 : decode cX4_readPart 14 = .ok (.ifCond .eq 24, 3) := by decide +kernel
theorem dX4_readPart_17 : decode cX4_readPart 17 = .ok (.aload_n 0, 1) := by decide +kernel
theorem dX4_readPart_18 : decode cX4_readPart 18 = .ok (.invokevirtual 36, 3) := by decide +kernel
theorem dX4_readPart_21 : decode cX4_readPart 21 = .ok (.aload_n 2, 1) := by decide +kernel
theorem dX4_readPart_22 : decode cX4_readPart 22 = .ok (.iload_n 3, 1) := by decide +kernel
theorem dX4_readPart_23 : decode cX4_readPart 23 = .ok (.aload_n 0, 1) := by decide +kernel
theorem dX4_readPart_24 : decode cX4_readPart 24 = .ok (.getstatic 77, 3) := by decide +kernel
theorem dX4_readPart_27 : decode cX4_readPart 27 = .ok (.iload_n 3, 1) := by decide +kernel
theorem dX4_readPart_28 : decode cX4_readPart 28 = .ok (.iaload, 1) := by decide +kernel
theorem dX4_readPart_29 : decode cX4_readPart 29 = .ok (.getstatic 81, 3) := by decide +kernel
theorem dX4_readPart_32 : decode cX4_readPart 32 = .ok (.iload_n 3, 1) := by decide +kernel
theorem dX4_readPart_33 : decode cX4_readPart 33 = .ok (.iaload, 1) := by decide +kernel
theorem dX4_readPart_34 : decode cX4_readPart 34 = .ok (.invokevirtual 61, 3) := by decide +kernel
theorem dX4_readPart_37 : decode cX4_readPart 37 = .ok (.iastore, 1) := by decide +kernel
theorem dX4_readPart_38 : decode cX4_readPart 38 = .ok (.return_, 1) := by decide +kernel
theorem dX4_readWarmth_0 : decode cX4_readWarmth 0 = .ok (.aload_n 0, 1) := by decide +kernel
theorem dX4_readWarmth_1 : decode cX4_readWarmth 1 = .ok (.invokevirtual 36, 3) := by decide +kernel
theorem dX4_readWarmth_4 : decode cX4_readWarmth 4 = .ok (.aload_n 0, 1) := by decide +kernel
theorem dX4_readWarmth_5 : decode cX4_readWarmth 5 = .ok (.iconst 0, 1) := by decide +kernel
theorem dX4_readWarmth_6 : decode cX4_readWarmth 6 = .ok (.bipush 23, 2) := by decide +kernel
theorem dX4_readWarmth_8 : decode cX4_readWarmth 8 = .ok (.invokevirtual 61, 3) := by decide +kernel
theorem dX4_readWarmth_11 : decode cX4_readWarmth 11 = .ok (.istore 4, 2) := by decide +kernel
theorem dX4_readWarmth_13 : decode cX4_readWarmth 13 = .ok (.aload_n 0, 1) := by decide +kernel
theorem dX4_readWarmth_14 : decode cX4_readWarmth 14 = .ok (.iconst 0, 1) := by decide +kernel
theorem dX4_readWarmth_15 : decode cX4_readWarmth 15 = .ok (.iload_n 2, 1) := by decide +kernel
theorem dX4_readWarmth_16 : decode cX4_readWarmth 16 = .ok (.invokevirtual 61, 3) := by decide +kernel
theorem dX4_readWarmth_19 : decode cX4_readWarmth 19 = .ok (.istore 5, 2) := by decide +kernel
theorem dX4_readWarmth_21 : decode cX4_readWarmth 21 = .ok (.aload_n 1, 1) := by decide +kernel
theorem dX4_readWarmth_22 : decode cX4_readWarmth 22 = .ok (.getfield 117, 3) := by decide +kernel
theorem dX4_readWarmth_25 : decode cX4_readWarmth 25 = .ok (.iload 4, 2) := by decide +kernel
theorem dX4_readWarmth_27 : decode cX4_readWarmth 27 = .ok (.iload_n 3, 1) := by decide +kernel
theorem dX4_readWarmth_28 : decode cX4_readWarmth 28 = .ok (.iload 5, 2) := by decide +kernel
theorem dX4_readWarmth_30 : decode cX4_readWarmth 30 = .ok (.imul, 1) := by decide +kernel
theorem dX4_readWarmth_31 : decode cX4_readWarmth 31 = .ok (.iastore, 1) := by decide +kernel
theorem dX4_readWarmth_32 : decode cX4_readWarmth 32 = .ok (.return_, 1) := by decide +kernel
theorem dX4_kindHere_0 : decode cX4_kindHere 0 = .ok (.iconst 0, 1) := by decide +kernel
theorem dX4_kindHere_1 : decode cX4_kindHere 1 = .ok (.istore_n 1, 1) := by decide +kernel
theorem dX4_kindHere_2 : decode cX4_kindHere 2 = .ok (.iload_n 1, 1) := by decide +kernel
theorem dX4_kindHere_3 : decode cX4_kindHere 3 = .ok (.bipush 6, 2) := by decide +kernel
theorem dX4_kindHere_5 : decode cX4_kindHere 5 = .ok (.if_icmp .ge 22, 3) := by decide +kernel
theorem dX4_kindHere_8 : decode cX4_kindHere 8 = .ok (.aload_n 0, 1) := by decide +kernel
theorem dX4_kindHere_9 : decode cX4_kindHere 9 = .ok (.iload_n 1, 1) := by decide +kernel
theorem dX4_kindHere_10 : decode cX4_kindHere 10 = .ok (.invokestatic 120, 3) := by decide +kernel
theorem dX4_kindHere_13 : decode cX4_kindHere 13 = .ok (.invokevirtual 49, 3) := by decide +kernel
theorem dX4_kindHere_16 : decode cX4_kindHere 16 = .ok (.ifCond .eq 5, 3) := by decide +kernel
theorem dX4_kindHere_19 : decode cX4_kindHere 19 = .ok (.iload_n 1, 1) := by decide +kernel
theorem dX4_kindHere_20 : decode cX4_kindHere 20 = .ok (.ireturn, 1) := by decide +kernel
theorem dX4_kindHere_21 : decode cX4_kindHere 21 = .ok (.iinc 1 1, 3) := by decide +kernel
theorem dX4_kindHere_24 : decode cX4_kindHere 24 = .ok (.goto (-22), 3) := by decide +kernel
theorem dX4_kindHere_27 : decode cX4_kindHere 27 = .ok (.bipush (-3), 2) := by decide +kernel
theorem dX4_kindHere_29 : decode cX4_kindHere 29 = .ok (.ireturn, 1) := by decide +kernel
theorem dX4_nameOf_0 : decode cX4_nameOf 0 = .ok (.iload_n 0, 1) := by decide +kernel
theorem dX4_nameOf_1 : decode cX4_nameOf 1 = .ok (.tableswitch 50 1 5 #[35, 38, 41, 44, 47], 35) := by decide +kernel
theorem dX4_nameOf_36 : decode cX4_nameOf 36 = .ok (.ldc 124, 2) := by decide +kernel
theorem dX4_nameOf_38 : decode cX4_nameOf 38 = .ok (.areturn, 1) := by decide +kernel
theorem dX4_nameOf_39 : decode cX4_nameOf 39 = .ok (.ldc 126, 2) := by decide +kernel
theorem dX4_nameOf_41 : decode cX4_nameOf 41 = .ok (.areturn, 1) := by decide +kernel
theorem dX4_nameOf_42 : decode cX4_nameOf 42 = .ok (.ldc 128, 2) := by decide +kernel
theorem dX4_nameOf_44 : decode cX4_nameOf 44 = .ok (.areturn, 1) := by decide +kernel
theorem dX4_nameOf_45 : decode cX4_nameOf 45 = .ok (.ldc 130, 2) := by decide +kernel
theorem dX4_nameOf_47 : decode cX4_nameOf 47 = .ok (.areturn, 1) := by decide +kernel
theorem dX4_nameOf_48 : decode cX4_nameOf 48 = .ok (.ldc 132, 2) := by decide +kernel
theorem dX4_nameOf_50 : decode cX4_nameOf 50 = .ok (.areturn, 1) := by decide +kernel
theorem dX4_nameOf_51 : decode cX4_nameOf 51 = .ok (.ldc 134, 2) := by decide +kernel
theorem dX4_nameOf_53 : decode cX4_nameOf 53 = .ok (.areturn, 1) := by decide +kernel
theorem dX4_isName_0 : decode cX4_isName 0 = .ok (.aload_n 0, 1) := by decide +kernel
theorem dX4_isName_1 : decode cX4_isName 1 = .ok (.getfield 19, 3) := by decide +kernel
theorem dX4_isName_4 : decode cX4_isName 4 = .ok (.iconst 1, 1) := by decide +kernel
theorem dX4_isName_5 : decode cX4_isName 5 = .ok (.if_icmp .ne 19, 3) := by decide +kernel
theorem dX4_isName_8 : decode cX4_isName 8 = .ok (.aload_n 0, 1) := by decide +kernel
theorem dX4_isName_9 : decode cX4_isName 9 = .ok (.getfield 25, 3) := by decide +kernel
theorem dX4_isName_12 : decode cX4_isName 12 = .ok (.aload_n 0, 1) := by decide +kernel
theorem dX4_isName_13 : decode cX4_isName 13 = .ok (.getfield 22, 3) := by decide +kernel
theorem dX4_isName_16 : decode cX4_isName 16 = .ok (.isub, 1) := by decide +kernel
theorem dX4_isName_17 : decode cX4_isName 17 = .ok (.aload_n 1, 1) := by decide +kernel
theorem dX4_isName_18 : decode cX4_isName 18 = .ok (.invokevirtual 136, 3) := by decide +kernel
theorem dX4_isName_21 : decode cX4_isName 21 = .ok (.if_icmp .eq 5, 3) := by decide +kernel
theorem dX4_isName_24 : decode cX4_isName 24 = .ok (.iconst 0, 1) := by decide +kernel
theorem dX4_isName_25 : decode cX4_isName 25 = .ok (.ireturn, 1) := by decide +kernel
theorem dX4_isName_26 : decode cX4_isName 26 = .ok (.iconst 0, 1) := by decide +kernel
theorem dX4_isName_27 : decode cX4_isName 27 = .ok (.istore_n 2, 1) := by decide +kernel
theorem dX4_isName_28 : decode cX4_isName 28 = .ok (.iload_n 2, 1) := by decide +kernel
theorem dX4_isName_29 : decode cX4_isName 29 = .ok (.aload_n 1, 1) := by decide +kernel
theorem dX4_isName_30 : decode cX4_isName 30 = .ok (.invokevirtual 136, 3) := by decide +kernel
theorem dX4_isName_33 : decode cX4_isName 33 = .ok (.if_icmp .ge 30, 3) := by decide +kernel
theorem dX4_isName_36 : decode cX4_isName 36 = .ok (.aload_n 0, 1) := by decide +kernel
theorem dX4_isName_37 : decode cX4_isName 37 = .ok (.getfield 9, 3) := by decide +kernel
theorem dX4_isName_40 : decode cX4_isName 40 = .ok (.aload_n 0, 1) := by decide +kernel
theorem dX4_isName_41 : decode cX4_isName 41 = .ok (.getfield 22, 3) := by decide +kernel
theorem dX4_isName_44 : decode cX4_isName 44 = .ok (.iload_n 2, 1) := by decide +kernel
theorem dX4_isName_45 : decode cX4_isName 45 = .ok (.iadd, 1) := by decide +kernel
theorem dX4_isName_46 : decode cX4_isName 46 = .ok (.baload, 1) := by decide +kernel
theorem dX4_isName_47 : decode cX4_isName 47 = .ok (.aload_n 1, 1) := by decide +kernel
theorem dX4_isName_48 : decode cX4_isName 48 = .ok (.iload_n 2, 1) := by decide +kernel
theorem dX4_isName_49 : decode cX4_isName 49 = .ok (.invokevirtual 141, 3) := by decide +kernel
theorem dX4_isName_52 : decode cX4_isName 52 = .ok (.if_icmp .eq 5, 3) := by decide +kernel
theorem dX4_isName_55 : decode cX4_isName 55 = .ok (.iconst 0, 1) := by decide +kernel
theorem dX4_isName_56 : decode cX4_isName 56 = .ok (.ireturn, 1) := by decide +kernel
theorem dX4_isName_57 : decode cX4_isName 57 = .ok (.iinc 2 1, 3) := by decide +kernel
theorem dX4_isName_60 : decode cX4_isName 60 = .ok (.goto (-32), 3) := by decide +kernel
theorem dX4_isName_63 : decode cX4_isName 63 = .ok (.iconst 1, 1) := by decide +kernel
theorem dX4_isName_64 : decode cX4_isName 64 = .ok (.ireturn, 1) := by decide +kernel
theorem dX4_passName_0 : decode cX4_passName 0 = .ok (.aload_n 0, 1) := by decide +kernel
theorem dX4_passName_1 : decode cX4_passName 1 = .ok (.aload_n 1, 1) := by decide +kernel
theorem dX4_passName_2 : decode cX4_passName 2 = .ok (.invokevirtual 49, 3) := by decide +kernel
theorem dX4_passName_5 : decode cX4_passName 5 = .ok (.ifCond .eq 10, 3) := by decide +kernel
theorem dX4_passName_8 : decode cX4_passName 8 = .ok (.aload_n 0, 1) := by decide +kernel
theorem dX4_passName_9 : decode cX4_passName 9 = .ok (.invokevirtual 36, 3) := by decide +kernel
theorem dX4_passName_12 : decode cX4_passName 12 = .ok (.goto 7, 3) := by decide +kernel
theorem dX4_passName_15 : decode cX4_passName 15 = .ok (.aload_n 0, 1) := by decide +kernel
theorem dX4_passName_16 : decode cX4_passName 16 = .ok (.invokevirtual 67, 3) := by decide +kernel
theorem dX4_passName_19 : decode cX4_passName 19 = .ok (.return_, 1) := by decide +kernel
theorem dX4_passSign_0 : decode cX4_passSign 0 = .ok (.aload_n 0, 1) := by decide +kernel
theorem dX4_passSign_1 : decode cX4_passSign 1 = .ok (.getfield 19, 3) := by decide +kernel
theorem dX4_passSign_4 : decode cX4_passSign 4 = .ok (.iconst 3, 1) := by decide +kernel
theorem dX4_passSign_5 : decode cX4_passSign 5 = .ok (.if_icmp .ne 23, 3) := by decide +kernel
theorem dX4_passSign_8 : decode cX4_passSign 8 = .ok (.aload_n 0, 1) := by decide +kernel
theorem dX4_passSign_9 : decode cX4_passSign 9 = .ok (.getfield 9, 3) := by decide +kernel
theorem dX4_passSign_12 : decode cX4_passSign 12 = .ok (.aload_n 0, 1) := by decide +kernel
theorem dX4_passSign_13 : decode cX4_passSign 13 = .ok (.getfield 22, 3) := by decide +kernel
theorem dX4_passSign_16 : decode cX4_passSign 16 = .ok (.baload, 1) := by decide +kernel
theorem dX4_passSign_17 : decode cX4_passSign 17 = .ok (.iload_n 1, 1) := by decide +kernel
theorem dX4_passSign_18 : decode cX4_passSign 18 = .ok (.if_icmp .ne 10, 3) := by decide +kernel
theorem dX4_passSign_21 : decode cX4_passSign 21 = .ok (.aload_n 0, 1) := by decide +kernel
theorem dX4_passSign_22 : decode cX4_passSign 22 = .ok (.invokevirtual 36, 3) := by decide +kernel
theorem dX4_passSign_25 : decode cX4_passSign 25 = .ok (.goto 7, 3) := by decide +kernel
theorem dX4_passSign_28 : decode cX4_passSign 28 = .ok (.aload_n 0, 1) := by decide +kernel
theorem dX4_passSign_29 : decode cX4_passSign 29 = .ok (.invokevirtual 67, 3) := by decide +kernel
theorem dX4_passSign_32 : decode cX4_passSign 32 = .ok (.return_, 1) := by decide +kernel
theorem dX4_number_0 : decode cX4_number 0 = .ok (.aload_n 0, 1) := by decide +kernel
theorem dX4_number_1 : decode cX4_number 1 = .ok (.getfield 19, 3) := by decide +kernel
theorem dX4_number_4 : decode cX4_number 4 = .ok (.iconst 2, 1) := by decide +kernel
theorem dX4_number_5 : decode cX4_number 5 = .ok (.if_icmp .ne 16, 3) := by decide +kernel
theorem dX4_number_8 : decode cX4_number 8 = .ok (.aload_n 0, 1) := by decide +kernel
theorem dX4_number_9 : decode cX4_number 9 = .ok (.getfield 25, 3) := by decide +kernel
theorem dX4_number_12 : decode cX4_number 12 = .ok (.aload_n 0, 1) := by decide +kernel
theorem dX4_number_13 : decode cX4_number 13 = .ok (.getfield 22, 3) := by decide +kernel
theorem dX4_number_16 : decode cX4_number 16 = .ok (.isub, 1) := by decide +kernel
theorem dX4_number_17 : decode cX4_number 17 = .ok (.iconst 3, 1) := by decide +kernel
theorem dX4_number_18 : decode cX4_number 18 = .ok (.if_icmp .le 9, 3) := by decide +kernel
theorem dX4_number_21 : decode cX4_number 21 = .ok (.aload_n 0, 1) := by decide +kernel
theorem dX4_number_22 : decode cX4_number 22 = .ok (.invokevirtual 67, 3) := by decide +kernel
theorem dX4_number_25 : decode cX4_number 25 = .ok (.iload_n 1, 1) := by decide +kernel
theorem dX4_number_26 : decode cX4_number 26 = .ok (.ireturn, 1) := by decide +kernel
theorem dX4_number_27 : decode cX4_number 27 = .ok (.iconst 0, 1) := by decide +kernel
theorem dX4_number_28 : decode cX4_number 28 = .ok (.istore_n 3, 1) := by decide +kernel
theorem dX4_number_29 : decode cX4_number 29 = .ok (.aload_n 0, 1) := by decide +kernel
theorem dX4_number_30 : decode cX4_number 30 = .ok (.getfield 22, 3) := by decide +kernel
theorem dX4_number_33 : decode cX4_number 33 = .ok (.istore 4, 2) := by decide +kernel
theorem dX4_number_35 : decode cX4_number 35 = .ok (.iload 4, 2) := by decide +kernel
theorem dX4_number_37 : decode cX4_number 37 = .ok (.aload_n 0, 1) := by decide +kernel
theorem dX4_number_38 : decode cX4_number 38 = .ok (.getfield 25, 3) := by decide +kernel
theorem dX4_number_41 : decode cX4_number 41 = .ok (.if_icmp .ge 25, 3) := by decide +kernel
theorem dX4_number_44 : decode cX4_number 44 = .ok (.iload_n 3, 1) := by decide +kernel
theorem dX4_number_45 : decode cX4_number 45 = .ok (.bipush 10, 2) := by decide +kernel
theorem dX4_number_47 : decode cX4_number 47 = .ok (.imul, 1) := by decide +kernel
theorem dX4_number_48 : decode cX4_number 48 = .ok (.aload_n 0, 1) := by decide +kernel
theorem dX4_number_49 : decode cX4_number 49 = .ok (.getfield 9, 3) := by decide +kernel
theorem dX4_number_52 : decode cX4_number 52 = .ok (.iload 4, 2) := by decide +kernel
theorem dX4_number_54 : decode cX4_number 54 = .ok (.baload, 1) := by decide +kernel
theorem dX4_number_55 : decode cX4_number 55 = .ok (.bipush 48, 2) := by decide +kernel
theorem dX4_number_57 : decode cX4_number 57 = .ok (.isub, 1) := by decide +kernel
theorem dX4_number_58 : decode cX4_number 58 = .ok (.iadd, 1) := by decide +kernel
theorem dX4_number_59 : decode cX4_number 59 = .ok (.istore_n 3, 1) := by decide +kernel
theorem dX4_number_60 : decode cX4_number 60 = .ok (.iinc 4 1, 3) := by decide +kernel
theorem dX4_number_63 : decode cX4_number 63 = .ok (.goto (-28), 3) := by decide +kernel
theorem dX4_number_66 : decode cX4_number 66 = .ok (.iload_n 3, 1) := by decide +kernel
theorem dX4_number_67 : decode cX4_number 67 = .ok (.iload_n 1, 1) := by decide +kernel
theorem dX4_number_68 : decode cX4_number 68 = .ok (.iload_n 2, 1) := by decide +kernel
theorem dX4_number_69 : decode cX4_number 69 = .ok (.invokestatic 145, 3) := by decide +kernel
theorem dX4_number_72 : decode cX4_number 72 = .ok (.ifCond .ne 9, 3) := by decide +kernel
theorem dX4_number_75 : decode cX4_number 75 = .ok (.aload_n 0, 1) := by decide +kernel
theorem dX4_number_76 : decode cX4_number 76 = .ok (.invokevirtual 67, 3) := by decide +kernel
theorem dX4_number_79 : decode cX4_number 79 = .ok (.iload_n 1, 1) := by decide +kernel
theorem dX4_number_80 : decode cX4_number 80 = .ok (.ireturn, 1) := by decide +kernel
theorem dX4_number_81 : decode cX4_number 81 = .ok (.aload_n 0, 1) := by decide +kernel
theorem dX4_number_82 : decode cX4_number 82 = .ok (.invokevirtual 36, 3) := by decide +kernel
theorem dX4_number_85 : decode cX4_number 85 = .ok (.iload_n 3, 1) := by decide +kernel
theorem dX4_number_86 : decode cX4_number 86 = .ok (.ireturn, 1) := by decide +kernel
theorem dX4_fail_0 : decode cX4_fail 0 = .ok (.aload_n 0, 1) := by decide +kernel
theorem dX4_fail_1 : decode cX4_fail 1 = .ok (.getfield 28, 3) := by decide +kernel
theorem dX4_fail_4 : decode cX4_fail 4 = .ok (.bipush (-3), 2) := by decide +kernel
theorem dX4_fail_6 : decode cX4_fail 6 = .ok (.if_icmp .ne 11, 3) := by decide +kernel
theorem dX4_fail_9 : decode cX4_fail 9 = .ok (.aload_n 0, 1) := by decide +kernel
theorem dX4_fail_10 : decode cX4_fail 10 = .ok (.aload_n 0, 1) := by decide +kernel
theorem dX4_fail_11 : decode cX4_fail 11 = .ok (.getfield 22, 3) := by decide +kernel
theorem dX4_fail_14 : decode cX4_fail 14 = .ok (.putfield 28, 3) := by decide +kernel
theorem dX4_fail_17 : decode cX4_fail 17 = .ok (.return_, 1) := by decide +kernel
theorem dX4_advance_0 : decode cX4_advance 0 = .ok (.aload_n 0, 1) := by decide +kernel
theorem dX4_advance_1 : decode cX4_advance 1 = .ok (.aload_n 0, 1) := by decide +kernel
theorem dX4_advance_2 : decode cX4_advance 2 = .ok (.getfield 25, 3) := by decide +kernel
theorem dX4_advance_5 : decode cX4_advance 5 = .ok (.putfield 22, 3) := by decide +kernel
theorem dX4_advance_8 : decode cX4_advance 8 = .ok (.aload_n 0, 1) := by decide +kernel
theorem dX4_advance_9 : decode cX4_advance 9 = .ok (.getfield 22, 3) := by decide +kernel
theorem dX4_advance_12 : decode cX4_advance 12 = .ok (.aload_n 0, 1) := by decide +kernel
theorem dX4_advance_13 : decode cX4_advance 13 = .ok (.getfield 15, 3) := by decide +kernel
theorem dX4_advance_16 : decode cX4_advance 16 = .ok (.if_icmp .ge 30, 3) := by decide +kernel
theorem dX4_advance_19 : decode cX4_advance 19 = .ok (.aload_n 0, 1) := by decide +kernel
theorem dX4_advance_20 : decode cX4_advance 20 = .ok (.getfield 9, 3) := by decide +kernel
theorem dX4_advance_23 : decode cX4_advance 23 = .ok (.aload_n 0, 1) := by decide +kernel
theorem dX4_advance_24 : decode cX4_advance 24 = .ok (.getfield 22, 3) := by decide +kernel
theorem dX4_advance_27 : decode cX4_advance 27 = .ok (.baload, 1) := by decide +kernel
theorem dX4_advance_28 : decode cX4_advance 28 = .ok (.bipush 32, 2) := by decide +kernel
theorem dX4_advance_30 : decode cX4_advance 30 = .ok (.if_icmp .ne 16, 3) := by decide +kernel
theorem dX4_advance_33 : decode cX4_advance 33 = .ok (.aload_n 0, 1) := by decide +kernel
theorem dX4_advance_34 : decode cX4_advance 34 = .ok (.dup, 1) := by decide +kernel
theorem dX4_advance_35 : decode cX4_advance 35 = .ok (.getfield 22, 3) := by decide +kernel
theorem dX4_advance_38 : decode cX4_advance 38 = .ok (.iconst 1, 1) := by decide +kernel
theorem dX4_advance_39 : decode cX4_advance 39 = .ok (.iadd, 1) := by decide +kernel
theorem dX4_advance_40 : decode cX4_advance 40 = .ok (.putfield 22, 3) := by decide +kernel
theorem dX4_advance_43 : decode cX4_advance 43 = .ok (.goto (-35), 3) := by decide +kernel
theorem dX4_advance_46 : decode cX4_advance 46 = .ok (.aload_n 0, 1) := by decide +kernel
theorem dX4_advance_47 : decode cX4_advance 47 = .ok (.aload_n 0, 1) := by decide +kernel
theorem dX4_advance_48 : decode cX4_advance 48 = .ok (.aload_n 0, 1) := by decide +kernel
theorem dX4_advance_49 : decode cX4_advance 49 = .ok (.getfield 22, 3) := by decide +kernel
theorem dX4_advance_52 : decode cX4_advance 52 = .ok (.invokevirtual 149, 3) := by decide +kernel
theorem dX4_advance_55 : decode cX4_advance 55 = .ok (.putfield 19, 3) := by decide +kernel
theorem dX4_advance_58 : decode cX4_advance 58 = .ok (.aload_n 0, 1) := by decide +kernel
theorem dX4_advance_59 : decode cX4_advance 59 = .ok (.aload_n 0, 1) := by decide +kernel
theorem dX4_advance_60 : decode cX4_advance 60 = .ok (.getfield 22, 3) := by decide +kernel
theorem dX4_advance_63 : decode cX4_advance 63 = .ok (.iconst 1, 1) := by decide +kernel
theorem dX4_advance_64 : decode cX4_advance 64 = .ok (.iadd, 1) := by decide +kernel
theorem dX4_advance_65 : decode cX4_advance 65 = .ok (.aload_n 0, 1) := by decide +kernel
theorem dX4_advance_66 : decode cX4_advance 66 = .ok (.getfield 15, 3) := by decide +kernel
theorem dX4_advance_69 : decode cX4_advance 69 = .ok (.invokestatic 153, 3) := by decide +kernel
theorem dX4_advance_72 : decode cX4_advance 72 = .ok (.putfield 25, 3) := by decide +kernel
theorem dX4_advance_75 : decode cX4_advance 75 = .ok (.aload_n 0, 1) := by decide +kernel
theorem dX4_advance_76 : decode cX4_advance 76 = .ok (.getfield 19, 3) := by decide +kernel
theorem dX4_advance_79 : decode cX4_advance 79 = .ok (.iconst 1, 1) := by decide +kernel
theorem dX4_advance_80 : decode cX4_advance 80 = .ok (.if_icmp .eq 11, 3) := by decide +kernel
theorem dX4_advance_83 : decode cX4_advance 83 = .ok (.aload_n 0, 1) := by decide +kernel
theorem dX4_advance_84 : decode cX4_advance 84 = .ok (.getfield 19, 3) := by decide +kernel
theorem dX4_advance_87 : decode cX4_advance 87 = .ok (.iconst 2, 1) := by decide +kernel
theorem dX4_advance_88 : decode cX4_advance 88 = .ok (.if_icmp .ne 42, 3) := by decide +kernel
theorem dX4_advance_91 : decode cX4_advance 91 = .ok (.aload_n 0, 1) := by decide +kernel
theorem dX4_advance_92 : decode cX4_advance 92 = .ok (.getfield 25, 3) := by decide +kernel
theorem dX4_advance_95 : decode cX4_advance 95 = .ok (.aload_n 0, 1) := by decide +kernel
theorem dX4_advance_96 : decode cX4_advance 96 = .ok (.getfield 15, 3) := by decide +kernel
theorem dX4_advance_99 : decode cX4_advance 99 = .ok (.if_icmp .ge 31, 3) := by decide +kernel
theorem dX4_advance_102 : decode cX4_advance 102 = .ok (.aload_n 0, 1) := by decide +kernel
theorem dX4_advance_103 : decode cX4_advance 103 = .ok (.aload_n 0, 1) := by decide +kernel
theorem dX4_advance_104 : decode cX4_advance 104 = .ok (.getfield 25, 3) := by decide +kernel
theorem dX4_advance_107 : decode cX4_advance 107 = .ok (.invokevirtual 149, 3) := by decide +kernel
theorem dX4_advance_110 : decode cX4_advance 110 = .ok (.aload_n 0, 1) := by decide +kernel
theorem dX4_advance_111 : decode cX4_advance 111 = .ok (.getfield 19, 3) := by decide +kernel
theorem dX4_advance_114 : decode cX4_advance 114 = .ok (.if_icmp .ne 16, 3) := by decide +kernel
theorem dX4_advance_117 : decode cX4_advance 117 = .ok (.aload_n 0, 1) := by decide +kernel
theorem dX4_advance_118 : decode cX4_advance 118 = .ok (.dup, 1) := by decide +kernel
theorem dX4_advance_119 : decode cX4_advance 119 = .ok (.getfield 25, 3) := by decide +kernel
theorem dX4_advance_122 : decode cX4_advance 122 = .ok (.iconst 1, 1) := by decide +kernel
theorem dX4_advance_123 : decode cX4_advance 123 = .ok (.iadd, 1) := by decide +kernel
theorem dX4_advance_124 : decode cX4_advance 124 = .ok (.putfield 25, 3) := by decide +kernel
theorem dX4_advance_127 : decode cX4_advance 127 = .ok (.goto (-52), 3) := by decide +kernel
theorem dX4_advance_130 : decode cX4_advance 130 = .ok (.return_, 1) := by decide +kernel
theorem dX4_sortAt_0 : decode cX4_sortAt 0 = .ok (.iload_n 1, 1) := by decide +kernel
theorem dX4_sortAt_1 : decode cX4_sortAt 1 = .ok (.aload_n 0, 1) := by decide +kernel
theorem dX4_sortAt_2 : decode cX4_sortAt 2 = .ok (.getfield 15, 3) := by decide +kernel
theorem dX4_sortAt_5 : decode cX4_sortAt 5 = .ok (.if_icmp .lt 5, 3) := by decide +kernel
theorem dX4_sortAt_8 : decode cX4_sortAt 8 = .ok (.iconst 0, 1) := by decide +kernel
theorem dX4_sortAt_9 : decode cX4_sortAt 9 = .ok (.ireturn, 1) := by decide +kernel
theorem dX4_sortAt_10 : decode cX4_sortAt 10 = .ok (.aload_n 0, 1) := by decide +kernel
theorem dX4_sortAt_11 : decode cX4_sortAt 11 = .ok (.getfield 9, 3) := by decide +kernel
theorem dX4_sortAt_14 : decode cX4_sortAt 14 = .ok (.iload_n 1, 1) := by decide +kernel
theorem dX4_sortAt_15 : decode cX4_sortAt 15 = .ok (.baload, 1) := by decide +kernel
theorem dX4_sortAt_16 : decode cX4_sortAt 16 = .ok (.istore_n 2, 1) := by decide +kernel
theorem dX4_sortAt_17 : decode cX4_sortAt 17 = .ok (.iload_n 2, 1) := by decide +kernel
theorem dX4_sortAt_18 : decode cX4_sortAt 18 = .ok (.bipush 97, 2) := by decide +kernel
theorem dX4_sortAt_20 : decode cX4_sortAt 20 = .ok (.if_icmp .lt 11, 3) := by decide +kernel
theorem dX4_sortAt_23 : decode cX4_sortAt 23 = .ok (.iload_n 2, 1) := by decide +kernel
theorem dX4_sortAt_24 : decode cX4_sortAt 24 = .ok (.bipush 122, 2) := by decide +kernel
theorem dX4_sortAt_26 : decode cX4_sortAt 26 = .ok (.if_icmp .gt 5, 3) := by decide +kernel
theorem dX4_sortAt_29 : decode cX4_sortAt 29 = .ok (.iconst 1, 1) := by decide +kernel
theorem dX4_sortAt_30 : decode cX4_sortAt 30 = .ok (.ireturn, 1) := by decide +kernel
theorem dX4_sortAt_31 : decode cX4_sortAt 31 = .ok (.iload_n 2, 1) := by decide +kernel
theorem dX4_sortAt_32 : decode cX4_sortAt 32 = .ok (.bipush 48, 2) := by decide +kernel
theorem dX4_sortAt_34 : decode cX4_sortAt 34 = .ok (.if_icmp .lt 13, 3) := by decide +kernel
theorem dX4_sortAt_37 : decode cX4_sortAt 37 = .ok (.iload_n 2, 1) := by decide +kernel
theorem dX4_sortAt_38 : decode cX4_sortAt 38 = .ok (.bipush 57, 2) := by decide +kernel
theorem dX4_sortAt_40 : decode cX4_sortAt 40 = .ok (.if_icmp .gt 7, 3) := by decide +kernel
theorem dX4_sortAt_43 : decode cX4_sortAt 43 = .ok (.iconst 2, 1) := by decide +kernel
theorem dX4_sortAt_44 : decode cX4_sortAt 44 = .ok (.goto 4, 3) := by decide +kernel
theorem dX4_sortAt_47 : decode cX4_sortAt 47 = .ok (.iconst 3, 1) := by decide +kernel
theorem dX4_sortAt_48 : decode cX4_sortAt 48 = .ok (.ireturn, 1) := by decide +kernel
theorem dX5_init_0 : decode cX5_init 0 = .ok (.aload_n 0, 1) := by decide +kernel
theorem dX5_init_1 : decode cX5_init 1 = .ok (.invokespecial 3, 3) := by decide +kernel
theorem dX5_init_4 : decode cX5_init 4 = .ok (.aload_n 0, 1) := by decide +kernel
theorem dX5_init_5 : decode cX5_init 5 = .ok (.bipush 24, 2) := by decide +kernel
theorem dX5_init_7 : decode cX5_init 7 = .ok (.newarray .int, 2) := by decide +kernel
theorem dX5_init_9 : decode cX5_init 9 = .ok (.putfield 9, 3) := by decide +kernel
theorem dX5_init_12 : decode cX5_init 12 = .ok (.aload_n 0, 1) := by decide +kernel
theorem dX5_init_13 : decode cX5_init 13 = .ok (.bipush 6, 2) := by decide +kernel
theorem dX5_init_15 : decode cX5_init 15 = .ok (.anewarray 15, 3) := by decide +kernel
theorem dX5_init_18 : decode cX5_init 18 = .ok (.putfield 17, 3) := by decide +kernel
theorem dX5_init_21 : decode cX5_init 21 = .ok (.aload_n 0, 1) := by decide +kernel
theorem dX5_init_22 : decode cX5_init 22 = .ok (.iconst 0, 1) := by decide +kernel
theorem dX5_init_23 : decode cX5_init 23 = .ok (.putfield 21, 3) := by decide +kernel
theorem dX5_init_26 : decode cX5_init 26 = .ok (.aload_n 0, 1) := by decide +kernel
theorem dX5_init_27 : decode cX5_init 27 = .ok (.iconst 0, 1) := by decide +kernel
theorem dX5_init_28 : decode cX5_init 28 = .ok (.putfield 25, 3) := by decide +kernel
theorem dX5_init_31 : decode cX5_init 31 = .ok (.aload_n 0, 1) := by decide +kernel
theorem dX5_init_32 : decode cX5_init 32 = .ok (.iconst 3, 1) := by decide +kernel
theorem dX5_init_33 : decode cX5_init 33 = .ok (.putfield 28, 3) := by decide +kernel
theorem dX5_init_36 : decode cX5_init 36 = .ok (.aload_n 0, 1) := by decide +kernel
theorem dX5_init_37 : decode cX5_init 37 = .ok (.iconst 1, 1) := by decide +kernel
theorem dX5_init_38 : decode cX5_init 38 = .ok (.putfield 31, 3) := by decide +kernel
theorem dX5_init_41 : decode cX5_init 41 = .ok (.iconst 0, 1) := by decide +kernel
theorem dX5_init_42 : decode cX5_init 42 = .ok (.istore_n 1, 1) := by decide +kernel
theorem dX5_init_43 : decode cX5_init 43 = .ok (.iload_n 1, 1) := by decide +kernel
theorem dX5_init_44 : decode cX5_init 44 = .ok (.bipush 6, 2) := by decide +kernel
theorem dX5_init_46 : decode cX5_init 46 = .ok (.if_icmp .ge 22, 3) := by decide +kernel
theorem dX5_init_49 : decode cX5_init 49 = .ok (.aload_n 0, 1) := by decide +kernel
theorem dX5_init_50 : decode cX5_init 50 = .ok (.getfield 17, 3) := by decide +kernel
theorem dX5_init_53 : decode cX5_init 53 = .ok (.iload_n 1, 1) := by decide +kernel
theorem dX5_init_54 : decode cX5_init 54 = .ok (.new 15, 3) := by decide +kernel
theorem dX5_init_57 : decode cX5_init 57 = .ok (.dup, 1) := by decide +kernel
theorem dX5_init_58 : decode cX5_init 58 = .ok (.invokespecial 34, 3) := by decide +kernel
theorem dX5_init_61 : decode cX5_init 61 = .ok (.aastore, 1) := by decide +kernel
theorem dX5_init_62 : decode cX5_init 62 = .ok (.iinc 1 1, 3) := by decide +kernel
theorem dX5_init_65 : decode cX5_init 65 = .ok (.goto (-22), 3) := by decide +kernel
theorem dX5_init_68 : decode cX5_init 68 = .ok (.return_, 1) := by decide +kernel
theorem dX5_becomeEmpty_0 : decode cX5_becomeEmpty 0 = .ok (.iconst 0, 1) := by decide +kernel
theorem dX5_becomeEmpty_1 : decode cX5_becomeEmpty 1 = .ok (.istore_n 1, 1) := by decide +kernel
theorem dX5_becomeEmpty_2 : decode cX5_becomeEmpty 2 = .ok (.iload_n 1, 1) := by decide +kernel
theorem dX5_becomeEmpty_3 : decode cX5_becomeEmpty 3 = .ok (.bipush 24, 2) := by decide +kernel
theorem dX5_becomeEmpty_5 : decode cX5_becomeEmpty 5 = .ok (.if_icmp .ge 16, 3) := by decide +kernel
theorem dX5_becomeEmpty_8 : decode cX5_becomeEmpty 8 = .ok (.aload_n 0, 1) := by decide +kernel
theorem dX5_becomeEmpty_9 : decode cX5_becomeEmpty 9 = .ok (.getfield 9, 3) := by decide +kernel
theorem dX5_becomeEmpty_12 : decode cX5_becomeEmpty 12 = .ok (.iload_n 1, 1) := by decide +kernel
theorem dX5_becomeEmpty_13 : decode cX5_becomeEmpty 13 = .ok (.iconst 0, 1) := by decide +kernel
theorem dX5_becomeEmpty_14 : decode cX5_becomeEmpty 14 = .ok (.iastore, 1) := by decide +kernel
theorem dX5_becomeEmpty_15 : decode cX5_becomeEmpty 15 = .ok (.iinc 1 1, 3) := by decide +kernel
theorem dX5_becomeEmpty_18 : decode cX5_becomeEmpty 18 = .ok (.goto (-16), 3) := by decide +kernel
theorem dX5_becomeEmpty_21 : decode cX5_becomeEmpty 21 = .ok (.aload_n 0, 1) := by decide +kernel
theorem dX5_becomeEmpty_22 : decode cX5_becomeEmpty 22 = .ok (.iconst 0, 1) := by decide +kernel
theorem dX5_becomeEmpty_23 : decode cX5_becomeEmpty 23 = .ok (.putfield 21, 3) := by decide +kernel
theorem dX5_becomeEmpty_26 : decode cX5_becomeEmpty 26 = .ok (.aload_n 0, 1) := by decide +kernel
theorem dX5_becomeEmpty_27 : decode cX5_becomeEmpty 27 = .ok (.iconst 0, 1) := by decide +kernel
theorem dX5_becomeEmpty_28 : decode cX5_becomeEmpty 28 = .ok (.putfield 25, 3) := by decide +kernel
theorem dX5_becomeEmpty_31 : decode cX5_becomeEmpty 31 = .ok (.aload_n 0, 1) := by decide +kernel
theorem dX5_becomeEmpty_32 : decode cX5_becomeEmpty 32 = .ok (.iconst 3, 1) := by decide +kernel
theorem dX5_becomeEmpty_33 : decode cX5_becomeEmpty 33 = .ok (.putfield 28, 3) := by decide +kernel
theorem dX5_becomeEmpty_36 : decode cX5_becomeEmpty 36 = .ok (.return_, 1) := by decide +kernel
theorem dX5_copyFrom_0 : decode cX5_copyFrom 0 = .ok (.aload_n 1, 1) := by decide +kernel
theorem dX5_copyFrom_1 : decode cX5_copyFrom 1 = .ok (.getfield 9, 3) := by decide +kernel
theorem dX5_copyFrom_4 : decode cX5_copyFrom 4 = .ok (.iconst 0, 1) := by decide +kernel
theorem dX5_copyFrom_5 : decode cX5_copyFrom 5 = .ok (.aload_n 0, 1) := by decide +kernel
theorem dX5_copyFrom_6 : decode cX5_copyFrom 6 = .ok (.getfield 9, 3) := by decide +kernel
theorem dX5_copyFrom_9 : decode cX5_copyFrom 9 = .ok (.iconst 0, 1) := by decide +kernel
theorem dX5_copyFrom_10 : decode cX5_copyFrom 10 = .ok (.bipush 24, 2) := by decide +kernel
theorem dX5_copyFrom_12 : decode cX5_copyFrom 12 = .ok (.invokestatic 35, 3) := by decide +kernel
theorem dX5_copyFrom_15 : decode cX5_copyFrom 15 = .ok (.iconst 0, 1) := by decide +kernel
theorem dX5_copyFrom_16 : decode cX5_copyFrom 16 = .ok (.istore_n 2, 1) := by decide +kernel
theorem dX5_copyFrom_17 : decode cX5_copyFrom 17 = .ok (.iload_n 2, 1) := by decide +kernel
theorem dX5_copyFrom_18 : decode cX5_copyFrom 18 = .ok (.aload_n 1, 1) := by decide +kernel
theorem dX5_copyFrom_19 : decode cX5_copyFrom 19 = .ok (.getfield 21, 3) := by decide +kernel
theorem dX5_copyFrom_22 : decode cX5_copyFrom 22 = .ok (.if_icmp .ge 24, 3) := by decide +kernel
theorem dX5_copyFrom_25 : decode cX5_copyFrom 25 = .ok (.aload_n 0, 1) := by decide +kernel
theorem dX5_copyFrom_26 : decode cX5_copyFrom 26 = .ok (.getfield 17, 3) := by decide +kernel
theorem dX5_copyFrom_29 : decode cX5_copyFrom 29 = .ok (.iload_n 2, 1) := by decide +kernel
theorem dX5_copyFrom_30 : decode cX5_copyFrom 30 = .ok (.aaload, 1) := by decide +kernel
theorem dX5_copyFrom_31 : decode cX5_copyFrom 31 = .ok (.aload_n 1, 1) := by decide +kernel
theorem dX5_copyFrom_32 : decode cX5_copyFrom 32 = .ok (.getfield 17, 3) := by decide +kernel
theorem dX5_copyFrom_35 : decode cX5_copyFrom 35 = .ok (.iload_n 2, 1) := by decide +kernel
theorem dX5_copyFrom_36 : decode cX5_copyFrom 36 = .ok (.aaload, 1) := by decide +kernel
theorem dX5_copyFrom_37 : decode cX5_copyFrom 37 = .ok (.invokevirtual 41, 3) := by decide +kernel
theorem dX5_copyFrom_40 : decode cX5_copyFrom 40 = .ok (.iinc 2 1, 3) := by decide +kernel
theorem dX5_copyFrom_43 : decode cX5_copyFrom 43 = .ok (.goto (-26), 3) := by decide +kernel
theorem dX5_copyFrom_46 : decode cX5_copyFrom 46 = .ok (.aload_n 0, 1) := by decide +kernel
theorem dX5_copyFrom_47 : decode cX5_copyFrom 47 = .ok (.aload_n 1, 1) := by decide +kernel
theorem dX5_copyFrom_48 : decode cX5_copyFrom 48 = .ok (.getfield 21, 3) := by decide +kernel
theorem dX5_copyFrom_51 : decode cX5_copyFrom 51 = .ok (.putfield 21, 3) := by decide +kernel
theorem dX5_copyFrom_54 : decode cX5_copyFrom 54 = .ok (.aload_n 0, 1) := by decide +kernel
theorem dX5_copyFrom_55 : decode cX5_copyFrom 55 = .ok (.aload_n 1, 1) := by decide +kernel
theorem dX5_copyFrom_56 : decode cX5_copyFrom 56 = .ok (.getfield 25, 3) := by decide +kernel
theorem dX5_copyFrom_59 : decode cX5_copyFrom 59 = .ok (.putfield 25, 3) := by decide +kernel
theorem dX5_copyFrom_62 : decode cX5_copyFrom 62 = .ok (.aload_n 0, 1) := by decide +kernel
theorem dX5_copyFrom_63 : decode cX5_copyFrom 63 = .ok (.aload_n 1, 1) := by decide +kernel
theorem dX5_copyFrom_64 : decode cX5_copyFrom 64 = .ok (.getfield 28, 3) := by decide +kernel
theorem dX5_copyFrom_67 : decode cX5_copyFrom 67 = .ok (.putfield 28, 3) := by decide +kernel
theorem dX5_copyFrom_70 : decode cX5_copyFrom 70 = .ok (.aload_n 0, 1) := by decide +kernel
theorem dX5_copyFrom_71 : decode cX5_copyFrom 71 = .ok (.aload_n 1, 1) := by decide +kernel
theorem dX5_copyFrom_72 : decode cX5_copyFrom 72 = .ok (.getfield 31, 3) := by decide +kernel
theorem dX5_copyFrom_75 : decode cX5_copyFrom 75 = .ok (.putfield 31, 3) := by decide +kernel
theorem dX5_copyFrom_78 : decode cX5_copyFrom 78 = .ok (.return_, 1) := by decide +kernel
theorem dX5_has_0 : decode cX5_has 0 = .ok (.iload_n 1, 1) := by decide +kernel
theorem dX5_has_1 : decode cX5_has 1 = .ok (.iconst 0, 1) := by decide +kernel
theorem dX5_has_2 : decode cX5_has 2 = .ok (.aload_n 0, 1) := by decide +kernel
theorem dX5_has_3 : decode cX5_has 3 = .ok (.getfield 21, 3) := by decide +kernel
theorem dX5_has_6 : decode cX5_has 6 = .ok (.iconst 1, 1) := by decide +kernel
theorem dX5_has_7 : decode cX5_has 7 = .ok (.isub, 1) := by decide +kernel
theorem dX5_has_8 : decode cX5_has 8 = .ok (.invokestatic 45, 3) := by decide +kernel
theorem dX5_has_11 : decode cX5_has 11 = .ok (.ireturn, 1) := by decide +kernel
theorem dX5_add_0 : decode cX5_add 0 = .ok (.aload_n 0, 1) := by decide +kernel
theorem dX5_add_1 : decode cX5_add 1 = .ok (.getfield 17, 3) := by decide +kernel
theorem dX5_add_4 : decode cX5_add 4 = .ok (.aload_n 0, 1) := by decide +kernel
theorem dX5_add_5 : decode cX5_add 5 = .ok (.getfield 21, 3) := by decide +kernel
theorem dX5_add_8 : decode cX5_add 8 = .ok (.aaload, 1) := by decide +kernel
theorem dX5_add_9 : decode cX5_add 9 = .ok (.iload_n 1, 1) := by decide +kernel
theorem dX5_add_10 : decode cX5_add 10 = .ok (.iload_n 2, 1) := by decide +kernel
theorem dX5_add_11 : decode cX5_add 11 = .ok (.iload_n 3, 1) := by decide +kernel
theorem dX5_add_12 : decode cX5_add 12 = .ok (.invokevirtual 49, 3) := by decide +kernel
theorem dX5_add_15 : decode cX5_add 15 = .ok (.aload_n 0, 1) := by decide +kernel
theorem dX5_add_16 : decode cX5_add 16 = .ok (.dup, 1) := by decide +kernel
theorem dX5_add_17 : decode cX5_add 17 = .ok (.getfield 21, 3) := by decide +kernel
theorem dX5_add_20 : decode cX5_add 20 = .ok (.iconst 1, 1) := by decide +kernel
theorem dX5_add_21 : decode cX5_add 21 = .ok (.iadd, 1) := by decide +kernel
theorem dX5_add_22 : decode cX5_add 22 = .ok (.putfield 21, 3) := by decide +kernel
theorem dX5_add_25 : decode cX5_add 25 = .ok (.return_, 1) := by decide +kernel
theorem dX5_hourNow_0 : decode cX5_hourNow 0 = .ok (.aload_n 0, 1) := by decide +kernel
theorem dX5_hourNow_1 : decode cX5_hourNow 1 = .ok (.getfield 25, 3) := by decide +kernel
theorem dX5_hourNow_4 : decode cX5_hourNow 4 = .ok (.bipush 24, 2) := by decide +kernel
theorem dX5_hourNow_6 : decode cX5_hourNow 6 = .ok (.irem, 1) := by decide +kernel
theorem dX5_hourNow_7 : decode cX5_hourNow 7 = .ok (.ireturn, 1) := by decide +kernel
theorem dX5_passHour_0 : decode cX5_passHour 0 = .ok (.aload_n 0, 1) := by decide +kernel
theorem dX5_passHour_1 : decode cX5_passHour 1 = .ok (.invokevirtual 53, 3) := by decide +kernel
theorem dX5_passHour_4 : decode cX5_passHour 4 = .ok (.istore_n 1, 1) := by decide +kernel
theorem dX5_passHour_5 : decode cX5_passHour 5 = .ok (.iconst 0, 1) := by decide +kernel
theorem dX5_passHour_6 : decode cX5_passHour 6 = .ok (.istore_n 2, 1) := by decide +kernel
theorem dX5_passHour_7 : decode cX5_passHour 7 = .ok (.iload_n 2, 1) := by decide +kernel
theorem dX5_passHour_8 : decode cX5_passHour 8 = .ok (.aload_n 0, 1) := by decide +kernel
theorem dX5_passHour_9 : decode cX5_passHour 9 = .ok (.getfield 21, 3) := by decide +kernel
theorem dX5_passHour_12 : decode cX5_passHour 12 = .ok (.if_icmp .ge 25, 3) := by decide +kernel
theorem dX5_passHour_15 : decode cX5_passHour 15 = .ok (.aload_n 0, 1) := by decide +kernel
theorem dX5_passHour_16 : decode cX5_passHour 16 = .ok (.getfield 17, 3) := by decide +kernel
theorem dX5_passHour_19 : decode cX5_passHour 19 = .ok (.iload_n 2, 1) := by decide +kernel
theorem dX5_passHour_20 : decode cX5_passHour 20 = .ok (.aaload, 1) := by decide +kernel
theorem dX5_passHour_21 : decode cX5_passHour 21 = .ok (.aload_n 0, 1) := by decide +kernel
theorem dX5_passHour_22 : decode cX5_passHour 22 = .ok (.getfield 9, 3) := by decide +kernel
theorem dX5_passHour_25 : decode cX5_passHour 25 = .ok (.iload_n 1, 1) := by decide +kernel
theorem dX5_passHour_26 : decode cX5_passHour 26 = .ok (.iaload, 1) := by decide +kernel
theorem dX5_passHour_27 : decode cX5_passHour 27 = .ok (.iload_n 1, 1) := by decide +kernel
theorem dX5_passHour_28 : decode cX5_passHour 28 = .ok (.invokevirtual 57, 3) := by decide +kernel
theorem dX5_passHour_31 : decode cX5_passHour 31 = .ok (.iinc 2 1, 3) := by decide +kernel
theorem dX5_passHour_34 : decode cX5_passHour 34 = .ok (.goto (-27), 3) := by decide +kernel
theorem dX5_passHour_37 : decode cX5_passHour 37 = .ok (.aload_n 0, 1) := by decide +kernel
theorem dX5_passHour_38 : decode cX5_passHour 38 = .ok (.dup, 1) := by decide +kernel
theorem dX5_passHour_39 : decode cX5_passHour 39 = .ok (.getfield 25, 3) := by decide +kernel
theorem dX5_passHour_42 : decode cX5_passHour 42 = .ok (.iconst 1, 1) := by decide +kernel
theorem dX5_passHour_43 : decode cX5_passHour 43 = .ok (.iadd, 1) := by decide +kernel
theorem dX5_passHour_44 : decode cX5_passHour 44 = .ok (.putfield 25, 3) := by decide +kernel
theorem dX5_passHour_47 : decode cX5_passHour 47 = .ok (.return_, 1) := by decide +kernel
theorem dX5_heightOf_0 : decode cX5_heightOf 0 = .ok (.aload_n 0, 1) := by decide +kernel
theorem dX5_heightOf_1 : decode cX5_heightOf 1 = .ok (.getfield 17, 3) := by decide +kernel
theorem dX5_heightOf_4 : decode cX5_heightOf 4 = .ok (.iload_n 1, 1) := by decide +kernel
theorem dX5_heightOf_5 : decode cX5_heightOf 5 = .ok (.aaload, 1) := by decide +kernel
theorem dX5_heightOf_6 : decode cX5_heightOf 6 = .ok (.getfield 61, 3) := by decide +kernel
theorem dX5_heightOf_9 : decode cX5_heightOf 9 = .ok (.iconst 3, 1) := by decide +kernel
theorem dX5_heightOf_10 : decode cX5_heightOf 10 = .ok (.iaload, 1) := by decide +kernel
theorem dX5_heightOf_11 : decode cX5_heightOf 11 = .ok (.ireturn, 1) := by decide +kernel
theorem dX5_shareColumn_0 : decode cX5_shareColumn 0 = .ok (.iload_n 1, 1) := by decide +kernel
theorem dX5_shareColumn_1 : decode cX5_shareColumn 1 = .ok (.iload_n 2, 1) := by decide +kernel
theorem dX5_shareColumn_2 : decode cX5_shareColumn 2 = .ok (.if_icmp .eq 32, 3) := by decide +kernel
theorem dX5_shareColumn_5 : decode cX5_shareColumn 5 = .ok (.aload_n 0, 1) := by decide +kernel
theorem dX5_shareColumn_6 : decode cX5_shareColumn 6 = .ok (.getfield 17, 3) := by decide +kernel
theorem dX5_shareColumn_9 : decode cX5_shareColumn 9 = .ok (.iload_n 1, 1) := by decide +kernel
theorem dX5_shareColumn_10 : decode cX5_shareColumn 10 = .ok (.aaload, 1) := by decide +kernel
theorem dX5_shareColumn_11 : decode cX5_shareColumn 11 = .ok (.getfield 61, 3) := by decide +kernel
theorem dX5_shareColumn_14 : decode cX5_shareColumn 14 = .ok (.iconst 2, 1) := by decide +kernel
theorem dX5_shareColumn_15 : decode cX5_shareColumn 15 = .ok (.iaload, 1) := by decide +kernel
theorem dX5_shareColumn_16 : decode cX5_shareColumn 16 = .ok (.aload_n 0, 1) := by decide +kernel
theorem dX5_shareColumn_17 : decode cX5_shareColumn 17 = .ok (.getfield 17, 3) := by decide +kernel
theorem dX5_shareColumn_20 : decode cX5_shareColumn 20 = .ok (.iload_n 2, 1) := by decide +kernel
theorem dX5_shareColumn_21 : decode cX5_shareColumn 21 = .ok (.aaload, 1) := by decide +kernel
theorem dX5_shareColumn_22 : decode cX5_shareColumn 22 = .ok (.getfield 61, 3) := by decide +kernel
theorem dX5_shareColumn_25 : decode cX5_shareColumn 25 = .ok (.iconst 2, 1) := by decide +kernel
theorem dX5_shareColumn_26 : decode cX5_shareColumn 26 = .ok (.iaload, 1) := by decide +kernel
theorem dX5_shareColumn_27 : decode cX5_shareColumn 27 = .ok (.if_icmp .ne 7, 3) := by decide +kernel
theorem dX5_shareColumn_30 : decode cX5_shareColumn 30 = .ok (.iconst 1, 1) := by decide +kernel
theorem dX5_shareColumn_31 : decode cX5_shareColumn 31 = .ok (.goto 4, 3) := by decide +kernel
theorem dX5_shareColumn_34 : decode cX5_shareColumn 34 = .ok (.iconst 0, 1) := by decide +kernel
theorem dX5_shareColumn_35 : decode cX5_shareColumn 35 = .ok (.ireturn, 1) := by decide +kernel
theorem dX5_tooNear_0 : decode cX5_tooNear 0 = .ok (.iload_n 1, 1) := by decide +kernel
theorem dX5_tooNear_1 : decode cX5_tooNear 1 = .ok (.ifCond .le 24, 3) := by decide +kernel
theorem dX5_tooNear_4 : decode cX5_tooNear 4 = .ok (.iload_n 2, 1) := by decide +kernel
theorem dX5_tooNear_5 : decode cX5_tooNear 5 = .ok (.ifCond .le 20, 3) := by decide +kernel
theorem dX5_tooNear_8 : decode cX5_tooNear 8 = .ok (.iload_n 1, 1) := by decide +kernel
theorem dX5_tooNear_9 : decode cX5_tooNear 9 = .ok (.iload_n 2, 1) := by decide +kernel
theorem dX5_tooNear_10 : decode cX5_tooNear 10 = .ok (.isub, 1) := by decide +kernel
theorem dX5_tooNear_11 : decode cX5_tooNear 11 = .ok (.invokestatic 64, 3) := by decide +kernel
theorem dX5_tooNear_14 : decode cX5_tooNear 14 = .ok (.aload_n 0, 1) := by decide +kernel
theorem dX5_tooNear_15 : decode cX5_tooNear 15 = .ok (.getfield 28, 3) := by decide +kernel
theorem dX5_tooNear_18 : decode cX5_tooNear 18 = .ok (.if_icmp .ge 7, 3) := by decide +kernel
theorem dX5_tooNear_21 : decode cX5_tooNear 21 = .ok (.iconst 1, 1) := by decide +kernel
theorem dX5_tooNear_22 : decode cX5_tooNear 22 = .ok (.goto 4, 3) := by decide +kernel
theorem dX5_tooNear_25 : decode cX5_tooNear 25 = .ok (.iconst 0, 1) := by decide +kernel
theorem dX5_tooNear_26 : decode cX5_tooNear 26 = .ok (.ireturn, 1) := by decide +kernel
theorem dX5_touchedBy_0 : decode cX5_touchedBy 0 = .ok (.iconst 0, 1) := by decide +kernel
theorem dX5_touchedBy_1 : decode cX5_touchedBy 1 = .ok (.istore_n 2, 1) := by decide +kernel
theorem dX5_touchedBy_2 : decode cX5_touchedBy 2 = .ok (.iconst 0, 1) := by decide +kernel
theorem dX5_touchedBy_3 : decode cX5_touchedBy 3 = .ok (.istore_n 3, 1) := by decide +kernel
theorem dX5_touchedBy_4 : decode cX5_touchedBy 4 = .ok (.iload_n 3, 1) := by decide +kernel
theorem dX5_touchedBy_5 : decode cX5_touchedBy 5 = .ok (.aload_n 0, 1) := by decide +kernel
theorem dX5_touchedBy_6 : decode cX5_touchedBy 6 = .ok (.getfield 21, 3) := by decide +kernel
theorem dX5_touchedBy_9 : decode cX5_touchedBy 9 = .ok (.if_icmp .ge 41, 3) := by decide +kernel
theorem dX5_touchedBy_12 : decode cX5_touchedBy 12 = .ok (.aload_n 0, 1) := by decide +kernel
theorem dX5_touchedBy_13 : decode cX5_touchedBy 13 = .ok (.iload_n 1, 1) := by decide +kernel
theorem dX5_touchedBy_14 : decode cX5_touchedBy 14 = .ok (.iload_n 3, 1) := by decide +kernel
theorem dX5_touchedBy_15 : decode cX5_touchedBy 15 = .ok (.invokevirtual 70, 3) := by decide +kernel
theorem dX5_touchedBy_18 : decode cX5_touchedBy 18 = .ok (.ifCond .eq 26, 3) := by decide +kernel
theorem dX5_touchedBy_21 : decode cX5_touchedBy 21 = .ok (.aload_n 0, 1) := by decide +kernel
theorem dX5_touchedBy_22 : decode cX5_touchedBy 22 = .ok (.aload_n 0, 1) := by decide +kernel
theorem dX5_touchedBy_23 : decode cX5_touchedBy 23 = .ok (.iload_n 1, 1) := by decide +kernel
theorem dX5_touchedBy_24 : decode cX5_touchedBy 24 = .ok (.invokevirtual 74, 3) := by decide +kernel
theorem dX5_touchedBy_27 : decode cX5_touchedBy 27 = .ok (.aload_n 0, 1) := by decide +kernel
theorem dX5_touchedBy_28 : decode cX5_touchedBy 28 = .ok (.iload_n 3, 1) := by decide +kernel
theorem dX5_touchedBy_29 : decode cX5_touchedBy 29 = .ok (.invokevirtual 74, 3) := by decide +kernel
theorem dX5_touchedBy_32 : decode cX5_touchedBy 32 = .ok (.invokevirtual 77, 3) := by decide +kernel
theorem dX5_touchedBy_35 : decode cX5_touchedBy 35 = .ok (.ifCond .eq 9, 3) := by decide +kernel
theorem dX5_touchedBy_38 : decode cX5_touchedBy 38 = .ok (.iload_n 2, 1) := by decide +kernel
theorem dX5_touchedBy_39 : decode cX5_touchedBy 39 = .ok (.iconst 1, 1) := by decide +kernel
theorem dX5_touchedBy_40 : decode cX5_touchedBy 40 = .ok (.iload_n 3, 1) := by decide +kernel
theorem dX5_touchedBy_41 : decode cX5_touchedBy 41 = .ok (.ishl, 1) := by decide +kernel
theorem dX5_touchedBy_42 : decode cX5_touchedBy 42 = .ok (.ior, 1) := by decide +kernel
theorem dX5_touchedBy_43 : decode cX5_touchedBy 43 = .ok (.istore_n 2, 1) := by decide +kernel
theorem dX5_touchedBy_44 : decode cX5_touchedBy 44 = .ok (.iinc 3 1, 3) := by decide +kernel
theorem dX5_touchedBy_47 : decode cX5_touchedBy 47 = .ok (.goto (-43), 3) := by decide +kernel
theorem dX5_touchedBy_50 : decode cX5_touchedBy 50 = .ok (.iload_n 2, 1) := by decide +kernel
theorem dX5_touchedBy_51 : decode cX5_touchedBy 51 = .ok (.ireturn, 1) := by decide +kernel
theorem dX5_touchingPairs_0 : decode cX5_touchingPairs 0 = .ok (.iconst 0, 1) := by decide +kernel
theorem dX5_touchingPairs_1 : decode cX5_touchingPairs 1 = .ok (.istore_n 1, 1) := by decide +kernel
theorem dX5_touchingPairs_2 : decode cX5_touchingPairs 2 = .ok (.iconst 0, 1) := by decide +kernel
theorem dX5_touchingPairs_3 : decode cX5_touchingPairs 3 = .ok (.istore_n 2, 1) := by decide +kernel
theorem dX5_touchingPairs_4 : decode cX5_touchingPairs 4 = .ok (.iload_n 2, 1) := by decide +kernel
theorem dX5_touchingPairs_5 : decode cX5_touchingPairs 5 = .ok (.aload_n 0, 1) := by decide +kernel
theorem dX5_touchingPairs_6 : decode cX5_touchingPairs 6 = .ok (.getfield 21, 3) := by decide +kernel
theorem dX5_touchingPairs_9 : decode cX5_touchingPairs 9 = .ok (.if_icmp .ge 20, 3) := by decide +kernel
theorem dX5_touchingPairs_12 : decode cX5_touchingPairs 12 = .ok (.iload_n 1, 1) := by decide +kernel
theorem dX5_touchingPairs_13 : decode cX5_touchingPairs 13 = .ok (.aload_n 0, 1) := by decide +kernel
theorem dX5_touchingPairs_14 : decode cX5_touchingPairs 14 = .ok (.iload_n 2, 1) := by decide +kernel
theorem dX5_touchingPairs_15 : decode cX5_touchingPairs 15 = .ok (.invokevirtual 80, 3) := by decide +kernel
theorem dX5_touchingPairs_18 : decode cX5_touchingPairs 18 = .ok (.invokestatic 83, 3) := by decide +kernel
theorem dX5_touchingPairs_21 : decode cX5_touchingPairs 21 = .ok (.iadd, 1) := by decide +kernel
theorem dX5_touchingPairs_22 : decode cX5_touchingPairs 22 = .ok (.istore_n 1, 1) := by decide +kernel
theorem dX5_touchingPairs_23 : decode cX5_touchingPairs 23 = .ok (.iinc 2 1, 3) := by decide +kernel
theorem dX5_touchingPairs_26 : decode cX5_touchingPairs 26 = .ok (.goto (-22), 3) := by decide +kernel
theorem dX5_touchingPairs_29 : decode cX5_touchingPairs 29 = .ok (.iload_n 1, 1) := by decide +kernel
theorem dX5_touchingPairs_30 : decode cX5_touchingPairs 30 = .ok (.iconst 2, 1) := by decide +kernel
theorem dX5_touchingPairs_31 : decode cX5_touchingPairs 31 = .ok (.idiv, 1) := by decide +kernel
theorem dX5_touchingPairs_32 : decode cX5_touchingPairs 32 = .ok (.ireturn, 1) := by decide +kernel
theorem dX5_hangsAbove_0 : decode cX5_hangsAbove 0 = .ok (.aload_n 0, 1) := by decide +kernel
theorem dX5_hangsAbove_1 : decode cX5_hangsAbove 1 = .ok (.iload_n 1, 1) := by decide +kernel
theorem dX5_hangsAbove_2 : decode cX5_hangsAbove 2 = .ok (.invokevirtual 74, 3) := by decide +kernel
theorem dX5_hangsAbove_5 : decode cX5_hangsAbove 5 = .ok (.aload_n 0, 1) := by decide +kernel
theorem dX5_hangsAbove_6 : decode cX5_hangsAbove 6 = .ok (.iload_n 2, 1) := by decide +kernel
theorem dX5_hangsAbove_7 : decode cX5_hangsAbove 7 = .ok (.invokevirtual 74, 3) := by decide +kernel
theorem dX5_hangsAbove_10 : decode cX5_hangsAbove 10 = .ok (.if_icmp .gt 21, 3) := by decide +kernel
theorem dX5_hangsAbove_13 : decode cX5_hangsAbove 13 = .ok (.aload_n 0, 1) := by decide +kernel
theorem dX5_hangsAbove_14 : decode cX5_hangsAbove 14 = .ok (.iload_n 1, 1) := by decide +kernel
theorem dX5_hangsAbove_15 : decode cX5_hangsAbove 15 = .ok (.invokevirtual 74, 3) := by decide +kernel
theorem dX5_hangsAbove_18 : decode cX5_hangsAbove 18 = .ok (.aload_n 0, 1) := by decide +kernel
theorem dX5_hangsAbove_19 : decode cX5_hangsAbove 19 = .ok (.iload_n 2, 1) := by decide +kernel
theorem dX5_hangsAbove_20 : decode cX5_hangsAbove 20 = .ok (.invokevirtual 74, 3) := by decide +kernel
theorem dX5_hangsAbove_23 : decode cX5_hangsAbove 23 = .ok (.if_icmp .ne 12, 3) := by decide +kernel
theorem dX5_hangsAbove_26 : decode cX5_hangsAbove 26 = .ok (.iload_n 1, 1) := by decide +kernel
theorem dX5_hangsAbove_27 : decode cX5_hangsAbove 27 = .ok (.iload_n 2, 1) := by decide +kernel
theorem dX5_hangsAbove_28 : decode cX5_hangsAbove 28 = .ok (.if_icmp .le 7, 3) := by decide +kernel
theorem dX5_hangsAbove_31 : decode cX5_hangsAbove 31 = .ok (.iconst 1, 1) := by decide +kernel
theorem dX5_hangsAbove_32 : decode cX5_hangsAbove 32 = .ok (.goto 4, 3) := by decide +kernel
theorem dX5_hangsAbove_35 : decode cX5_hangsAbove 35 = .ok (.iconst 0, 1) := by decide +kernel
theorem dX5_hangsAbove_36 : decode cX5_hangsAbove 36 = .ok (.ireturn, 1) := by decide +kernel
theorem dX5_nextAbove_0 : decode cX5_nextAbove 0 = .ok (.bipush (-3), 2) := by decide +kernel
theorem dX5_nextAbove_2 : decode cX5_nextAbove 2 = .ok (.istore_n 2, 1) := by decide +kernel
theorem dX5_nextAbove_3 : decode cX5_nextAbove 3 = .ok (.iconst 0, 1) := by decide +kernel
theorem dX5_nextAbove_4 : decode cX5_nextAbove 4 = .ok (.istore_n 3, 1) := by decide +kernel
theorem dX5_nextAbove_5 : decode cX5_nextAbove 5 = .ok (.iload_n 3, 1) := by decide +kernel
theorem dX5_nextAbove_6 : decode cX5_nextAbove 6 = .ok (.aload_n 0, 1) := by decide +kernel
theorem dX5_nextAbove_7 : decode cX5_nextAbove 7 = .ok (.getfield 21, 3) := by decide +kernel
theorem dX5_nextAbove_10 : decode cX5_nextAbove 10 = .ok (.if_icmp .ge 44, 3) := by decide +kernel
theorem dX5_nextAbove_13 : decode cX5_nextAbove 13 = .ok (.aload_n 0, 1) := by decide +kernel
theorem dX5_nextAbove_14 : decode cX5_nextAbove 14 = .ok (.iload_n 1, 1) := by decide +kernel
theorem dX5_nextAbove_15 : decode cX5_nextAbove 15 = .ok (.iload_n 3, 1) := by decide +kernel
theorem dX5_nextAbove_16 : decode cX5_nextAbove 16 = .ok (.invokevirtual 70, 3) := by decide +kernel
theorem dX5_nextAbove_19 : decode cX5_nextAbove 19 = .ok (.ifCond .eq 29, 3) := by decide +kernel
theorem dX5_nextAbove_22 : decode cX5_nextAbove 22 = .ok (.aload_n 0, 1) := by decide +kernel
theorem dX5_nextAbove_23 : decode cX5_nextAbove 23 = .ok (.iload_n 3, 1) := by decide +kernel
theorem dX5_nextAbove_24 : decode cX5_nextAbove 24 = .ok (.iload_n 1, 1) := by decide +kernel
theorem dX5_nextAbove_25 : decode cX5_nextAbove 25 = .ok (.invokevirtual 88, 3) := by decide +kernel
theorem dX5_nextAbove_28 : decode cX5_nextAbove 28 = .ok (.ifCond .eq 20, 3) := by decide +kernel
theorem dX5_nextAbove_31 : decode cX5_nextAbove 31 = .ok (.iload_n 2, 1) := by decide +kernel
theorem dX5_nextAbove_32 : decode cX5_nextAbove 32 = .ok (.bipush (-3), 2) := by decide +kernel
theorem dX5_nextAbove_34 : decode cX5_nextAbove 34 = .ok (.if_icmp .eq 12, 3) := by decide +kernel
theorem dX5_nextAbove_37 : decode cX5_nextAbove 37 = .ok (.aload_n 0, 1) := by decide +kernel
theorem dX5_nextAbove_38 : decode cX5_nextAbove 38 = .ok (.iload_n 2, 1) := by decide +kernel
theorem dX5_nextAbove_39 : decode cX5_nextAbove 39 = .ok (.iload_n 3, 1) := by decide +kernel
theorem dX5_nextAbove_40 : decode cX5_nextAbove 40 = .ok (.invokevirtual 88, 3) := by decide +kernel
theorem dX5_nextAbove_43 : decode cX5_nextAbove 43 = .ok (.ifCond .eq 5, 3) := by decide +kernel
theorem dX5_nextAbove_46 : decode cX5_nextAbove 46 = .ok (.iload_n 3, 1) := by decide +kernel
theorem dX5_nextAbove_47 : decode cX5_nextAbove 47 = .ok (.istore_n 2, 1) := by decide +kernel
theorem dX5_nextAbove_48 : decode cX5_nextAbove 48 = .ok (.iinc 3 1, 3) := by decide +kernel
theorem dX5_nextAbove_51 : decode cX5_nextAbove 51 = .ok (.goto (-46), 3) := by decide +kernel
theorem dX5_nextAbove_54 : decode cX5_nextAbove 54 = .ok (.iload_n 2, 1) := by decide +kernel
theorem dX5_nextAbove_55 : decode cX5_nextAbove 55 = .ok (.ireturn, 1) := by decide +kernel
theorem dX5_nextBelow_0 : decode cX5_nextBelow 0 = .ok (.bipush (-3), 2) := by decide +kernel
theorem dX5_nextBelow_2 : decode cX5_nextBelow 2 = .ok (.istore_n 2, 1) := by decide +kernel
theorem dX5_nextBelow_3 : decode cX5_nextBelow 3 = .ok (.iconst 0, 1) := by decide +kernel
theorem dX5_nextBelow_4 : decode cX5_nextBelow 4 = .ok (.istore_n 3, 1) := by decide +kernel
theorem dX5_nextBelow_5 : decode cX5_nextBelow 5 = .ok (.iload_n 3, 1) := by decide +kernel
theorem dX5_nextBelow_6 : decode cX5_nextBelow 6 = .ok (.aload_n 0, 1) := by decide +kernel
theorem dX5_nextBelow_7 : decode cX5_nextBelow 7 = .ok (.getfield 21, 3) := by decide +kernel
theorem dX5_nextBelow_10 : decode cX5_nextBelow 10 = .ok (.if_icmp .ge 44, 3) := by decide +kernel
theorem dX5_nextBelow_13 : decode cX5_nextBelow 13 = .ok (.aload_n 0, 1) := by decide +kernel
theorem dX5_nextBelow_14 : decode cX5_nextBelow 14 = .ok (.iload_n 1, 1) := by decide +kernel
theorem dX5_nextBelow_15 : decode cX5_nextBelow 15 = .ok (.iload_n 3, 1) := by decide +kernel
theorem dX5_nextBelow_16 : decode cX5_nextBelow 16 = .ok (.invokevirtual 70, 3) := by decide +kernel
theorem dX5_nextBelow_19 : decode cX5_nextBelow 19 = .ok (.ifCond .eq 29, 3) := by decide +kernel
theorem dX5_nextBelow_22 : decode cX5_nextBelow 22 = .ok (.aload_n 0, 1) := by decide +kernel
theorem dX5_nextBelow_23 : decode cX5_nextBelow 23 = .ok (.iload_n 1, 1) := by decide +kernel
theorem dX5_nextBelow_24 : decode cX5_nextBelow 24 = .ok (.iload_n 3, 1) := by decide +kernel
theorem dX5_nextBelow_25 : decode cX5_nextBelow 25 = .ok (.invokevirtual 88, 3) := by decide +kernel
theorem dX5_nextBelow_28 : decode cX5_nextBelow 28 = .ok (.ifCond .eq 20, 3) := by decide +kernel
theorem dX5_nextBelow_31 : decode cX5_nextBelow 31 = .ok (.iload_n 2, 1) := by decide +kernel
theorem dX5_nextBelow_32 : decode cX5_nextBelow 32 = .ok (.bipush (-3), 2) := by decide +kernel
theorem dX5_nextBelow_34 : decode cX5_nextBelow 34 = .ok (.if_icmp .eq 12, 3) := by decide +kernel
theorem dX5_nextBelow_37 : decode cX5_nextBelow 37 = .ok (.aload_n 0, 1) := by decide +kernel
theorem dX5_nextBelow_38 : decode cX5_nextBelow 38 = .ok (.iload_n 3, 1) := by decide +kernel
theorem dX5_nextBelow_39 : decode cX5_nextBelow 39 = .ok (.iload_n 2, 1) := by decide +kernel
theorem dX5_nextBelow_40 : decode cX5_nextBelow 40 = .ok (.invokevirtual 88, 3) := by decide +kernel
theorem dX5_nextBelow_43 : decode cX5_nextBelow 43 = .ok (.ifCond .eq 5, 3) := by decide +kernel
theorem dX5_nextBelow_46 : decode cX5_nextBelow 46 = .ok (.iload_n 3, 1) := by decide +kernel
theorem dX5_nextBelow_47 : decode cX5_nextBelow 47 = .ok (.istore_n 2, 1) := by decide +kernel
theorem dX5_nextBelow_48 : decode cX5_nextBelow 48 = .ok (.iinc 3 1, 3) := by decide +kernel
theorem dX5_nextBelow_51 : decode cX5_nextBelow 51 = .ok (.goto (-46), 3) := by decide +kernel
theorem dX5_nextBelow_54 : decode cX5_nextBelow 54 = .ok (.iload_n 2, 1) := by decide +kernel
theorem dX5_nextBelow_55 : decode cX5_nextBelow 55 = .ok (.ireturn, 1) := by decide +kernel
theorem dX5_reachedBy_0 : decode cX5_reachedBy 0 = .ok (.aload_n 0, 1) := by decide +kernel
theorem dX5_reachedBy_1 : decode cX5_reachedBy 1 = .ok (.iload_n 1, 1) := by decide +kernel
theorem dX5_reachedBy_2 : decode cX5_reachedBy 2 = .ok (.aload_n 0, 1) := by decide +kernel
theorem dX5_reachedBy_3 : decode cX5_reachedBy 3 = .ok (.iload_n 1, 1) := by decide +kernel
theorem dX5_reachedBy_4 : decode cX5_reachedBy 4 = .ok (.invokevirtual 91, 3) := by decide +kernel
theorem dX5_reachedBy_7 : decode cX5_reachedBy 7 = .ok (.invokevirtual 94, 3) := by decide +kernel
theorem dX5_reachedBy_10 : decode cX5_reachedBy 10 = .ok (.aload_n 0, 1) := by decide +kernel
theorem dX5_reachedBy_11 : decode cX5_reachedBy 11 = .ok (.iload_n 1, 1) := by decide +kernel
theorem dX5_reachedBy_12 : decode cX5_reachedBy 12 = .ok (.aload_n 0, 1) := by decide +kernel
theorem dX5_reachedBy_13 : decode cX5_reachedBy 13 = .ok (.iload_n 1, 1) := by decide +kernel
theorem dX5_reachedBy_14 : decode cX5_reachedBy 14 = .ok (.invokevirtual 98, 3) := by decide +kernel
theorem dX5_reachedBy_17 : decode cX5_reachedBy 17 = .ok (.invokevirtual 94, 3) := by decide +kernel
theorem dX5_reachedBy_20 : decode cX5_reachedBy 20 = .ok (.ior, 1) := by decide +kernel
theorem dX5_reachedBy_21 : decode cX5_reachedBy 21 = .ok (.ireturn, 1) := by decide +kernel
theorem dX5_inReach_0 : decode cX5_inReach 0 = .ok (.iload_n 2, 1) := by decide +kernel
theorem dX5_inReach_1 : decode cX5_inReach 1 = .ok (.bipush (-3), 2) := by decide +kernel
theorem dX5_inReach_3 : decode cX5_inReach 3 = .ok (.if_icmp .eq 22, 3) := by decide +kernel
theorem dX5_inReach_6 : decode cX5_inReach 6 = .ok (.aload_n 0, 1) := by decide +kernel
theorem dX5_inReach_7 : decode cX5_inReach 7 = .ok (.iload_n 1, 1) := by decide +kernel
theorem dX5_inReach_8 : decode cX5_inReach 8 = .ok (.invokevirtual 74, 3) := by decide +kernel
theorem dX5_inReach_11 : decode cX5_inReach 11 = .ok (.aload_n 0, 1) := by decide +kernel
theorem dX5_inReach_12 : decode cX5_inReach 12 = .ok (.iload_n 2, 1) := by decide +kernel
theorem dX5_inReach_13 : decode cX5_inReach 13 = .ok (.invokevirtual 74, 3) := by decide +kernel
theorem dX5_inReach_16 : decode cX5_inReach 16 = .ok (.isub, 1) := by decide +kernel
theorem dX5_inReach_17 : decode cX5_inReach 17 = .ok (.invokestatic 64, 3) := by decide +kernel
theorem dX5_inReach_20 : decode cX5_inReach 20 = .ok (.bipush 20, 2) := by decide +kernel
theorem dX5_inReach_22 : decode cX5_inReach 22 = .ok (.if_icmp .le 5, 3) := by decide +kernel
theorem dX5_inReach_25 : decode cX5_inReach 25 = .ok (.iconst 0, 1) := by decide +kernel
theorem dX5_inReach_26 : decode cX5_inReach 26 = .ok (.ireturn, 1) := by decide +kernel
theorem dX5_inReach_27 : decode cX5_inReach 27 = .ok (.iconst 1, 1) := by decide +kernel
theorem dX5_inReach_28 : decode cX5_inReach 28 = .ok (.iload_n 2, 1) := by decide +kernel
theorem dX5_inReach_29 : decode cX5_inReach 29 = .ok (.ishl, 1) := by decide +kernel
theorem dX5_inReach_30 : decode cX5_inReach 30 = .ok (.ireturn, 1) := by decide +kernel
theorem dX5_canGive_0 : decode cX5_canGive 0 = .ok (.aload_n 0, 1) := by decide +kernel
theorem dX5_canGive_1 : decode cX5_canGive 1 = .ok (.iload_n 1, 1) := by decide +kernel
theorem dX5_canGive_2 : decode cX5_canGive 2 = .ok (.invokevirtual 101, 3) := by decide +kernel
theorem dX5_canGive_5 : decode cX5_canGive 5 = .ok (.iload_n 2, 1) := by decide +kernel
theorem dX5_canGive_6 : decode cX5_canGive 6 = .ok (.ishr, 1) := by decide +kernel
theorem dX5_canGive_7 : decode cX5_canGive 7 = .ok (.iconst 1, 1) := by decide +kernel
theorem dX5_canGive_8 : decode cX5_canGive 8 = .ok (.iand, 1) := by decide +kernel
theorem dX5_canGive_9 : decode cX5_canGive 9 = .ok (.iconst 1, 1) := by decide +kernel
theorem dX5_canGive_10 : decode cX5_canGive 10 = .ok (.if_icmp .ne 45, 3) := by decide +kernel
theorem dX5_canGive_13 : decode cX5_canGive 13 = .ok (.aload_n 0, 1) := by decide +kernel
theorem dX5_canGive_14 : decode cX5_canGive 14 = .ok (.getfield 17, 3) := by decide +kernel
theorem dX5_canGive_17 : decode cX5_canGive 17 = .ok (.iload_n 1, 1) := by decide +kernel
theorem dX5_canGive_18 : decode cX5_canGive 18 = .ok (.aaload, 1) := by decide +kernel
theorem dX5_canGive_19 : decode cX5_canGive 19 = .ok (.getfield 61, 3) := by decide +kernel
theorem dX5_canGive_22 : decode cX5_canGive 22 = .ok (.iload_n 3, 1) := by decide +kernel
theorem dX5_canGive_23 : decode cX5_canGive 23 = .ok (.iaload, 1) := by decide +kernel
theorem dX5_canGive_24 : decode cX5_canGive 24 = .ok (.iload 4, 2) := by decide +kernel
theorem dX5_canGive_26 : decode cX5_canGive 26 = .ok (.if_icmp .lt 29, 3) := by decide +kernel
theorem dX5_canGive_29 : decode cX5_canGive 29 = .ok (.aload_n 0, 1) := by decide +kernel
theorem dX5_canGive_30 : decode cX5_canGive 30 = .ok (.getfield 17, 3) := by decide +kernel
theorem dX5_canGive_33 : decode cX5_canGive 33 = .ok (.iload_n 2, 1) := by decide +kernel
theorem dX5_canGive_34 : decode cX5_canGive 34 = .ok (.aaload, 1) := by decide +kernel
theorem dX5_canGive_35 : decode cX5_canGive 35 = .ok (.getfield 61, 3) := by decide +kernel
theorem dX5_canGive_38 : decode cX5_canGive 38 = .ok (.iload_n 3, 1) := by decide +kernel
theorem dX5_canGive_39 : decode cX5_canGive 39 = .ok (.iaload, 1) := by decide +kernel
theorem dX5_canGive_40 : decode cX5_canGive 40 = .ok (.iload 4, 2) := by decide +kernel
theorem dX5_canGive_42 : decode cX5_canGive 42 = .ok (.iadd, 1) := by decide +kernel
theorem dX5_canGive_43 : decode cX5_canGive 43 = .ok (.getstatic 104, 3) := by decide +kernel
theorem dX5_canGive_46 : decode cX5_canGive 46 = .ok (.iload_n 3, 1) := by decide +kernel
theorem dX5_canGive_47 : decode cX5_canGive 47 = .ok (.iaload, 1) := by decide +kernel
theorem dX5_canGive_48 : decode cX5_canGive 48 = .ok (.if_icmp .gt 7, 3) := by decide +kernel
theorem dX5_canGive_51 : decode cX5_canGive 51 = .ok (.iconst 1, 1) := by decide +kernel
theorem dX5_canGive_52 : decode cX5_canGive 52 = .ok (.goto 4, 3) := by decide +kernel
theorem dX5_canGive_55 : decode cX5_canGive 55 = .ok (.iconst 0, 1) := by decide +kernel
theorem dX5_canGive_56 : decode cX5_canGive 56 = .ok (.ireturn, 1) := by decide +kernel
theorem dX6_init_0 : decode cX6_init 0 = .ok (.aload_n 0, 1) := by decide +kernel
theorem dX6_init_1 : decode cX6_init 1 = .ok (.invokespecial 3, 3) := by decide +kernel
theorem dX6_init_4 : decode cX6_init 4 = .ok (.aload_n 0, 1) := by decide +kernel
theorem dX6_init_5 : decode cX6_init 5 = .ok (.new 9, 3) := by decide +kernel
theorem dX6_init_8 : decode cX6_init 8 = .ok (.dup, 1) := by decide +kernel
theorem dX6_init_9 : decode cX6_init 9 = .ok (.invokespecial 11, 3) := by decide +kernel
theorem dX6_init_12 : decode cX6_init 12 = .ok (.putfield 12, 3) := by decide +kernel
theorem dX6_init_15 : decode cX6_init 15 = .ok (.aload_n 0, 1) := by decide +kernel
theorem dX6_init_16 : decode cX6_init 16 = .ok (.bipush 6, 2) := by decide +kernel
theorem dX6_init_18 : decode cX6_init 18 = .ok (.bipush 49, 2) := by decide +kernel
theorem dX6_init_20 : decode cX6_init 20 = .ok (.multianewarray 18 2, 4) := by decide +kernel
theorem dX6_init_24 : decode cX6_init 24 = .ok (.putfield 20, 3) := by decide +kernel
theorem dX6_init_27 : decode cX6_init 27 = .ok (.aload_n 0, 1) := by decide +kernel
theorem dX6_init_28 : decode cX6_init 28 = .ok (.bipush 6, 2) := by decide +kernel
theorem dX6_init_30 : decode cX6_init 30 = .ok (.bipush 49, 2) := by decide +kernel
theorem dX6_init_32 : decode cX6_init 32 = .ok (.multianewarray 18 2, 4) := by decide +kernel
theorem dX6_init_36 : decode cX6_init 36 = .ok (.putfield 23, 3) := by decide +kernel
theorem dX6_init_39 : decode cX6_init 39 = .ok (.aload_n 0, 1) := by decide +kernel
theorem dX6_init_40 : decode cX6_init 40 = .ok (.iconst 0, 1) := by decide +kernel
theorem dX6_init_41 : decode cX6_init 41 = .ok (.putfield 26, 3) := by decide +kernel
theorem dX6_init_44 : decode cX6_init 44 = .ok (.aload_n 0, 1) := by decide +kernel
theorem dX6_init_45 : decode cX6_init 45 = .ok (.iconst 0, 1) := by decide +kernel
theorem dX6_init_46 : decode cX6_init 46 = .ok (.putfield 30, 3) := by decide +kernel
theorem dX6_init_49 : decode cX6_init 49 = .ok (.aload_n 0, 1) := by decide +kernel
theorem dX6_init_50 : decode cX6_init 50 = .ok (.aload_n 1, 1) := by decide +kernel
theorem dX6_init_51 : decode cX6_init 51 = .ok (.putfield 33, 3) := by decide +kernel
theorem dX6_init_54 : decode cX6_init 54 = .ok (.return_, 1) := by decide +kernel
theorem dX6_run_0 : decode cX6_run 0 = .ok (.aload_n 0, 1) := by decide +kernel
theorem dX6_run_1 : decode cX6_run 1 = .ok (.iload_n 1, 1) := by decide +kernel
theorem dX6_run_2 : decode cX6_run 2 = .ok (.bipush 96, 2) := by decide +kernel
theorem dX6_run_4 : decode cX6_run 4 = .ok (.aload_n 0, 1) := by decide +kernel
theorem dX6_run_5 : decode cX6_run 5 = .ok (.getfield 33, 3) := by decide +kernel
theorem dX6_run_8 : decode cX6_run 8 = .ok (.getfield 37, 3) := by decide +kernel
theorem dX6_run_11 : decode cX6_run 11 = .ok (.isub, 1) := by decide +kernel
theorem dX6_run_12 : decode cX6_run 12 = .ok (.invokestatic 42, 3) := by decide +kernel
theorem dX6_run_15 : decode cX6_run 15 = .ok (.putfield 30, 3) := by decide +kernel
theorem dX6_run_18 : decode cX6_run 18 = .ok (.aload_n 0, 1) := by decide +kernel
theorem dX6_run_19 : decode cX6_run 19 = .ok (.iload_n 2, 1) := by decide +kernel
theorem dX6_run_20 : decode cX6_run 20 = .ok (.putfield 26, 3) := by decide +kernel
theorem dX6_run_23 : decode cX6_run 23 = .ok (.iconst 0, 1) := by decide +kernel
theorem dX6_run_24 : decode cX6_run 24 = .ok (.istore_n 3, 1) := by decide +kernel
theorem dX6_run_25 : decode cX6_run 25 = .ok (.iload_n 3, 1) := by decide +kernel
theorem dX6_run_26 : decode cX6_run 26 = .ok (.aload_n 0, 1) := by decide +kernel
theorem dX6_run_27 : decode cX6_run 27 = .ok (.getfield 33, 3) := by decide +kernel
theorem dX6_run_30 : decode cX6_run 30 = .ok (.getfield 48, 3) := by decide +kernel
theorem dX6_run_33 : decode cX6_run 33 = .ok (.if_icmp .ge 31, 3) := by decide +kernel
theorem dX6_run_36 : decode cX6_run 36 = .ok (.aload_n 0, 1) := by decide +kernel
theorem dX6_run_37 : decode cX6_run 37 = .ok (.iload_n 3, 1) := by decide +kernel
theorem dX6_run_38 : decode cX6_run 38 = .ok (.bipush 6, 2) := by decide +kernel
theorem dX6_run_40 : decode cX6_run 40 = .ok (.aload_n 0, 1) := by decide +kernel
theorem dX6_run_41 : decode cX6_run 41 = .ok (.getfield 33, 3) := by decide +kernel
theorem dX6_run_44 : decode cX6_run 44 = .ok (.getfield 51, 3) := by decide +kernel
theorem dX6_run_47 : decode cX6_run 47 = .ok (.iload_n 3, 1) := by decide +kernel
theorem dX6_run_48 : decode cX6_run 48 = .ok (.aaload, 1) := by decide +kernel
theorem dX6_run_49 : decode cX6_run 49 = .ok (.getfield 55, 3) := by decide +kernel
theorem dX6_run_52 : decode cX6_run 52 = .ok (.bipush 6, 2) := by decide +kernel
theorem dX6_run_54 : decode cX6_run 54 = .ok (.iaload, 1) := by decide +kernel
theorem dX6_run_55 : decode cX6_run 55 = .ok (.invokevirtual 59, 3) := by decide +kernel
theorem dX6_run_58 : decode cX6_run 58 = .ok (.iinc 3 1, 3) := by decide +kernel
theorem dX6_run_61 : decode cX6_run 61 = .ok (.goto (-36), 3) := by decide +kernel
theorem dX6_run_64 : decode cX6_run 64 = .ok (.return_, 1) := by decide +kernel
theorem dX6_followWith_0 : decode cX6_followWith 0 = .ok (.aload_n 0, 1) := by decide +kernel
theorem dX6_followWith_1 : decode cX6_followWith 1 = .ok (.getfield 12, 3) := by decide +kernel
theorem dX6_followWith_4 : decode cX6_followWith 4 = .ok (.aload_n 0, 1) := by decide +kernel
theorem dX6_followWith_5 : decode cX6_followWith 5 = .ok (.getfield 33, 3) := by decide +kernel
theorem dX6_followWith_8 : decode cX6_followWith 8 = .ok (.getfield 51, 3) := by decide +kernel
theorem dX6_followWith_11 : decode cX6_followWith 11 = .ok (.iload_n 1, 1) := by decide +kernel
theorem dX6_followWith_12 : decode cX6_followWith 12 = .ok (.aaload, 1) := by decide +kernel
theorem dX6_followWith_13 : decode cX6_followWith 13 = .ok (.invokevirtual 63, 3) := by decide +kernel
theorem dX6_followWith_16 : decode cX6_followWith 16 = .ok (.aload_n 0, 1) := by decide +kernel
theorem dX6_followWith_17 : decode cX6_followWith 17 = .ok (.getfield 12, 3) := by decide +kernel
theorem dX6_followWith_20 : decode cX6_followWith 20 = .ok (.getfield 55, 3) := by decide +kernel
theorem dX6_followWith_23 : decode cX6_followWith 23 = .ok (.iload_n 2, 1) := by decide +kernel
theorem dX6_followWith_24 : decode cX6_followWith 24 = .ok (.iload_n 3, 1) := by decide +kernel
theorem dX6_followWith_25 : decode cX6_followWith 25 = .ok (.iastore, 1) := by decide +kernel
theorem dX6_followWith_26 : decode cX6_followWith 26 = .ok (.aload_n 0, 1) := by decide +kernel
theorem dX6_followWith_27 : decode cX6_followWith 27 = .ok (.iload_n 1, 1) := by decide +kernel
theorem dX6_followWith_28 : decode cX6_followWith 28 = .ok (.iconst 0, 1) := by decide +kernel
theorem dX6_followWith_29 : decode cX6_followWith 29 = .ok (.invokevirtual 67, 3) := by decide +kernel
theorem dX6_followWith_32 : decode cX6_followWith 32 = .ok (.iconst 1, 1) := by decide +kernel
theorem dX6_followWith_33 : decode cX6_followWith 33 = .ok (.istore 4, 2) := by decide +kernel
theorem dX6_followWith_35 : decode cX6_followWith 35 = .ok (.iload 4, 2) := by decide +kernel
theorem dX6_followWith_37 : decode cX6_followWith 37 = .ok (.aload_n 0, 1) := by decide +kernel
theorem dX6_followWith_38 : decode cX6_followWith 38 = .ok (.getfield 30, 3) := by decide +kernel
theorem dX6_followWith_41 : decode cX6_followWith 41 = .ok (.if_icmp .gt 22, 3) := by decide +kernel
theorem dX6_followWith_44 : decode cX6_followWith 44 = .ok (.aload_n 0, 1) := by decide +kernel
theorem dX6_followWith_45 : decode cX6_followWith 45 = .ok (.iload 4, 2) := by decide +kernel
theorem dX6_followWith_47 : decode cX6_followWith 47 = .ok (.invokevirtual 71, 3) := by decide +kernel
theorem dX6_followWith_50 : decode cX6_followWith 50 = .ok (.aload_n 0, 1) := by decide +kernel
theorem dX6_followWith_51 : decode cX6_followWith 51 = .ok (.iload_n 1, 1) := by decide +kernel
theorem dX6_followWith_52 : decode cX6_followWith 52 = .ok (.iload 4, 2) := by decide +kernel
theorem dX6_followWith_54 : decode cX6_followWith 54 = .ok (.invokevirtual 67, 3) := by decide +kernel
theorem dX6_followWith_57 : decode cX6_followWith 57 = .ok (.iinc 4 1, 3) := by decide +kernel
theorem dX6_followWith_60 : decode cX6_followWith 60 = .ok (.goto (-25), 3) := by decide +kernel
theorem dX6_followWith_63 : decode cX6_followWith 63 = .ok (.return_, 1) := by decide +kernel
theorem dX6_step_0 : decode cX6_step 0 = .ok (.aload_n 0, 1) := by decide +kernel
theorem dX6_step_1 : decode cX6_step 1 = .ok (.getfield 33, 3) := by decide +kernel
theorem dX6_step_4 : decode cX6_step 4 = .ok (.getfield 37, 3) := by decide +kernel
theorem dX6_step_7 : decode cX6_step 7 = .ok (.iload_n 1, 1) := by decide +kernel
theorem dX6_step_8 : decode cX6_step 8 = .ok (.iadd, 1) := by decide +kernel
theorem dX6_step_9 : decode cX6_step 9 = .ok (.iconst 1, 1) := by decide +kernel
theorem dX6_step_10 : decode cX6_step 10 = .ok (.isub, 1) := by decide +kernel
theorem dX6_step_11 : decode cX6_step 11 = .ok (.bipush 24, 2) := by decide +kernel
theorem dX6_step_13 : decode cX6_step 13 = .ok (.irem, 1) := by decide +kernel
theorem dX6_step_14 : decode cX6_step 14 = .ok (.istore_n 2, 1) := by decide +kernel
theorem dX6_step_15 : decode cX6_step 15 = .ok (.aload_n 0, 1) := by decide +kernel
theorem dX6_step_16 : decode cX6_step 16 = .ok (.getfield 12, 3) := by decide +kernel
theorem dX6_step_19 : decode cX6_step 19 = .ok (.aload_n 0, 1) := by decide +kernel
theorem dX6_step_20 : decode cX6_step 20 = .ok (.getfield 33, 3) := by decide +kernel
theorem dX6_step_23 : decode cX6_step 23 = .ok (.getfield 75, 3) := by decide +kernel
theorem dX6_step_26 : decode cX6_step 26 = .ok (.iload_n 2, 1) := by decide +kernel
theorem dX6_step_27 : decode cX6_step 27 = .ok (.iaload, 1) := by decide +kernel
theorem dX6_step_28 : decode cX6_step 28 = .ok (.aload_n 0, 1) := by decide +kernel
theorem dX6_step_29 : decode cX6_step 29 = .ok (.getfield 26, 3) := by decide +kernel
theorem dX6_step_32 : decode cX6_step 32 = .ok (.isub, 1) := by decide +kernel
theorem dX6_step_33 : decode cX6_step 33 = .ok (.iload_n 2, 1) := by decide +kernel
theorem dX6_step_34 : decode cX6_step 34 = .ok (.invokevirtual 78, 3) := by decide +kernel
theorem dX6_step_37 : decode cX6_step 37 = .ok (.return_, 1) := by decide +kernel
theorem dX6_note_0 : decode cX6_note 0 = .ok (.aload_n 0, 1) := by decide +kernel
theorem dX6_note_1 : decode cX6_note 1 = .ok (.getfield 20, 3) := by decide +kernel
theorem dX6_note_4 : decode cX6_note 4 = .ok (.iload_n 1, 1) := by decide +kernel
theorem dX6_note_5 : decode cX6_note 5 = .ok (.aaload, 1) := by decide +kernel
theorem dX6_note_6 : decode cX6_note 6 = .ok (.iload_n 2, 1) := by decide +kernel
theorem dX6_note_7 : decode cX6_note 7 = .ok (.aload_n 0, 1) := by decide +kernel
theorem dX6_note_8 : decode cX6_note 8 = .ok (.getfield 12, 3) := by decide +kernel
theorem dX6_note_11 : decode cX6_note 11 = .ok (.getfield 55, 3) := by decide +kernel
theorem dX6_note_14 : decode cX6_note 14 = .ok (.iconst 3, 1) := by decide +kernel
theorem dX6_note_15 : decode cX6_note 15 = .ok (.iaload, 1) := by decide +kernel
theorem dX6_note_16 : decode cX6_note 16 = .ok (.iastore, 1) := by decide +kernel
theorem dX6_note_17 : decode cX6_note 17 = .ok (.aload_n 0, 1) := by decide +kernel
theorem dX6_note_18 : decode cX6_note 18 = .ok (.getfield 23, 3) := by decide +kernel
theorem dX6_note_21 : decode cX6_note 21 = .ok (.iload_n 1, 1) := by decide +kernel
theorem dX6_note_22 : decode cX6_note 22 = .ok (.aaload, 1) := by decide +kernel
theorem dX6_note_23 : decode cX6_note 23 = .ok (.iload_n 2, 1) := by decide +kernel
theorem dX6_note_24 : decode cX6_note 24 = .ok (.aload_n 0, 1) := by decide +kernel
theorem dX6_note_25 : decode cX6_note 25 = .ok (.getfield 12, 3) := by decide +kernel
theorem dX6_note_28 : decode cX6_note 28 = .ok (.getfield 55, 3) := by decide +kernel
theorem dX6_note_31 : decode cX6_note 31 = .ok (.iconst 5, 1) := by decide +kernel
theorem dX6_note_32 : decode cX6_note 32 = .ok (.iaload, 1) := by decide +kernel
theorem dX6_note_33 : decode cX6_note 33 = .ok (.iastore, 1) := by decide +kernel
theorem dX6_note_34 : decode cX6_note 34 = .ok (.return_, 1) := by decide +kernel
theorem dX6_near_0 : decode cX6_near 0 = .ok (.aload_n 0, 1) := by decide +kernel
theorem dX6_near_1 : decode cX6_near 1 = .ok (.getfield 33, 3) := by decide +kernel
theorem dX6_near_4 : decode cX6_near 4 = .ok (.aload_n 0, 1) := by decide +kernel
theorem dX6_near_5 : decode cX6_near 5 = .ok (.getfield 20, 3) := by decide +kernel
theorem dX6_near_8 : decode cX6_near 8 = .ok (.iload_n 1, 1) := by decide +kernel
theorem dX6_near_9 : decode cX6_near 9 = .ok (.aaload, 1) := by decide +kernel
theorem dX6_near_10 : decode cX6_near 10 = .ok (.iload_n 3, 1) := by decide +kernel
theorem dX6_near_11 : decode cX6_near 11 = .ok (.iaload, 1) := by decide +kernel
theorem dX6_near_12 : decode cX6_near 12 = .ok (.aload_n 0, 1) := by decide +kernel
theorem dX6_near_13 : decode cX6_near 13 = .ok (.getfield 20, 3) := by decide +kernel
theorem dX6_near_16 : decode cX6_near 16 = .ok (.iload_n 2, 1) := by decide +kernel
theorem dX6_near_17 : decode cX6_near 17 = .ok (.aaload, 1) := by decide +kernel
theorem dX6_near_18 : decode cX6_near 18 = .ok (.iload_n 3, 1) := by decide +kernel
theorem dX6_near_19 : decode cX6_near 19 = .ok (.iaload, 1) := by decide +kernel
theorem dX6_near_20 : decode cX6_near 20 = .ok (.invokevirtual 81, 3) := by decide +kernel
theorem dX6_near_23 : decode cX6_near 23 = .ok (.ireturn, 1) := by decide +kernel
theorem dX6_touchedIn_0 : decode cX6_touchedIn 0 = .ok (.iconst 0, 1) := by decide +kernel
theorem dX6_touchedIn_1 : decode cX6_touchedIn 1 = .ok (.istore 4, 2) := by decide +kernel
theorem dX6_touchedIn_3 : decode cX6_touchedIn 3 = .ok (.iconst 0, 1) := by decide +kernel
theorem dX6_touchedIn_4 : decode cX6_touchedIn 4 = .ok (.istore 5, 2) := by decide +kernel
theorem dX6_touchedIn_6 : decode cX6_touchedIn 6 = .ok (.iload 5, 2) := by decide +kernel
theorem dX6_touchedIn_8 : decode cX6_touchedIn 8 = .ok (.aload_n 0, 1) := by decide +kernel
theorem dX6_touchedIn_9 : decode cX6_touchedIn 9 = .ok (.getfield 33, 3) := by decide +kernel
theorem dX6_touchedIn_12 : decode cX6_touchedIn 12 = .ok (.getfield 48, 3) := by decide +kernel
theorem dX6_touchedIn_15 : decode cX6_touchedIn 15 = .ok (.if_icmp .ge 48, 3) := by decide +kernel
theorem dX6_touchedIn_18 : decode cX6_touchedIn 18 = .ok (.iload 5, 2) := by decide +kernel
theorem dX6_touchedIn_20 : decode cX6_touchedIn 20 = .ok (.iload_n 1, 1) := by decide +kernel
theorem dX6_touchedIn_21 : decode cX6_touchedIn 21 = .ok (.if_icmp .eq 36, 3) := by decide +kernel
theorem dX6_touchedIn_24 : decode cX6_touchedIn 24 = .ok (.aload_n 0, 1) := by decide +kernel
theorem dX6_touchedIn_25 : decode cX6_touchedIn 25 = .ok (.getfield 33, 3) := by decide +kernel
theorem dX6_touchedIn_28 : decode cX6_touchedIn 28 = .ok (.getfield 51, 3) := by decide +kernel
theorem dX6_touchedIn_31 : decode cX6_touchedIn 31 = .ok (.iload 5, 2) := by decide +kernel
theorem dX6_touchedIn_33 : decode cX6_touchedIn 33 = .ok (.aaload, 1) := by decide +kernel
theorem dX6_touchedIn_34 : decode cX6_touchedIn 34 = .ok (.getfield 55, 3) := by decide +kernel
theorem dX6_touchedIn_37 : decode cX6_touchedIn 37 = .ok (.iconst 2, 1) := by decide +kernel
theorem dX6_touchedIn_38 : decode cX6_touchedIn 38 = .ok (.iaload, 1) := by decide +kernel
theorem dX6_touchedIn_39 : decode cX6_touchedIn 39 = .ok (.iload_n 2, 1) := by decide +kernel
theorem dX6_touchedIn_40 : decode cX6_touchedIn 40 = .ok (.if_icmp .ne 17, 3) := by decide +kernel
theorem dX6_touchedIn_43 : decode cX6_touchedIn 43 = .ok (.aload_n 0, 1) := by decide +kernel
theorem dX6_touchedIn_44 : decode cX6_touchedIn 44 = .ok (.iload_n 1, 1) := by decide +kernel
theorem dX6_touchedIn_45 : decode cX6_touchedIn 45 = .ok (.iload 5, 2) := by decide +kernel
theorem dX6_touchedIn_47 : decode cX6_touchedIn 47 = .ok (.iload_n 3, 1) := by decide +kernel
theorem dX6_touchedIn_48 : decode cX6_touchedIn 48 = .ok (.invokevirtual 85, 3) := by decide +kernel
theorem dX6_touchedIn_51 : decode cX6_touchedIn 51 = .ok (.ifCond .eq 6, 3) := by decide +kernel
theorem dX6_touchedIn_54 : decode cX6_touchedIn 54 = .ok (.iinc 4 1, 3) := by decide +kernel
theorem dX6_touchedIn_57 : decode cX6_touchedIn 57 = .ok (.iinc 5 1, 3) := by decide +kernel
theorem dX6_touchedIn_60 : decode cX6_touchedIn 60 = .ok (.goto (-54), 3) := by decide +kernel
theorem dX6_touchedIn_63 : decode cX6_touchedIn 63 = .ok (.iload 4, 2) := by decide +kernel
theorem dX6_touchedIn_65 : decode cX6_touchedIn 65 = .ok (.ireturn, 1) := by decide +kernel
theorem dX6_isClearIn_0 : decode cX6_isClearIn 0 = .ok (.iconst 0, 1) := by decide +kernel
theorem dX6_isClearIn_1 : decode cX6_isClearIn 1 = .ok (.istore_n 3, 1) := by decide +kernel
theorem dX6_isClearIn_2 : decode cX6_isClearIn 2 = .ok (.iload_n 3, 1) := by decide +kernel
theorem dX6_isClearIn_3 : decode cX6_isClearIn 3 = .ok (.aload_n 0, 1) := by decide +kernel
theorem dX6_isClearIn_4 : decode cX6_isClearIn 4 = .ok (.getfield 30, 3) := by decide +kernel
theorem dX6_isClearIn_7 : decode cX6_isClearIn 7 = .ok (.if_icmp .gt 21, 3) := by decide +kernel
theorem dX6_isClearIn_10 : decode cX6_isClearIn 10 = .ok (.aload_n 0, 1) := by decide +kernel
theorem dX6_isClearIn_11 : decode cX6_isClearIn 11 = .ok (.iload_n 1, 1) := by decide +kernel
theorem dX6_isClearIn_12 : decode cX6_isClearIn 12 = .ok (.iload_n 2, 1) := by decide +kernel
theorem dX6_isClearIn_13 : decode cX6_isClearIn 13 = .ok (.iload_n 3, 1) := by decide +kernel
theorem dX6_isClearIn_14 : decode cX6_isClearIn 14 = .ok (.invokevirtual 89, 3) := by decide +kernel
theorem dX6_isClearIn_17 : decode cX6_isClearIn 17 = .ok (.ifCond .le 5, 3) := by decide +kernel
theorem dX6_isClearIn_20 : decode cX6_isClearIn 20 = .ok (.iconst 0, 1) := by decide +kernel
theorem dX6_isClearIn_21 : decode cX6_isClearIn 21 = .ok (.ireturn, 1) := by decide +kernel
theorem dX6_isClearIn_22 : decode cX6_isClearIn 22 = .ok (.iinc 3 1, 3) := by decide +kernel
theorem dX6_isClearIn_25 : decode cX6_isClearIn 25 = .ok (.goto (-23), 3) := by decide +kernel
theorem dX6_isClearIn_28 : decode cX6_isClearIn 28 = .ok (.iconst 1, 1) := by decide +kernel
theorem dX6_isClearIn_29 : decode cX6_isClearIn 29 = .ok (.ireturn, 1) := by decide +kernel
theorem dX6_isClearWith_0 : decode cX6_isClearWith 0 = .ok (.aload_n 0, 1) := by decide +kernel
theorem dX6_isClearWith_1 : decode cX6_isClearWith 1 = .ok (.getfield 33, 3) := by decide +kernel
theorem dX6_isClearWith_4 : decode cX6_isClearWith 4 = .ok (.getfield 51, 3) := by decide +kernel
theorem dX6_isClearWith_7 : decode cX6_isClearWith 7 = .ok (.iload_n 1, 1) := by decide +kernel
theorem dX6_isClearWith_8 : decode cX6_isClearWith 8 = .ok (.aaload, 1) := by decide +kernel
theorem dX6_isClearWith_9 : decode cX6_isClearWith 9 = .ok (.getfield 55, 3) := by decide +kernel
theorem dX6_isClearWith_12 : decode cX6_isClearWith 12 = .ok (.iconst 2, 1) := by decide +kernel
theorem dX6_isClearWith_13 : decode cX6_isClearWith 13 = .ok (.iaload, 1) := by decide +kernel
theorem dX6_isClearWith_14 : decode cX6_isClearWith 14 = .ok (.istore 4, 2) := by decide +kernel
theorem dX6_isClearWith_16 : decode cX6_isClearWith 16 = .ok (.aload_n 0, 1) := by decide +kernel
theorem dX6_isClearWith_17 : decode cX6_isClearWith 17 = .ok (.getfield 12, 3) := by decide +kernel
theorem dX6_isClearWith_20 : decode cX6_isClearWith 20 = .ok (.aload_n 0, 1) := by decide +kernel
theorem dX6_isClearWith_21 : decode cX6_isClearWith 21 = .ok (.getfield 33, 3) := by decide +kernel
theorem dX6_isClearWith_24 : decode cX6_isClearWith 24 = .ok (.getfield 51, 3) := by decide +kernel
theorem dX6_isClearWith_27 : decode cX6_isClearWith 27 = .ok (.iload_n 1, 1) := by decide +kernel
theorem dX6_isClearWith_28 : decode cX6_isClearWith 28 = .ok (.aaload, 1) := by decide +kernel
theorem dX6_isClearWith_29 : decode cX6_isClearWith 29 = .ok (.invokevirtual 63, 3) := by decide +kernel
theorem dX6_isClearWith_32 : decode cX6_isClearWith 32 = .ok (.aload_n 0, 1) := by decide +kernel
theorem dX6_isClearWith_33 : decode cX6_isClearWith 33 = .ok (.getfield 12, 3) := by decide +kernel
theorem dX6_isClearWith_36 : decode cX6_isClearWith 36 = .ok (.getfield 55, 3) := by decide +kernel
theorem dX6_isClearWith_39 : decode cX6_isClearWith 39 = .ok (.iload_n 2, 1) := by decide +kernel
theorem dX6_isClearWith_40 : decode cX6_isClearWith 40 = .ok (.iload_n 3, 1) := by decide +kernel
theorem dX6_isClearWith_41 : decode cX6_isClearWith 41 = .ok (.iastore, 1) := by decide +kernel
theorem dX6_isClearWith_42 : decode cX6_isClearWith 42 = .ok (.iconst 0, 1) := by decide +kernel
theorem dX6_isClearWith_43 : decode cX6_isClearWith 43 = .ok (.istore 5, 2) := by decide +kernel
theorem dX6_isClearWith_45 : decode cX6_isClearWith 45 = .ok (.iload 5, 2) := by decide +kernel
theorem dX6_isClearWith_47 : decode cX6_isClearWith 47 = .ok (.aload_n 0, 1) := by decide +kernel
theorem dX6_isClearWith_48 : decode cX6_isClearWith 48 = .ok (.getfield 30, 3) := by decide +kernel
theorem dX6_isClearWith_51 : decode cX6_isClearWith 51 = .ok (.if_icmp .gt 41, 3) := by decide +kernel
theorem dX6_isClearWith_54 : decode cX6_isClearWith 54 = .ok (.iload 5, 2) := by decide +kernel
theorem dX6_isClearWith_56 : decode cX6_isClearWith 56 = .ok (.ifCond .le 9, 3) := by decide +kernel
theorem dX6_isClearWith_59 : decode cX6_isClearWith 59 = .ok (.aload_n 0, 1) := by decide +kernel
theorem dX6_isClearWith_60 : decode cX6_isClearWith 60 = .ok (.iload 5, 2) := by decide +kernel
theorem dX6_isClearWith_62 : decode cX6_isClearWith 62 = .ok (.invokevirtual 71, 3) := by decide +kernel
theorem dX6_isClearWith_65 : decode cX6_isClearWith 65 = .ok (.aload_n 0, 1) := by decide +kernel
theorem dX6_isClearWith_66 : decode cX6_isClearWith 66 = .ok (.iload_n 1, 1) := by decide +kernel
theorem dX6_isClearWith_67 : decode cX6_isClearWith 67 = .ok (.iload 5, 2) := by decide +kernel
theorem dX6_isClearWith_69 : decode cX6_isClearWith 69 = .ok (.invokevirtual 67, 3) := by decide +kernel
theorem dX6_isClearWith_72 : decode cX6_isClearWith 72 = .ok (.aload_n 0, 1) := by decide +kernel
theorem dX6_isClearWith_73 : decode cX6_isClearWith 73 = .ok (.iload_n 1, 1) := by decide +kernel
theorem dX6_isClearWith_74 : decode cX6_isClearWith 74 = .ok (.iload 4, 2) := by decide +kernel
theorem dX6_isClearWith_76 : decode cX6_isClearWith 76 = .ok (.iload 5, 2) := by decide +kernel
theorem dX6_isClearWith_78 : decode cX6_isClearWith 78 = .ok (.invokevirtual 89, 3) := by decide +kernel
theorem dX6_isClearWith_81 : decode cX6_isClearWith 81 = .ok (.ifCond .le 5, 3) := by decide +kernel
theorem dX6_isClearWith_84 : decode cX6_isClearWith 84 = .ok (.iconst 0, 1) := by decide +kernel
theorem dX6_isClearWith_85 : decode cX6_isClearWith 85 = .ok (.ireturn, 1) := by decide +kernel
theorem dX6_isClearWith_86 : decode cX6_isClearWith 86 = .ok (.iinc 5 1, 3) := by decide +kernel
theorem dX6_isClearWith_89 : decode cX6_isClearWith 89 = .ok (.goto (-44), 3) := by decide +kernel
theorem dX6_isClearWith_92 : decode cX6_isClearWith 92 = .ok (.iconst 1, 1) := by decide +kernel
theorem dX6_isClearWith_93 : decode cX6_isClearWith 93 = .ok (.ireturn, 1) := by decide +kernel
theorem dX6_leastPair_0 : decode cX6_leastPair 0 = .ok (.iconst 0, 1) := by decide +kernel
theorem dX6_leastPair_1 : decode cX6_leastPair 1 = .ok (.istore_n 2, 1) := by decide +kernel
theorem dX6_leastPair_2 : decode cX6_leastPair 2 = .ok (.iload_n 2, 1) := by decide +kernel
theorem dX6_leastPair_3 : decode cX6_leastPair 3 = .ok (.aload_n 0, 1) := by decide +kernel
theorem dX6_leastPair_4 : decode cX6_leastPair 4 = .ok (.getfield 33, 3) := by decide +kernel
theorem dX6_leastPair_7 : decode cX6_leastPair 7 = .ok (.getfield 48, 3) := by decide +kernel
theorem dX6_leastPair_10 : decode cX6_leastPair 10 = .ok (.if_icmp .ge 59, 3) := by decide +kernel
theorem dX6_leastPair_13 : decode cX6_leastPair 13 = .ok (.iload_n 2, 1) := by decide +kernel
theorem dX6_leastPair_14 : decode cX6_leastPair 14 = .ok (.iconst 1, 1) := by decide +kernel
theorem dX6_leastPair_15 : decode cX6_leastPair 15 = .ok (.iadd, 1) := by decide +kernel
theorem dX6_leastPair_16 : decode cX6_leastPair 16 = .ok (.istore_n 3, 1) := by decide +kernel
theorem dX6_leastPair_17 : decode cX6_leastPair 17 = .ok (.iload_n 3, 1) := by decide +kernel
theorem dX6_leastPair_18 : decode cX6_leastPair 18 = .ok (.aload_n 0, 1) := by decide +kernel
theorem dX6_leastPair_19 : decode cX6_leastPair 19 = .ok (.getfield 33, 3) := by decide +kernel
theorem dX6_leastPair_22 : decode cX6_leastPair 22 = .ok (.getfield 48, 3) := by decide +kernel
theorem dX6_leastPair_25 : decode cX6_leastPair 25 = .ok (.if_icmp .ge 38, 3) := by decide +kernel
theorem dX6_leastPair_28 : decode cX6_leastPair 28 = .ok (.aload_n 0, 1) := by decide +kernel
theorem dX6_leastPair_29 : decode cX6_leastPair 29 = .ok (.getfield 33, 3) := by decide +kernel
theorem dX6_leastPair_32 : decode cX6_leastPair 32 = .ok (.iload_n 2, 1) := by decide +kernel
theorem dX6_leastPair_33 : decode cX6_leastPair 33 = .ok (.iload_n 3, 1) := by decide +kernel
theorem dX6_leastPair_34 : decode cX6_leastPair 34 = .ok (.invokevirtual 93, 3) := by decide +kernel
theorem dX6_leastPair_37 : decode cX6_leastPair 37 = .ok (.ifCond .eq 20, 3) := by decide +kernel
theorem dX6_leastPair_40 : decode cX6_leastPair 40 = .ok (.aload_n 0, 1) := by decide +kernel
theorem dX6_leastPair_41 : decode cX6_leastPair 41 = .ok (.iload_n 2, 1) := by decide +kernel
theorem dX6_leastPair_42 : decode cX6_leastPair 42 = .ok (.iload_n 3, 1) := by decide +kernel
theorem dX6_leastPair_43 : decode cX6_leastPair 43 = .ok (.iload_n 1, 1) := by decide +kernel
theorem dX6_leastPair_44 : decode cX6_leastPair 44 = .ok (.invokevirtual 85, 3) := by decide +kernel
theorem dX6_leastPair_47 : decode cX6_leastPair 47 = .ok (.ifCond .eq 10, 3) := by decide +kernel
theorem dX6_leastPair_50 : decode cX6_leastPair 50 = .ok (.bipush 10, 2) := by decide +kernel
theorem dX6_leastPair_52 : decode cX6_leastPair 52 = .ok (.iload_n 2, 1) := by decide +kernel
theorem dX6_leastPair_53 : decode cX6_leastPair 53 = .ok (.imul, 1) := by decide +kernel
theorem dX6_leastPair_54 : decode cX6_leastPair 54 = .ok (.iload_n 3, 1) := by decide +kernel
theorem dX6_leastPair_55 : decode cX6_leastPair 55 = .ok (.iadd, 1) := by decide +kernel
theorem dX6_leastPair_56 : decode cX6_leastPair 56 = .ok (.ireturn, 1) := by decide +kernel
theorem dX6_leastPair_57 : decode cX6_leastPair 57 = .ok (.iinc 3 1, 3) := by decide +kernel
theorem dX6_leastPair_60 : decode cX6_leastPair 60 = .ok (.goto (-43), 3) := by decide +kernel
theorem dX6_leastPair_63 : decode cX6_leastPair 63 = .ok (.iinc 2 1, 3) := by decide +kernel
theorem dX6_leastPair_66 : decode cX6_leastPair 66 = .ok (.goto (-64), 3) := by decide +kernel
theorem dX6_leastPair_69 : decode cX6_leastPair 69 = .ok (.bipush (-3), 2) := by decide +kernel
theorem dX6_leastPair_71 : decode cX6_leastPair 71 = .ok (.ireturn, 1) := by decide +kernel
theorem dX6_isClearForAll_0 : decode cX6_isClearForAll 0 = .ok (.iconst 1, 1) := by decide +kernel
theorem dX6_isClearForAll_1 : decode cX6_isClearForAll 1 = .ok (.istore_n 1, 1) := by decide +kernel
theorem dX6_isClearForAll_2 : decode cX6_isClearForAll 2 = .ok (.iload_n 1, 1) := by decide +kernel
theorem dX6_isClearForAll_3 : decode cX6_isClearForAll 3 = .ok (.aload_n 0, 1) := by decide +kernel
theorem dX6_isClearForAll_4 : decode cX6_isClearForAll 4 = .ok (.getfield 30, 3) := by decide +kernel
theorem dX6_isClearForAll_7 : decode cX6_isClearForAll 7 = .ok (.if_icmp .gt 21, 3) := by decide +kernel
theorem dX6_isClearForAll_10 : decode cX6_isClearForAll 10 = .ok (.aload_n 0, 1) := by decide +kernel
theorem dX6_isClearForAll_11 : decode cX6_isClearForAll 11 = .ok (.iload_n 1, 1) := by decide +kernel
theorem dX6_isClearForAll_12 : decode cX6_isClearForAll 12 = .ok (.invokevirtual 96, 3) := by decide +kernel
theorem dX6_isClearForAll_15 : decode cX6_isClearForAll 15 = .ok (.bipush (-3), 2) := by decide +kernel
theorem dX6_isClearForAll_17 : decode cX6_isClearForAll 17 = .ok (.if_icmp .eq 5, 3) := by decide +kernel
theorem dX6_isClearForAll_20 : decode cX6_isClearForAll 20 = .ok (.iconst 0, 1) := by decide +kernel
theorem dX6_isClearForAll_21 : decode cX6_isClearForAll 21 = .ok (.ireturn, 1) := by decide +kernel
theorem dX6_isClearForAll_22 : decode cX6_isClearForAll 22 = .ok (.iinc 1 1, 3) := by decide +kernel
theorem dX6_isClearForAll_25 : decode cX6_isClearForAll 25 = .ok (.goto (-23), 3) := by decide +kernel
theorem dX6_isClearForAll_28 : decode cX6_isClearForAll 28 = .ok (.iconst 1, 1) := by decide +kernel
theorem dX6_isClearForAll_29 : decode cX6_isClearForAll 29 = .ok (.ireturn, 1) := by decide +kernel
theorem dX6_pairsToCome_0 : decode cX6_pairsToCome 0 = .ok (.iconst 0, 1) := by decide +kernel
theorem dX6_pairsToCome_1 : decode cX6_pairsToCome 1 = .ok (.istore_n 1, 1) := by decide +kernel
theorem dX6_pairsToCome_2 : decode cX6_pairsToCome 2 = .ok (.iconst 1, 1) := by decide +kernel
theorem dX6_pairsToCome_3 : decode cX6_pairsToCome 3 = .ok (.istore_n 2, 1) := by decide +kernel
theorem dX6_pairsToCome_4 : decode cX6_pairsToCome 4 = .ok (.iload_n 2, 1) := by decide +kernel
theorem dX6_pairsToCome_5 : decode cX6_pairsToCome 5 = .ok (.aload_n 0, 1) := by decide +kernel
theorem dX6_pairsToCome_6 : decode cX6_pairsToCome 6 = .ok (.getfield 30, 3) := by decide +kernel
theorem dX6_pairsToCome_9 : decode cX6_pairsToCome 9 = .ok (.if_icmp .gt 51, 3) := by decide +kernel
theorem dX6_pairsToCome_12 : decode cX6_pairsToCome 12 = .ok (.iconst 0, 1) := by decide +kernel
theorem dX6_pairsToCome_13 : decode cX6_pairsToCome 13 = .ok (.istore_n 3, 1) := by decide +kernel
theorem dX6_pairsToCome_14 : decode cX6_pairsToCome 14 = .ok (.iload_n 3, 1) := by decide +kernel
theorem dX6_pairsToCome_15 : decode cX6_pairsToCome 15 = .ok (.aload_n 0, 1) := by decide +kernel
theorem dX6_pairsToCome_16 : decode cX6_pairsToCome 16 = .ok (.getfield 33, 3) := by decide +kernel
theorem dX6_pairsToCome_19 : decode cX6_pairsToCome 19 = .ok (.getfield 48, 3) := by decide +kernel
theorem dX6_pairsToCome_22 : decode cX6_pairsToCome 22 = .ok (.if_icmp .ge 32, 3) := by decide +kernel
theorem dX6_pairsToCome_25 : decode cX6_pairsToCome 25 = .ok (.iload_n 1, 1) := by decide +kernel
theorem dX6_pairsToCome_26 : decode cX6_pairsToCome 26 = .ok (.aload_n 0, 1) := by decide +kernel
theorem dX6_pairsToCome_27 : decode cX6_pairsToCome 27 = .ok (.iload_n 3, 1) := by decide +kernel
theorem dX6_pairsToCome_28 : decode cX6_pairsToCome 28 = .ok (.aload_n 0, 1) := by decide +kernel
theorem dX6_pairsToCome_29 : decode cX6_pairsToCome 29 = .ok (.getfield 33, 3) := by decide +kernel
theorem dX6_pairsToCome_32 : decode cX6_pairsToCome 32 = .ok (.getfield 51, 3) := by decide +kernel
theorem dX6_pairsToCome_35 : decode cX6_pairsToCome 35 = .ok (.iload_n 3, 1) := by decide +kernel
theorem dX6_pairsToCome_36 : decode cX6_pairsToCome 36 = .ok (.aaload, 1) := by decide +kernel
theorem dX6_pairsToCome_37 : decode cX6_pairsToCome 37 = .ok (.getfield 55, 3) := by decide +kernel
theorem dX6_pairsToCome_40 : decode cX6_pairsToCome 40 = .ok (.iconst 2, 1) := by decide +kernel
theorem dX6_pairsToCome_41 : decode cX6_pairsToCome 41 = .ok (.iaload, 1) := by decide +kernel
theorem dX6_pairsToCome_42 : decode cX6_pairsToCome 42 = .ok (.iload_n 2, 1) := by decide +kernel
theorem dX6_pairsToCome_43 : decode cX6_pairsToCome 43 = .ok (.invokevirtual 89, 3) := by decide +kernel
theorem dX6_pairsToCome_46 : decode cX6_pairsToCome 46 = .ok (.iadd, 1) := by decide +kernel
theorem dX6_pairsToCome_47 : decode cX6_pairsToCome 47 = .ok (.istore_n 1, 1) := by decide +kernel
theorem dX6_pairsToCome_48 : decode cX6_pairsToCome 48 = .ok (.iinc 3 1, 3) := by decide +kernel
theorem dX6_pairsToCome_51 : decode cX6_pairsToCome 51 = .ok (.goto (-37), 3) := by decide +kernel
theorem dX6_pairsToCome_54 : decode cX6_pairsToCome 54 = .ok (.iinc 2 1, 3) := by decide +kernel
theorem dX6_pairsToCome_57 : decode cX6_pairsToCome 57 = .ok (.goto (-53), 3) := by decide +kernel
theorem dX6_pairsToCome_60 : decode cX6_pairsToCome 60 = .ok (.iload_n 1, 1) := by decide +kernel
theorem dX6_pairsToCome_61 : decode cX6_pairsToCome 61 = .ok (.iconst 2, 1) := by decide +kernel
theorem dX6_pairsToCome_62 : decode cX6_pairsToCome 62 = .ok (.idiv, 1) := by decide +kernel
theorem dX6_pairsToCome_63 : decode cX6_pairsToCome 63 = .ok (.ireturn, 1) := by decide +kernel
theorem dX6_pairsWithGift_0 : decode cX6_pairsWithGift 0 = .ok (.aload_n 0, 1) := by decide +kernel
theorem dX6_pairsWithGift_1 : decode cX6_pairsWithGift 1 = .ok (.getfield 33, 3) := by decide +kernel
theorem dX6_pairsWithGift_4 : decode cX6_pairsWithGift 4 = .ok (.getfield 51, 3) := by decide +kernel
theorem dX6_pairsWithGift_7 : decode cX6_pairsWithGift 7 = .ok (.iload_n 1, 1) := by decide +kernel
theorem dX6_pairsWithGift_8 : decode cX6_pairsWithGift 8 = .ok (.aaload, 1) := by decide +kernel
theorem dX6_pairsWithGift_9 : decode cX6_pairsWithGift 9 = .ok (.getfield 55, 3) := by decide +kernel
theorem dX6_pairsWithGift_12 : decode cX6_pairsWithGift 12 = .ok (.bipush 6, 2) := by decide +kernel
theorem dX6_pairsWithGift_14 : decode cX6_pairsWithGift 14 = .ok (.iaload, 1) := by decide +kernel
theorem dX6_pairsWithGift_15 : decode cX6_pairsWithGift 15 = .ok (.istore 4, 2) := by decide +kernel
theorem dX6_pairsWithGift_17 : decode cX6_pairsWithGift 17 = .ok (.aload_n 0, 1) := by decide +kernel
theorem dX6_pairsWithGift_18 : decode cX6_pairsWithGift 18 = .ok (.getfield 33, 3) := by decide +kernel
theorem dX6_pairsWithGift_21 : decode cX6_pairsWithGift 21 = .ok (.getfield 51, 3) := by decide +kernel
theorem dX6_pairsWithGift_24 : decode cX6_pairsWithGift 24 = .ok (.iload_n 2, 1) := by decide +kernel
theorem dX6_pairsWithGift_25 : decode cX6_pairsWithGift 25 = .ok (.aaload, 1) := by decide +kernel
theorem dX6_pairsWithGift_26 : decode cX6_pairsWithGift 26 = .ok (.getfield 55, 3) := by decide +kernel
theorem dX6_pairsWithGift_29 : decode cX6_pairsWithGift 29 = .ok (.bipush 6, 2) := by decide +kernel
theorem dX6_pairsWithGift_31 : decode cX6_pairsWithGift 31 = .ok (.iaload, 1) := by decide +kernel
theorem dX6_pairsWithGift_32 : decode cX6_pairsWithGift 32 = .ok (.istore 5, 2) := by decide +kernel
theorem dX6_pairsWithGift_34 : decode cX6_pairsWithGift 34 = .ok (.aload_n 0, 1) := by decide +kernel
theorem dX6_pairsWithGift_35 : decode cX6_pairsWithGift 35 = .ok (.iload_n 1, 1) := by decide +kernel
theorem dX6_pairsWithGift_36 : decode cX6_pairsWithGift 36 = .ok (.bipush 6, 2) := by decide +kernel
theorem dX6_pairsWithGift_38 : decode cX6_pairsWithGift 38 = .ok (.iload 4, 2) := by decide +kernel
theorem dX6_pairsWithGift_40 : decode cX6_pairsWithGift 40 = .ok (.iload_n 3, 1) := by decide +kernel
theorem dX6_pairsWithGift_41 : decode cX6_pairsWithGift 41 = .ok (.isub, 1) := by decide +kernel
theorem dX6_pairsWithGift_42 : decode cX6_pairsWithGift 42 = .ok (.invokevirtual 59, 3) := by decide +kernel
theorem dX6_pairsWithGift_45 : decode cX6_pairsWithGift 45 = .ok (.aload_n 0, 1) := by decide +kernel
theorem dX6_pairsWithGift_46 : decode cX6_pairsWithGift 46 = .ok (.iload_n 2, 1) := by decide +kernel
theorem dX6_pairsWithGift_47 : decode cX6_pairsWithGift 47 = .ok (.bipush 6, 2) := by decide +kernel
theorem dX6_pairsWithGift_49 : decode cX6_pairsWithGift 49 = .ok (.iload 5, 2) := by decide +kernel
theorem dX6_pairsWithGift_51 : decode cX6_pairsWithGift 51 = .ok (.iload_n 3, 1) := by decide +kernel
theorem dX6_pairsWithGift_52 : decode cX6_pairsWithGift 52 = .ok (.iadd, 1) := by decide +kernel
theorem dX6_pairsWithGift_53 : decode cX6_pairsWithGift 53 = .ok (.invokevirtual 59, 3) := by decide +kernel
theorem dX6_pairsWithGift_56 : decode cX6_pairsWithGift 56 = .ok (.aload_n 0, 1) := by decide +kernel
theorem dX6_pairsWithGift_57 : decode cX6_pairsWithGift 57 = .ok (.invokevirtual 100, 3) := by decide +kernel
theorem dX6_pairsWithGift_60 : decode cX6_pairsWithGift 60 = .ok (.istore 6, 2) := by decide +kernel
theorem dX6_pairsWithGift_62 : decode cX6_pairsWithGift 62 = .ok (.aload_n 0, 1) := by decide +kernel
theorem dX6_pairsWithGift_63 : decode cX6_pairsWithGift 63 = .ok (.iload_n 1, 1) := by decide +kernel
theorem dX6_pairsWithGift_64 : decode cX6_pairsWithGift 64 = .ok (.bipush 6, 2) := by decide +kernel
theorem dX6_pairsWithGift_66 : decode cX6_pairsWithGift 66 = .ok (.iload 4, 2) := by decide +kernel
theorem dX6_pairsWithGift_68 : decode cX6_pairsWithGift 68 = .ok (.invokevirtual 59, 3) := by decide +kernel
theorem dX6_pairsWithGift_71 : decode cX6_pairsWithGift 71 = .ok (.aload_n 0, 1) := by decide +kernel
theorem dX6_pairsWithGift_72 : decode cX6_pairsWithGift 72 = .ok (.iload_n 2, 1) := by decide +kernel
theorem dX6_pairsWithGift_73 : decode cX6_pairsWithGift 73 = .ok (.bipush 6, 2) := by decide +kernel
theorem dX6_pairsWithGift_75 : decode cX6_pairsWithGift 75 = .ok (.iload 5, 2) := by decide +kernel
theorem dX6_pairsWithGift_77 : decode cX6_pairsWithGift 77 = .ok (.invokevirtual 59, 3) := by decide +kernel
theorem dX6_pairsWithGift_80 : decode cX6_pairsWithGift 80 = .ok (.iload 6, 2) := by decide +kernel
theorem dX6_pairsWithGift_82 : decode cX6_pairsWithGift 82 = .ok (.ireturn, 1) := by decide +kernel
theorem dX6_rowPart_0 : decode cX6_rowPart 0 = .ok (.iload_n 3, 1) := by decide +kernel
theorem dX6_rowPart_1 : decode cX6_rowPart 1 = .ok (.lookupswitch 45 #[(0, 27), (1, 36)], 27) := by decide +kernel
theorem dX6_rowPart_28 : decode cX6_rowPart 28 = .ok (.aload_n 0, 1) := by decide +kernel
theorem dX6_rowPart_29 : decode cX6_rowPart 29 = .ok (.getfield 20, 3) := by decide +kernel
theorem dX6_rowPart_32 : decode cX6_rowPart 32 = .ok (.iload_n 1, 1) := by decide +kernel
theorem dX6_rowPart_33 : decode cX6_rowPart 33 = .ok (.aaload, 1) := by decide +kernel
theorem dX6_rowPart_34 : decode cX6_rowPart 34 = .ok (.iload_n 2, 1) := by decide +kernel
theorem dX6_rowPart_35 : decode cX6_rowPart 35 = .ok (.iaload, 1) := by decide +kernel
theorem dX6_rowPart_36 : decode cX6_rowPart 36 = .ok (.ireturn, 1) := by decide +kernel
theorem dX6_rowPart_37 : decode cX6_rowPart 37 = .ok (.aload_n 0, 1) := by decide +kernel
theorem dX6_rowPart_38 : decode cX6_rowPart 38 = .ok (.getfield 23, 3) := by decide +kernel
theorem dX6_rowPart_41 : decode cX6_rowPart 41 = .ok (.iload_n 1, 1) := by decide +kernel
theorem dX6_rowPart_42 : decode cX6_rowPart 42 = .ok (.aaload, 1) := by decide +kernel
theorem dX6_rowPart_43 : decode cX6_rowPart 43 = .ok (.iload_n 2, 1) := by decide +kernel
theorem dX6_rowPart_44 : decode cX6_rowPart 44 = .ok (.iaload, 1) := by decide +kernel
theorem dX6_rowPart_45 : decode cX6_rowPart 45 = .ok (.ireturn, 1) := by decide +kernel
theorem dX6_rowPart_46 : decode cX6_rowPart 46 = .ok (.aload_n 0, 1) := by decide +kernel
theorem dX6_rowPart_47 : decode cX6_rowPart 47 = .ok (.iload_n 1, 1) := by decide +kernel
theorem dX6_rowPart_48 : decode cX6_rowPart 48 = .ok (.aload_n 0, 1) := by decide +kernel
theorem dX6_rowPart_49 : decode cX6_rowPart 49 = .ok (.getfield 33, 3) := by decide +kernel
theorem dX6_rowPart_52 : decode cX6_rowPart 52 = .ok (.getfield 51, 3) := by decide +kernel
theorem dX6_rowPart_55 : decode cX6_rowPart 55 = .ok (.iload_n 1, 1) := by decide +kernel
theorem dX6_rowPart_56 : decode cX6_rowPart 56 = .ok (.aaload, 1) := by decide +kernel
theorem dX6_rowPart_57 : decode cX6_rowPart 57 = .ok (.getfield 55, 3) := by decide +kernel
theorem dX6_rowPart_60 : decode cX6_rowPart 60 = .ok (.iconst 2, 1) := by decide +kernel
theorem dX6_rowPart_61 : decode cX6_rowPart 61 = .ok (.iaload, 1) := by decide +kernel
theorem dX6_rowPart_62 : decode cX6_rowPart 62 = .ok (.iload_n 2, 1) := by decide +kernel
theorem dX6_rowPart_63 : decode cX6_rowPart 63 = .ok (.invokevirtual 89, 3) := by decide +kernel
theorem dX6_rowPart_66 : decode cX6_rowPart 66 = .ok (.ireturn, 1) := by decide +kernel
theorem dX7_init_0 : decode cX7_init 0 = .ok (.aload_n 0, 1) := by decide +kernel
theorem dX7_init_1 : decode cX7_init 1 = .ok (.invokespecial 1, 3) := by decide +kernel
theorem dX7_init_4 : decode cX7_init 4 = .ok (.aload_n 0, 1) := by decide +kernel
theorem dX7_init_5 : decode cX7_init 5 = .ok (.new 7, 3) := by decide +kernel
theorem dX7_init_8 : decode cX7_init 8 = .ok (.dup, 1) := by decide +kernel
theorem dX7_init_9 : decode cX7_init 9 = .ok (.invokespecial 9, 3) := by decide +kernel
theorem dX7_init_12 : decode cX7_init 12 = .ok (.putfield 10, 3) := by decide +kernel
theorem dX7_init_15 : decode cX7_init 15 = .ok (.aload_n 0, 1) := by decide +kernel
theorem dX7_init_16 : decode cX7_init 16 = .ok (.new 7, 3) := by decide +kernel
theorem dX7_init_19 : decode cX7_init 19 = .ok (.dup, 1) := by decide +kernel
theorem dX7_init_20 : decode cX7_init 20 = .ok (.invokespecial 9, 3) := by decide +kernel
theorem dX7_init_23 : decode cX7_init 23 = .ok (.putfield 16, 3) := by decide +kernel
theorem dX7_init_26 : decode cX7_init 26 = .ok (.aload_n 0, 1) := by decide +kernel
theorem dX7_init_27 : decode cX7_init 27 = .ok (.iconst 0, 1) := by decide +kernel
theorem dX7_init_28 : decode cX7_init 28 = .ok (.putfield 19, 3) := by decide +kernel
theorem dX7_init_31 : decode cX7_init 31 = .ok (.aload_n 0, 1) := by decide +kernel
theorem dX7_init_32 : decode cX7_init 32 = .ok (.new 7, 3) := by decide +kernel
theorem dX7_init_35 : decode cX7_init 35 = .ok (.dup, 1) := by decide +kernel
theorem dX7_init_36 : decode cX7_init 36 = .ok (.invokespecial 9, 3) := by decide +kernel
theorem dX7_init_39 : decode cX7_init 39 = .ok (.putfield 23, 3) := by decide +kernel
theorem dX7_init_42 : decode cX7_init 42 = .ok (.aload_n 0, 1) := by decide +kernel
theorem dX7_init_43 : decode cX7_init 43 = .ok (.new 26, 3) := by decide +kernel
theorem dX7_init_46 : decode cX7_init 46 = .ok (.dup, 1) := by decide +kernel
theorem dX7_init_47 : decode cX7_init 47 = .ok (.invokespecial 28, 3) := by decide +kernel
theorem dX7_init_50 : decode cX7_init 50 = .ok (.putfield 29, 3) := by decide +kernel
theorem dX7_init_53 : decode cX7_init 53 = .ok (.aload_n 0, 1) := by decide +kernel
theorem dX7_init_54 : decode cX7_init 54 = .ok (.new 33, 3) := by decide +kernel
theorem dX7_init_57 : decode cX7_init 57 = .ok (.dup, 1) := by decide +kernel
theorem dX7_init_58 : decode cX7_init 58 = .ok (.aload_n 0, 1) := by decide +kernel
theorem dX7_init_59 : decode cX7_init 59 = .ok (.getfield 10, 3) := by decide +kernel
theorem dX7_init_62 : decode cX7_init 62 = .ok (.invokespecial 35, 3) := by decide +kernel
theorem dX7_init_65 : decode cX7_init 65 = .ok (.putfield 38, 3) := by decide +kernel
theorem dX7_init_68 : decode cX7_init 68 = .ok (.aload_n 0, 1) := by decide +kernel
theorem dX7_init_69 : decode cX7_init 69 = .ok (.bipush 20, 2) := by decide +kernel
theorem dX7_init_71 : decode cX7_init 71 = .ok (.iconst 3, 1) := by decide +kernel
theorem dX7_init_72 : decode cX7_init 72 = .ok (.multianewarray 42 2, 4) := by decide +kernel
theorem dX7_init_76 : decode cX7_init 76 = .ok (.putfield 44, 3) := by decide +kernel
theorem dX7_init_79 : decode cX7_init 79 = .ok (.aload_n 0, 1) := by decide +kernel
theorem dX7_init_80 : decode cX7_init 80 = .ok (.iconst 0, 1) := by decide +kernel
theorem dX7_init_81 : decode cX7_init 81 = .ok (.putfield 47, 3) := by decide +kernel
theorem dX7_init_84 : decode cX7_init 84 = .ok (.aload_n 0, 1) := by decide +kernel
theorem dX7_init_85 : decode cX7_init 85 = .ok (.iconst 4, 1) := by decide +kernel
theorem dX7_init_86 : decode cX7_init 86 = .ok (.anewarray 51, 3) := by decide +kernel
theorem dX7_init_89 : decode cX7_init 89 = .ok (.putfield 53, 3) := by decide +kernel
theorem dX7_init_92 : decode cX7_init 92 = .ok (.aload_n 0, 1) := by decide +kernel
theorem dX7_init_93 : decode cX7_init 93 = .ok (.iconst 4, 1) := by decide +kernel
theorem dX7_init_94 : decode cX7_init 94 = .ok (.anewarray 57, 3) := by decide +kernel
theorem dX7_init_97 : decode cX7_init 97 = .ok (.putfield 59, 3) := by decide +kernel
theorem dX7_init_100 : decode cX7_init 100 = .ok (.aload_n 0, 1) := by decide +kernel
theorem dX7_init_101 : decode cX7_init 101 = .ok (.new 63, 3) := by decide +kernel
theorem dX7_init_104 : decode cX7_init 104 = .ok (.dup, 1) := by decide +kernel
theorem dX7_init_105 : decode cX7_init 105 = .ok (.invokespecial 65, 3) := by decide +kernel
theorem dX7_init_108 : decode cX7_init 108 = .ok (.putfield 66, 3) := by decide +kernel
theorem dX7_init_111 : decode cX7_init 111 = .ok (.iconst 0, 1) := by decide +kernel
theorem dX7_init_112 : decode cX7_init 112 = .ok (.istore_n 1, 1) := by decide +kernel
theorem dX7_init_113 : decode cX7_init 113 = .ok (.iload_n 1, 1) := by decide +kernel
theorem dX7_init_114 : decode cX7_init 114 = .ok (.iconst 4, 1) := by decide +kernel
theorem dX7_init_115 : decode cX7_init 115 = .ok (.if_icmp .ge 22, 3) := by decide +kernel
theorem dX7_init_118 : decode cX7_init 118 = .ok (.aload_n 0, 1) := by decide +kernel
theorem dX7_init_119 : decode cX7_init 119 = .ok (.getfield 53, 3) := by decide +kernel
theorem dX7_init_122 : decode cX7_init 122 = .ok (.iload_n 1, 1) := by decide +kernel
theorem dX7_init_123 : decode cX7_init 123 = .ok (.new 51, 3) := by decide +kernel
theorem dX7_init_126 : decode cX7_init 126 = .ok (.dup, 1) := by decide +kernel
theorem dX7_init_127 : decode cX7_init 127 = .ok (.invokespecial 70, 3) := by decide +kernel
theorem dX7_init_130 : decode cX7_init 130 = .ok (.aastore, 1) := by decide +kernel
theorem dX7_init_131 : decode cX7_init 131 = .ok (.iinc 1 1, 3) := by decide +kernel
theorem dX7_init_134 : decode cX7_init 134 = .ok (.goto (-21), 3) := by decide +kernel
theorem dX7_init_137 : decode cX7_init 137 = .ok (.iconst 0, 1) := by decide +kernel
theorem dX7_init_138 : decode cX7_init 138 = .ok (.istore_n 1, 1) := by decide +kernel
theorem dX7_init_139 : decode cX7_init 139 = .ok (.iload_n 1, 1) := by decide +kernel
theorem dX7_init_140 : decode cX7_init 140 = .ok (.iconst 4, 1) := by decide +kernel
theorem dX7_init_141 : decode cX7_init 141 = .ok (.if_icmp .ge 22, 3) := by decide +kernel
theorem dX7_init_144 : decode cX7_init 144 = .ok (.aload_n 0, 1) := by decide +kernel
theorem dX7_init_145 : decode cX7_init 145 = .ok (.getfield 59, 3) := by decide +kernel
theorem dX7_init_148 : decode cX7_init 148 = .ok (.iload_n 1, 1) := by decide +kernel
theorem dX7_init_149 : decode cX7_init 149 = .ok (.new 57, 3) := by decide +kernel
theorem dX7_init_152 : decode cX7_init 152 = .ok (.dup, 1) := by decide +kernel
theorem dX7_init_153 : decode cX7_init 153 = .ok (.invokespecial 71, 3) := by decide +kernel
theorem dX7_init_156 : decode cX7_init 156 = .ok (.aastore, 1) := by decide +kernel
theorem dX7_init_157 : decode cX7_init 157 = .ok (.iinc 1 1, 3) := by decide +kernel
theorem dX7_init_160 : decode cX7_init 160 = .ok (.goto (-21), 3) := by decide +kernel
theorem dX7_init_163 : decode cX7_init 163 = .ok (.return_, 1) := by decide +kernel
theorem dX7_feed_0 : decode cX7_feed 0 = .ok (.iload_n 3, 1) := by decide +kernel
theorem dX7_feed_1 : decode cX7_feed 1 = .ok (.iconst 1, 1) := by decide +kernel
theorem dX7_feed_2 : decode cX7_feed 2 = .ok (.bipush 8, 2) := by decide +kernel
theorem dX7_feed_4 : decode cX7_feed 4 = .ok (.invokestatic 72, 3) := by decide +kernel
theorem dX7_feed_7 : decode cX7_feed 7 = .ok (.ifCond .ne 5, 3) := by decide +kernel
theorem dX7_feed_10 : decode cX7_feed 10 = .ok (.iconst (-1), 1) := by decide +kernel
theorem dX7_feed_11 : decode cX7_feed 11 = .ok (.ireturn, 1) := by decide +kernel
theorem dX7_feed_12 : decode cX7_feed 12 = .ok (.iload_n 3, 1) := by decide +kernel
theorem dX7_feed_13 : decode cX7_feed 13 = .ok (.sipush 240, 3) := by decide +kernel
theorem dX7_feed_16 : decode cX7_feed 16 = .ok (.aload_n 0, 1) := by decide +kernel
theorem dX7_feed_17 : decode cX7_feed 17 = .ok (.getfield 29, 3) := by decide +kernel
theorem dX7_feed_20 : decode cX7_feed 20 = .ok (.getfield 76, 3) := by decide +kernel
theorem dX7_feed_23 : decode cX7_feed 23 = .ok (.isub, 1) := by decide +kernel
theorem dX7_feed_24 : decode cX7_feed 24 = .ok (.if_icmp .le 6, 3) := by decide +kernel
theorem dX7_feed_27 : decode cX7_feed 27 = .ok (.bipush (-2), 2) := by decide +kernel
theorem dX7_feed_29 : decode cX7_feed 29 = .ok (.ireturn, 1) := by decide +kernel
theorem dX7_feed_30 : decode cX7_feed 30 = .ok (.aload_n 0, 1) := by decide +kernel
theorem dX7_feed_31 : decode cX7_feed 31 = .ok (.getfield 29, 3) := by decide +kernel
theorem dX7_feed_34 : decode cX7_feed 34 = .ok (.lload_n 1, 1) := by decide +kernel
theorem dX7_feed_35 : decode cX7_feed 35 = .ok (.iload_n 3, 1) := by decide +kernel
theorem dX7_feed_36 : decode cX7_feed 36 = .ok (.invokevirtual 79, 3) := by decide +kernel
theorem dX7_feed_39 : decode cX7_feed 39 = .ok (.aload_n 0, 1) := by decide +kernel
theorem dX7_feed_40 : decode cX7_feed 40 = .ok (.getfield 29, 3) := by decide +kernel
theorem dX7_feed_43 : decode cX7_feed 43 = .ok (.getfield 76, 3) := by decide +kernel
theorem dX7_feed_46 : decode cX7_feed 46 = .ok (.ireturn, 1) := by decide +kernel
theorem dX7_town_0 : decode cX7_town 0 = .ok (.aload_n 0, 1) := by decide +kernel
theorem dX7_town_1 : decode cX7_town 1 = .ok (.getfield 29, 3) := by decide +kernel
theorem dX7_town_4 : decode cX7_town 4 = .ok (.aload_n 0, 1) := by decide +kernel
theorem dX7_town_5 : decode cX7_town 5 = .ok (.getfield 23, 3) := by decide +kernel
theorem dX7_town_8 : decode cX7_town 8 = .ok (.invokevirtual 83, 3) := by decide +kernel
theorem dX7_town_11 : decode cX7_town 11 = .ok (.istore_n 1, 1) := by decide +kernel
theorem dX7_town_12 : decode cX7_town 12 = .ok (.aload_n 0, 1) := by decide +kernel
theorem dX7_town_13 : decode cX7_town 13 = .ok (.getfield 29, 3) := by decide +kernel
theorem dX7_town_16 : decode cX7_town 16 = .ok (.iconst 0, 1) := by decide +kernel
theorem dX7_town_17 : decode cX7_town 17 = .ok (.putfield 76, 3) := by decide +kernel
theorem dX7_town_20 : decode cX7_town 20 = .ok (.iload_n 1, 1) := by decide +kernel
theorem dX7_town_21 : decode cX7_town 21 = .ok (.ifCond .lt 8, 3) := by decide +kernel
theorem dX7_town_24 : decode cX7_town 24 = .ok (.bipush (-100), 2) := by decide +kernel
theorem dX7_town_26 : decode cX7_town 26 = .ok (.iload_n 1, 1) := by decide +kernel
theorem dX7_town_27 : decode cX7_town 27 = .ok (.isub, 1) := by decide +kernel
theorem dX7_town_28 : decode cX7_town 28 = .ok (.ireturn, 1) := by decide +kernel
theorem dX7_town_29 : decode cX7_town 29 = .ok (.aload_n 0, 1) := by decide +kernel
theorem dX7_town_30 : decode cX7_town 30 = .ok (.getfield 23, 3) := by decide +kernel
theorem dX7_town_33 : decode cX7_town 33 = .ok (.aload_n 0, 1) := by decide +kernel
theorem dX7_town_34 : decode cX7_town 34 = .ok (.getfield 10, 3) := by decide +kernel
theorem dX7_town_37 : decode cX7_town 37 = .ok (.getfield 87, 3) := by decide +kernel
theorem dX7_town_40 : decode cX7_town 40 = .ok (.putfield 87, 3) := by decide +kernel
theorem dX7_town_43 : decode cX7_town 43 = .ok (.aload_n 0, 1) := by decide +kernel
theorem dX7_town_44 : decode cX7_town 44 = .ok (.getfield 10, 3) := by decide +kernel
theorem dX7_town_47 : decode cX7_town 47 = .ok (.aload_n 0, 1) := by decide +kernel
theorem dX7_town_48 : decode cX7_town 48 = .ok (.getfield 23, 3) := by decide +kernel
theorem dX7_town_51 : decode cX7_town 51 = .ok (.invokevirtual 90, 3) := by decide +kernel
theorem dX7_town_54 : decode cX7_town 54 = .ok (.aload_n 0, 1) := by decide +kernel
theorem dX7_town_55 : decode cX7_town 55 = .ok (.iconst 0, 1) := by decide +kernel
theorem dX7_town_56 : decode cX7_town 56 = .ok (.putfield 47, 3) := by decide +kernel
theorem dX7_town_59 : decode cX7_town 59 = .ok (.aload_n 0, 1) := by decide +kernel
theorem dX7_town_60 : decode cX7_town 60 = .ok (.getfield 10, 3) := by decide +kernel
theorem dX7_town_63 : decode cX7_town 63 = .ok (.getfield 93, 3) := by decide +kernel
theorem dX7_town_66 : decode cX7_town 66 = .ok (.ireturn, 1) := by decide +kernel
theorem dX7_warm_0 : decode cX7_warm 0 = .ok (.iload_n 1, 1) := by decide +kernel
theorem dX7_warm_1 : decode cX7_warm 1 = .ok (.invokestatic 96, 3) := by decide +kernel
theorem dX7_warm_4 : decode cX7_warm 4 = .ok (.ifCond .eq 14, 3) := by decide +kernel
theorem dX7_warm_7 : decode cX7_warm 7 = .ok (.iload_n 2, 1) := by decide +kernel
theorem dX7_warm_8 : decode cX7_warm 8 = .ok (.bipush (-20), 2) := by decide +kernel
theorem dX7_warm_10 : decode cX7_warm 10 = .ok (.bipush 40, 2) := by decide +kernel
theorem dX7_warm_12 : decode cX7_warm 12 = .ok (.invokestatic 72, 3) := by decide +kernel
theorem dX7_warm_15 : decode cX7_warm 15 = .ok (.ifCond .ne 5, 3) := by decide +kernel
theorem dX7_warm_18 : decode cX7_warm 18 = .ok (.iconst (-1), 1) := by decide +kernel
theorem dX7_warm_19 : decode cX7_warm 19 = .ok (.ireturn, 1) := by decide +kernel
theorem dX7_warm_20 : decode cX7_warm 20 = .ok (.aload_n 0, 1) := by decide +kernel
theorem dX7_warm_21 : decode cX7_warm 21 = .ok (.getfield 10, 3) := by decide +kernel
theorem dX7_warm_24 : decode cX7_warm 24 = .ok (.getfield 100, 3) := by decide +kernel
theorem dX7_warm_27 : decode cX7_warm 27 = .ok (.iload_n 1, 1) := by decide +kernel
theorem dX7_warm_28 : decode cX7_warm 28 = .ok (.iaload, 1) := by decide +kernel
theorem dX7_warm_29 : decode cX7_warm 29 = .ok (.istore_n 3, 1) := by decide +kernel
theorem dX7_warm_30 : decode cX7_warm 30 = .ok (.aload_n 0, 1) := by decide +kernel
theorem dX7_warm_31 : decode cX7_warm 31 = .ok (.getfield 10, 3) := by decide +kernel
theorem dX7_warm_34 : decode cX7_warm 34 = .ok (.getfield 100, 3) := by decide +kernel
theorem dX7_warm_37 : decode cX7_warm 37 = .ok (.iload_n 1, 1) := by decide +kernel
theorem dX7_warm_38 : decode cX7_warm 38 = .ok (.iload_n 2, 1) := by decide +kernel
theorem dX7_warm_39 : decode cX7_warm 39 = .ok (.iastore, 1) := by decide +kernel
theorem dX7_warm_40 : decode cX7_warm 40 = .ok (.iload_n 3, 1) := by decide +kernel
theorem dX7_warm_41 : decode cX7_warm 41 = .ok (.bipush 100, 2) := by decide +kernel
theorem dX7_warm_43 : decode cX7_warm 43 = .ok (.iadd, 1) := by decide +kernel
theorem dX7_warm_44 : decode cX7_warm 44 = .ok (.ireturn, 1) := by decide +kernel
theorem dX7_warmth_0 : decode cX7_warmth 0 = .ok (.iload_n 1, 1) := by decide +kernel
theorem dX7_warmth_1 : decode cX7_warmth 1 = .ok (.invokestatic 96, 3) := by decide +kernel
theorem dX7_warmth_4 : decode cX7_warmth 4 = .ok (.ifCond .eq 18, 3) := by decide +kernel
theorem dX7_warmth_7 : decode cX7_warmth 7 = .ok (.aload_n 0, 1) := by decide +kernel
theorem dX7_warmth_8 : decode cX7_warmth 8 = .ok (.getfield 10, 3) := by decide +kernel
theorem dX7_warmth_11 : decode cX7_warmth 11 = .ok (.getfield 100, 3) := by decide +kernel
theorem dX7_warmth_14 : decode cX7_warmth 14 = .ok (.iload_n 1, 1) := by decide +kernel
theorem dX7_warmth_15 : decode cX7_warmth 15 = .ok (.iaload, 1) := by decide +kernel
theorem dX7_warmth_16 : decode cX7_warmth 16 = .ok (.bipush 100, 2) := by decide +kernel
theorem dX7_warmth_18 : decode cX7_warmth 18 = .ok (.iadd, 1) := by decide +kernel
theorem dX7_warmth_19 : decode cX7_warmth 19 = .ok (.goto 4, 3) := by decide +kernel
theorem dX7_warmth_22 : decode cX7_warmth 22 = .ok (.iconst (-1), 1) := by decide +kernel
theorem dX7_warmth_23 : decode cX7_warmth 23 = .ok (.ireturn, 1) := by decide +kernel
theorem dX7_gap_0 : decode cX7_gap 0 = .ok (.iload_n 1, 1) := by decide +kernel
theorem dX7_gap_1 : decode cX7_gap 1 = .ok (.iconst 1, 1) := by decide +kernel
theorem dX7_gap_2 : decode cX7_gap 2 = .ok (.bipush 20, 2) := by decide +kernel
theorem dX7_gap_4 : decode cX7_gap 4 = .ok (.invokestatic 72, 3) := by decide +kernel
theorem dX7_gap_7 : decode cX7_gap 7 = .ok (.ifCond .ne 5, 3) := by decide +kernel
theorem dX7_gap_10 : decode cX7_gap 10 = .ok (.iconst (-1), 1) := by decide +kernel
theorem dX7_gap_11 : decode cX7_gap 11 = .ok (.ireturn, 1) := by decide +kernel
theorem dX7_gap_12 : decode cX7_gap 12 = .ok (.aload_n 0, 1) := by decide +kernel
theorem dX7_gap_13 : decode cX7_gap 13 = .ok (.getfield 10, 3) := by decide +kernel
theorem dX7_gap_16 : decode cX7_gap 16 = .ok (.getfield 104, 3) := by decide +kernel
theorem dX7_gap_19 : decode cX7_gap 19 = .ok (.istore_n 2, 1) := by decide +kernel
theorem dX7_gap_20 : decode cX7_gap 20 = .ok (.aload_n 0, 1) := by decide +kernel
theorem dX7_gap_21 : decode cX7_gap 21 = .ok (.getfield 10, 3) := by decide +kernel
theorem dX7_gap_24 : decode cX7_gap 24 = .ok (.iload_n 1, 1) := by decide +kernel
theorem dX7_gap_25 : decode cX7_gap 25 = .ok (.putfield 104, 3) := by decide +kernel
theorem dX7_gap_28 : decode cX7_gap 28 = .ok (.iload_n 2, 1) := by decide +kernel
theorem dX7_gap_29 : decode cX7_gap 29 = .ok (.ireturn, 1) := by decide +kernel
theorem dX7_balloon_0 : decode cX7_balloon 0 = .ok (.iconst 0, 1) := by decide +kernel
theorem dX7_balloon_1 : decode cX7_balloon 1 = .ok (.iload_n 1, 1) := by decide +kernel
theorem dX7_balloon_2 : decode cX7_balloon 2 = .ok (.invokestatic 107, 3) := by decide +kernel
theorem dX7_balloon_5 : decode cX7_balloon 5 = .ok (.ifCond .eq 19, 3) := by decide +kernel
theorem dX7_balloon_8 : decode cX7_balloon 8 = .ok (.iconst 1, 1) := by decide +kernel
theorem dX7_balloon_9 : decode cX7_balloon 9 = .ok (.iload_n 2, 1) := by decide +kernel
theorem dX7_balloon_10 : decode cX7_balloon 10 = .ok (.invokestatic 107, 3) := by decide +kernel
theorem dX7_balloon_13 : decode cX7_balloon 13 = .ok (.ifCond .eq 11, 3) := by decide +kernel
theorem dX7_balloon_16 : decode cX7_balloon 16 = .ok (.iconst 2, 1) := by decide +kernel
theorem dX7_balloon_17 : decode cX7_balloon 17 = .ok (.iload_n 3, 1) := by decide +kernel
theorem dX7_balloon_18 : decode cX7_balloon 18 = .ok (.invokestatic 107, 3) := by decide +kernel
theorem dX7_balloon_21 : decode cX7_balloon 21 = .ok (.ifCond .ne 5, 3) := by decide +kernel
theorem dX7_balloon_24 : decode cX7_balloon 24 = .ok (.iconst (-1), 1) := by decide +kernel
theorem dX7_balloon_25 : decode cX7_balloon 25 = .ok (.ireturn, 1) := by decide +kernel
theorem dX7_balloon_26 : decode cX7_balloon 26 = .ok (.aload_n 0, 1) := by decide +kernel
theorem dX7_balloon_27 : decode cX7_balloon 27 = .ok (.getfield 10, 3) := by decide +kernel
theorem dX7_balloon_30 : decode cX7_balloon 30 = .ok (.getfield 93, 3) := by decide +kernel
theorem dX7_balloon_33 : decode cX7_balloon 33 = .ok (.bipush 6, 2) := by decide +kernel
theorem dX7_balloon_35 : decode cX7_balloon 35 = .ok (.if_icmp .lt 6, 3) := by decide +kernel
theorem dX7_balloon_38 : decode cX7_balloon 38 = .ok (.bipush (-2), 2) := by decide +kernel
