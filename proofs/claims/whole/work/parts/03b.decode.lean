theorem dX7_balloon_40 : decode cX7_balloon 40 = .ok (.ireturn, 1) := by decide +kernel
theorem dX7_balloon_41 : decode cX7_balloon 41 = .ok (.aload_n 0, 1) := by decide +kernel
theorem dX7_balloon_42 : decode cX7_balloon 42 = .ok (.getfield 10, 3) := by decide +kernel
theorem dX7_balloon_45 : decode cX7_balloon 45 = .ok (.iload_n 1, 1) := by decide +kernel
theorem dX7_balloon_46 : decode cX7_balloon 46 = .ok (.iload_n 2, 1) := by decide +kernel
theorem dX7_balloon_47 : decode cX7_balloon 47 = .ok (.iload_n 3, 1) := by decide +kernel
theorem dX7_balloon_48 : decode cX7_balloon 48 = .ok (.invokevirtual 111, 3) := by decide +kernel
theorem dX7_balloon_51 : decode cX7_balloon 51 = .ok (.aload_n 0, 1) := by decide +kernel
theorem dX7_balloon_52 : decode cX7_balloon 52 = .ok (.getfield 10, 3) := by decide +kernel
theorem dX7_balloon_55 : decode cX7_balloon 55 = .ok (.getfield 93, 3) := by decide +kernel
theorem dX7_balloon_58 : decode cX7_balloon 58 = .ok (.iconst 1, 1) := by decide +kernel
theorem dX7_balloon_59 : decode cX7_balloon 59 = .ok (.isub, 1) := by decide +kernel
theorem dX7_balloon_60 : decode cX7_balloon 60 = .ok (.ireturn, 1) := by decide +kernel
theorem dX7_balloonOf_0 : decode cX7_balloonOf 0 = .ok (.aload_n 0, 1) := by decide +kernel
theorem dX7_balloonOf_1 : decode cX7_balloonOf 1 = .ok (.getfield 10, 3) := by decide +kernel
theorem dX7_balloonOf_4 : decode cX7_balloonOf 4 = .ok (.iload_n 1, 1) := by decide +kernel
theorem dX7_balloonOf_5 : decode cX7_balloonOf 5 = .ok (.invokevirtual 115, 3) := by decide +kernel
theorem dX7_balloonOf_8 : decode cX7_balloonOf 8 = .ok (.ifCond .eq 13, 3) := by decide +kernel
theorem dX7_balloonOf_11 : decode cX7_balloonOf 11 = .ok (.iload_n 2, 1) := by decide +kernel
theorem dX7_balloonOf_12 : decode cX7_balloonOf 12 = .ok (.iconst 0, 1) := by decide +kernel
theorem dX7_balloonOf_13 : decode cX7_balloonOf 13 = .ok (.bipush 11, 2) := by decide +kernel
theorem dX7_balloonOf_15 : decode cX7_balloonOf 15 = .ok (.invokestatic 72, 3) := by decide +kernel
theorem dX7_balloonOf_18 : decode cX7_balloonOf 18 = .ok (.ifCond .ne 5, 3) := by decide +kernel
theorem dX7_balloonOf_21 : decode cX7_balloonOf 21 = .ok (.iconst (-1), 1) := by decide +kernel
theorem dX7_balloonOf_22 : decode cX7_balloonOf 22 = .ok (.ireturn, 1) := by decide +kernel
theorem dX7_balloonOf_23 : decode cX7_balloonOf 23 = .ok (.aload_n 0, 1) := by decide +kernel
theorem dX7_balloonOf_24 : decode cX7_balloonOf 24 = .ok (.getfield 10, 3) := by decide +kernel
theorem dX7_balloonOf_27 : decode cX7_balloonOf 27 = .ok (.getfield 118, 3) := by decide +kernel
theorem dX7_balloonOf_30 : decode cX7_balloonOf 30 = .ok (.iload_n 1, 1) := by decide +kernel
theorem dX7_balloonOf_31 : decode cX7_balloonOf 31 = .ok (.aaload, 1) := by decide +kernel
theorem dX7_balloonOf_32 : decode cX7_balloonOf 32 = .ok (.astore_n 3, 1) := by decide +kernel
theorem dX7_balloonOf_33 : decode cX7_balloonOf 33 = .ok (.iload_n 2, 1) := by decide +kernel
theorem dX7_balloonOf_34 : decode cX7_balloonOf 34 = .ok (.tableswitch 63 9 11 #[26, 31, 51], 26) := by decide +kernel
theorem dX7_balloonOf_60 : decode cX7_balloonOf 60 = .ok (.aload_n 3, 1) := by decide +kernel
theorem dX7_balloonOf_61 : decode cX7_balloonOf 61 = .ok (.invokevirtual 122, 3) := by decide +kernel
theorem dX7_balloonOf_64 : decode cX7_balloonOf 64 = .ok (.ireturn, 1) := by decide +kernel
theorem dX7_balloonOf_65 : decode cX7_balloonOf 65 = .ok (.aload_n 3, 1) := by decide +kernel
theorem dX7_balloonOf_66 : decode cX7_balloonOf 66 = .ok (.aload_n 0, 1) := by decide +kernel
theorem dX7_balloonOf_67 : decode cX7_balloonOf 67 = .ok (.getfield 10, 3) := by decide +kernel
theorem dX7_balloonOf_70 : decode cX7_balloonOf 70 = .ok (.getfield 100, 3) := by decide +kernel
theorem dX7_balloonOf_73 : decode cX7_balloonOf 73 = .ok (.aload_n 0, 1) := by decide +kernel
theorem dX7_balloonOf_74 : decode cX7_balloonOf 74 = .ok (.getfield 10, 3) := by decide +kernel
theorem dX7_balloonOf_77 : decode cX7_balloonOf 77 = .ok (.invokevirtual 128, 3) := by decide +kernel
theorem dX7_balloonOf_80 : decode cX7_balloonOf 80 = .ok (.iaload, 1) := by decide +kernel
theorem dX7_balloonOf_81 : decode cX7_balloonOf 81 = .ok (.invokevirtual 131, 3) := by decide +kernel
theorem dX7_balloonOf_84 : decode cX7_balloonOf 84 = .ok (.ireturn, 1) := by decide +kernel
theorem dX7_balloonOf_85 : decode cX7_balloonOf 85 = .ok (.aload_n 3, 1) := by decide +kernel
theorem dX7_balloonOf_86 : decode cX7_balloonOf 86 = .ok (.aload_n 0, 1) := by decide +kernel
theorem dX7_balloonOf_87 : decode cX7_balloonOf 87 = .ok (.getfield 10, 3) := by decide +kernel
theorem dX7_balloonOf_90 : decode cX7_balloonOf 90 = .ok (.invokevirtual 128, 3) := by decide +kernel
theorem dX7_balloonOf_93 : decode cX7_balloonOf 93 = .ok (.invokevirtual 135, 3) := by decide +kernel
theorem dX7_balloonOf_96 : decode cX7_balloonOf 96 = .ok (.ireturn, 1) := by decide +kernel
theorem dX7_balloonOf_97 : decode cX7_balloonOf 97 = .ok (.aload_n 3, 1) := by decide +kernel
theorem dX7_balloonOf_98 : decode cX7_balloonOf 98 = .ok (.getfield 138, 3) := by decide +kernel
theorem dX7_balloonOf_101 : decode cX7_balloonOf 101 = .ok (.iload_n 2, 1) := by decide +kernel
theorem dX7_balloonOf_102 : decode cX7_balloonOf 102 = .ok (.iaload, 1) := by decide +kernel
theorem dX7_balloonOf_103 : decode cX7_balloonOf 103 = .ok (.ireturn, 1) := by decide +kernel
theorem dX7_becomes_0 : decode cX7_becomes 0 = .ok (.aload_n 0, 1) := by decide +kernel
theorem dX7_becomes_1 : decode cX7_becomes 1 = .ok (.getfield 10, 3) := by decide +kernel
theorem dX7_becomes_4 : decode cX7_becomes 4 = .ok (.iload_n 1, 1) := by decide +kernel
theorem dX7_becomes_5 : decode cX7_becomes 5 = .ok (.invokevirtual 115, 3) := by decide +kernel
theorem dX7_becomes_8 : decode cX7_becomes 8 = .ok (.ifCond .eq 21, 3) := by decide +kernel
theorem dX7_becomes_11 : decode cX7_becomes 11 = .ok (.iload_n 2, 1) := by decide +kernel
theorem dX7_becomes_12 : decode cX7_becomes 12 = .ok (.iconst 2, 1) := by decide +kernel
theorem dX7_becomes_13 : decode cX7_becomes 13 = .ok (.bipush 8, 2) := by decide +kernel
theorem dX7_becomes_15 : decode cX7_becomes 15 = .ok (.invokestatic 72, 3) := by decide +kernel
theorem dX7_becomes_18 : decode cX7_becomes 18 = .ok (.ifCond .eq 11, 3) := by decide +kernel
theorem dX7_becomes_21 : decode cX7_becomes 21 = .ok (.iload_n 2, 1) := by decide +kernel
theorem dX7_becomes_22 : decode cX7_becomes 22 = .ok (.iload_n 3, 1) := by decide +kernel
theorem dX7_becomes_23 : decode cX7_becomes 23 = .ok (.invokestatic 107, 3) := by decide +kernel
theorem dX7_becomes_26 : decode cX7_becomes 26 = .ok (.ifCond .ne 5, 3) := by decide +kernel
theorem dX7_becomes_29 : decode cX7_becomes 29 = .ok (.iconst (-1), 1) := by decide +kernel
theorem dX7_becomes_30 : decode cX7_becomes 30 = .ok (.ireturn, 1) := by decide +kernel
theorem dX7_becomes_31 : decode cX7_becomes 31 = .ok (.aload_n 0, 1) := by decide +kernel
theorem dX7_becomes_32 : decode cX7_becomes 32 = .ok (.getfield 10, 3) := by decide +kernel
theorem dX7_becomes_35 : decode cX7_becomes 35 = .ok (.getfield 118, 3) := by decide +kernel
theorem dX7_becomes_38 : decode cX7_becomes 38 = .ok (.iload_n 1, 1) := by decide +kernel
theorem dX7_becomes_39 : decode cX7_becomes 39 = .ok (.aaload, 1) := by decide +kernel
theorem dX7_becomes_40 : decode cX7_becomes 40 = .ok (.astore 4, 2) := by decide +kernel
theorem dX7_becomes_42 : decode cX7_becomes 42 = .ok (.aload 4, 2) := by decide +kernel
theorem dX7_becomes_44 : decode cX7_becomes 44 = .ok (.getfield 138, 3) := by decide +kernel
theorem dX7_becomes_47 : decode cX7_becomes 47 = .ok (.iload_n 2, 1) := by decide +kernel
theorem dX7_becomes_48 : decode cX7_becomes 48 = .ok (.iaload, 1) := by decide +kernel
theorem dX7_becomes_49 : decode cX7_becomes 49 = .ok (.istore 5, 2) := by decide +kernel
theorem dX7_becomes_51 : decode cX7_becomes 51 = .ok (.aload 4, 2) := by decide +kernel
theorem dX7_becomes_53 : decode cX7_becomes 53 = .ok (.getfield 138, 3) := by decide +kernel
theorem dX7_becomes_56 : decode cX7_becomes 56 = .ok (.iload_n 2, 1) := by decide +kernel
theorem dX7_becomes_57 : decode cX7_becomes 57 = .ok (.iload_n 3, 1) := by decide +kernel
theorem dX7_becomes_58 : decode cX7_becomes 58 = .ok (.iastore, 1) := by decide +kernel
theorem dX7_becomes_59 : decode cX7_becomes 59 = .ok (.iload 5, 2) := by decide +kernel
theorem dX7_becomes_61 : decode cX7_becomes 61 = .ok (.ireturn, 1) := by decide +kernel
theorem dX7_mind_0 : decode cX7_mind 0 = .ok (.aload_n 0, 1) := by decide +kernel
theorem dX7_mind_1 : decode cX7_mind 1 = .ok (.getfield 10, 3) := by decide +kernel
theorem dX7_mind_4 : decode cX7_mind 4 = .ok (.iload_n 1, 1) := by decide +kernel
theorem dX7_mind_5 : decode cX7_mind 5 = .ok (.invokevirtual 115, 3) := by decide +kernel
theorem dX7_mind_8 : decode cX7_mind 8 = .ok (.ifCond .eq 19, 3) := by decide +kernel
theorem dX7_mind_11 : decode cX7_mind 11 = .ok (.iconst 0, 1) := by decide +kernel
theorem dX7_mind_12 : decode cX7_mind 12 = .ok (.iload_n 2, 1) := by decide +kernel
theorem dX7_mind_13 : decode cX7_mind 13 = .ok (.invokestatic 107, 3) := by decide +kernel
theorem dX7_mind_16 : decode cX7_mind 16 = .ok (.ifCond .eq 11, 3) := by decide +kernel
theorem dX7_mind_19 : decode cX7_mind 19 = .ok (.iconst 1, 1) := by decide +kernel
theorem dX7_mind_20 : decode cX7_mind 20 = .ok (.iload_n 3, 1) := by decide +kernel
theorem dX7_mind_21 : decode cX7_mind 21 = .ok (.invokestatic 107, 3) := by decide +kernel
theorem dX7_mind_24 : decode cX7_mind 24 = .ok (.ifCond .ne 5, 3) := by decide +kernel
theorem dX7_mind_27 : decode cX7_mind 27 = .ok (.iconst (-1), 1) := by decide +kernel
theorem dX7_mind_28 : decode cX7_mind 28 = .ok (.ireturn, 1) := by decide +kernel
theorem dX7_mind_29 : decode cX7_mind 29 = .ok (.aload_n 0, 1) := by decide +kernel
theorem dX7_mind_30 : decode cX7_mind 30 = .ok (.getfield 10, 3) := by decide +kernel
theorem dX7_mind_33 : decode cX7_mind 33 = .ok (.getfield 118, 3) := by decide +kernel
theorem dX7_mind_36 : decode cX7_mind 36 = .ok (.iload_n 1, 1) := by decide +kernel
theorem dX7_mind_37 : decode cX7_mind 37 = .ok (.aaload, 1) := by decide +kernel
theorem dX7_mind_38 : decode cX7_mind 38 = .ok (.astore 4, 2) := by decide +kernel
theorem dX7_mind_40 : decode cX7_mind 40 = .ok (.aload 4, 2) := by decide +kernel
theorem dX7_mind_42 : decode cX7_mind 42 = .ok (.getfield 138, 3) := by decide +kernel
theorem dX7_mind_45 : decode cX7_mind 45 = .ok (.iconst 0, 1) := by decide +kernel
theorem dX7_mind_46 : decode cX7_mind 46 = .ok (.iaload, 1) := by decide +kernel
theorem dX7_mind_47 : decode cX7_mind 47 = .ok (.istore 5, 2) := by decide +kernel
theorem dX7_mind_49 : decode cX7_mind 49 = .ok (.aload 4, 2) := by decide +kernel
theorem dX7_mind_51 : decode cX7_mind 51 = .ok (.getfield 138, 3) := by decide +kernel
theorem dX7_mind_54 : decode cX7_mind 54 = .ok (.iconst 0, 1) := by decide +kernel
theorem dX7_mind_55 : decode cX7_mind 55 = .ok (.iload_n 2, 1) := by decide +kernel
theorem dX7_mind_56 : decode cX7_mind 56 = .ok (.iastore, 1) := by decide +kernel
theorem dX7_mind_57 : decode cX7_mind 57 = .ok (.aload 4, 2) := by decide +kernel
theorem dX7_mind_59 : decode cX7_mind 59 = .ok (.getfield 138, 3) := by decide +kernel
theorem dX7_mind_62 : decode cX7_mind 62 = .ok (.iconst 1, 1) := by decide +kernel
theorem dX7_mind_63 : decode cX7_mind 63 = .ok (.iload_n 3, 1) := by decide +kernel
theorem dX7_mind_64 : decode cX7_mind 64 = .ok (.iastore, 1) := by decide +kernel
theorem dX7_mind_65 : decode cX7_mind 65 = .ok (.iload 5, 2) := by decide +kernel
theorem dX7_mind_67 : decode cX7_mind 67 = .ok (.ireturn, 1) := by decide +kernel
theorem dX7_pour_0 : decode cX7_pour 0 = .ok (.aload_n 0, 1) := by decide +kernel
theorem dX7_pour_1 : decode cX7_pour 1 = .ok (.getfield 10, 3) := by decide +kernel
theorem dX7_pour_4 : decode cX7_pour 4 = .ok (.iload_n 1, 1) := by decide +kernel
theorem dX7_pour_5 : decode cX7_pour 5 = .ok (.invokevirtual 115, 3) := by decide +kernel
theorem dX7_pour_8 : decode cX7_pour 8 = .ok (.ifCond .eq 17, 3) := by decide +kernel
theorem dX7_pour_11 : decode cX7_pour 11 = .ok (.iload_n 2, 1) := by decide +kernel
theorem dX7_pour_12 : decode cX7_pour 12 = .ok (.iconst 1, 1) := by decide +kernel
theorem dX7_pour_13 : decode cX7_pour 13 = .ok (.getstatic 141, 3) := by decide +kernel
theorem dX7_pour_16 : decode cX7_pour 16 = .ok (.bipush 6, 2) := by decide +kernel
theorem dX7_pour_18 : decode cX7_pour 18 = .ok (.iaload, 1) := by decide +kernel
theorem dX7_pour_19 : decode cX7_pour 19 = .ok (.invokestatic 72, 3) := by decide +kernel
theorem dX7_pour_22 : decode cX7_pour 22 = .ok (.ifCond .ne 5, 3) := by decide +kernel
theorem dX7_pour_25 : decode cX7_pour 25 = .ok (.iconst (-1), 1) := by decide +kernel
theorem dX7_pour_26 : decode cX7_pour 26 = .ok (.ireturn, 1) := by decide +kernel
theorem dX7_pour_27 : decode cX7_pour 27 = .ok (.aload_n 0, 1) := by decide +kernel
theorem dX7_pour_28 : decode cX7_pour 28 = .ok (.getfield 10, 3) := by decide +kernel
theorem dX7_pour_31 : decode cX7_pour 31 = .ok (.getfield 118, 3) := by decide +kernel
theorem dX7_pour_34 : decode cX7_pour 34 = .ok (.iload_n 1, 1) := by decide +kernel
theorem dX7_pour_35 : decode cX7_pour 35 = .ok (.aaload, 1) := by decide +kernel
theorem dX7_pour_36 : decode cX7_pour 36 = .ok (.astore_n 3, 1) := by decide +kernel
theorem dX7_pour_37 : decode cX7_pour 37 = .ok (.aload_n 3, 1) := by decide +kernel
theorem dX7_pour_38 : decode cX7_pour 38 = .ok (.getfield 138, 3) := by decide +kernel
theorem dX7_pour_41 : decode cX7_pour 41 = .ok (.bipush 6, 2) := by decide +kernel
theorem dX7_pour_43 : decode cX7_pour 43 = .ok (.iaload, 1) := by decide +kernel
theorem dX7_pour_44 : decode cX7_pour 44 = .ok (.iload_n 2, 1) := by decide +kernel
theorem dX7_pour_45 : decode cX7_pour 45 = .ok (.if_icmp .ge 6, 3) := by decide +kernel
theorem dX7_pour_48 : decode cX7_pour 48 = .ok (.bipush (-4), 2) := by decide +kernel
theorem dX7_pour_50 : decode cX7_pour 50 = .ok (.ireturn, 1) := by decide +kernel
theorem dX7_pour_51 : decode cX7_pour 51 = .ok (.aload_n 3, 1) := by decide +kernel
theorem dX7_pour_52 : decode cX7_pour 52 = .ok (.getfield 138, 3) := by decide +kernel
theorem dX7_pour_55 : decode cX7_pour 55 = .ok (.bipush 6, 2) := by decide +kernel
theorem dX7_pour_57 : decode cX7_pour 57 = .ok (.dup2, 1) := by decide +kernel
theorem dX7_pour_58 : decode cX7_pour 58 = .ok (.iaload, 1) := by decide +kernel
theorem dX7_pour_59 : decode cX7_pour 59 = .ok (.iload_n 2, 1) := by decide +kernel
theorem dX7_pour_60 : decode cX7_pour 60 = .ok (.isub, 1) := by decide +kernel
theorem dX7_pour_61 : decode cX7_pour 61 = .ok (.iastore, 1) := by decide +kernel
theorem dX7_pour_62 : decode cX7_pour 62 = .ok (.aload_n 3, 1) := by decide +kernel
theorem dX7_pour_63 : decode cX7_pour 63 = .ok (.getfield 138, 3) := by decide +kernel
theorem dX7_pour_66 : decode cX7_pour 66 = .ok (.bipush 6, 2) := by decide +kernel
theorem dX7_pour_68 : decode cX7_pour 68 = .ok (.iaload, 1) := by decide +kernel
theorem dX7_pour_69 : decode cX7_pour 69 = .ok (.ireturn, 1) := by decide +kernel
theorem dX7_give_0 : decode cX7_give 0 = .ok (.aload_n 0, 1) := by decide +kernel
theorem dX7_give_1 : decode cX7_give 1 = .ok (.getfield 10, 3) := by decide +kernel
theorem dX7_give_4 : decode cX7_give 4 = .ok (.iload_n 1, 1) := by decide +kernel
theorem dX7_give_5 : decode cX7_give 5 = .ok (.invokevirtual 115, 3) := by decide +kernel
theorem dX7_give_8 : decode cX7_give 8 = .ok (.ifCond .eq 19, 3) := by decide +kernel
theorem dX7_give_11 : decode cX7_give 11 = .ok (.aload_n 0, 1) := by decide +kernel
theorem dX7_give_12 : decode cX7_give 12 = .ok (.getfield 10, 3) := by decide +kernel
theorem dX7_give_15 : decode cX7_give 15 = .ok (.iload_n 2, 1) := by decide +kernel
theorem dX7_give_16 : decode cX7_give 16 = .ok (.invokevirtual 115, 3) := by decide +kernel
theorem dX7_give_19 : decode cX7_give 19 = .ok (.ifCond .eq 8, 3) := by decide +kernel
theorem dX7_give_22 : decode cX7_give 22 = .ok (.iload_n 1, 1) := by decide +kernel
theorem dX7_give_23 : decode cX7_give 23 = .ok (.iload_n 2, 1) := by decide +kernel
theorem dX7_give_24 : decode cX7_give 24 = .ok (.if_icmp .ne 5, 3) := by decide +kernel
theorem dX7_give_27 : decode cX7_give 27 = .ok (.iconst (-1), 1) := by decide +kernel
theorem dX7_give_28 : decode cX7_give 28 = .ok (.ireturn, 1) := by decide +kernel
theorem dX7_give_29 : decode cX7_give 29 = .ok (.iload_n 3, 1) := by decide +kernel
theorem dX7_give_30 : decode cX7_give 30 = .ok (.iconst 0, 1) := by decide +kernel
theorem dX7_give_31 : decode cX7_give 31 = .ok (.iconst 1, 1) := by decide +kernel
theorem dX7_give_32 : decode cX7_give 32 = .ok (.invokestatic 72, 3) := by decide +kernel
theorem dX7_give_35 : decode cX7_give 35 = .ok (.ifCond .eq 14, 3) := by decide +kernel
theorem dX7_give_38 : decode cX7_give 38 = .ok (.iload 4, 2) := by decide +kernel
theorem dX7_give_40 : decode cX7_give 40 = .ok (.iconst 1, 1) := by decide +kernel
theorem dX7_give_41 : decode cX7_give 41 = .ok (.bipush 99, 2) := by decide +kernel
theorem dX7_give_43 : decode cX7_give 43 = .ok (.invokestatic 72, 3) := by decide +kernel
theorem dX7_give_46 : decode cX7_give 46 = .ok (.ifCond .ne 5, 3) := by decide +kernel
theorem dX7_give_49 : decode cX7_give 49 = .ok (.iconst (-1), 1) := by decide +kernel
theorem dX7_give_50 : decode cX7_give 50 = .ok (.ireturn, 1) := by decide +kernel
theorem dX7_give_51 : decode cX7_give 51 = .ok (.iload_n 3, 1) := by decide +kernel
theorem dX7_give_52 : decode cX7_give 52 = .ok (.ifCond .ne 8, 3) := by decide +kernel
theorem dX7_give_55 : decode cX7_give 55 = .ok (.bipush 6, 2) := by decide +kernel
theorem dX7_give_57 : decode cX7_give 57 = .ok (.goto 5, 3) := by decide +kernel
theorem dX7_give_60 : decode cX7_give 60 = .ok (.bipush 7, 2) := by decide +kernel
theorem dX7_give_62 : decode cX7_give 62 = .ok (.istore 5, 2) := by decide +kernel
theorem dX7_give_64 : decode cX7_give 64 = .ok (.aload_n 0, 1) := by decide +kernel
theorem dX7_give_65 : decode cX7_give 65 = .ok (.getfield 10, 3) := by decide +kernel
theorem dX7_give_68 : decode cX7_give 68 = .ok (.iload_n 1, 1) := by decide +kernel
theorem dX7_give_69 : decode cX7_give 69 = .ok (.iload_n 2, 1) := by decide +kernel
theorem dX7_give_70 : decode cX7_give 70 = .ok (.iload 5, 2) := by decide +kernel
theorem dX7_give_72 : decode cX7_give 72 = .ok (.iload 4, 2) := by decide +kernel
theorem dX7_give_74 : decode cX7_give 74 = .ok (.invokevirtual 144, 3) := by decide +kernel
theorem dX7_give_77 : decode cX7_give 77 = .ok (.ifCond .ne 6, 3) := by decide +kernel
theorem dX7_give_80 : decode cX7_give 80 = .ok (.bipush (-4), 2) := by decide +kernel
theorem dX7_give_82 : decode cX7_give 82 = .ok (.ireturn, 1) := by decide +kernel
theorem dX7_give_83 : decode cX7_give 83 = .ok (.aload_n 0, 1) := by decide +kernel
theorem dX7_give_84 : decode cX7_give 84 = .ok (.getfield 10, 3) := by decide +kernel
theorem dX7_give_87 : decode cX7_give 87 = .ok (.getfield 118, 3) := by decide +kernel
theorem dX7_give_90 : decode cX7_give 90 = .ok (.iload_n 1, 1) := by decide +kernel
theorem dX7_give_91 : decode cX7_give 91 = .ok (.aaload, 1) := by decide +kernel
theorem dX7_give_92 : decode cX7_give 92 = .ok (.getfield 138, 3) := by decide +kernel
theorem dX7_give_95 : decode cX7_give 95 = .ok (.iload 5, 2) := by decide +kernel
theorem dX7_give_97 : decode cX7_give 97 = .ok (.dup2, 1) := by decide +kernel
theorem dX7_give_98 : decode cX7_give 98 = .ok (.iaload, 1) := by decide +kernel
theorem dX7_give_99 : decode cX7_give 99 = .ok (.iload 4, 2) := by decide +kernel
theorem dX7_give_101 : decode cX7_give 101 = .ok (.isub, 1) := by decide +kernel
theorem dX7_give_102 : decode cX7_give 102 = .ok (.iastore, 1) := by decide +kernel
theorem dX7_give_103 : decode cX7_give 103 = .ok (.aload_n 0, 1) := by decide +kernel
theorem dX7_give_104 : decode cX7_give 104 = .ok (.getfield 10, 3) := by decide +kernel
theorem dX7_give_107 : decode cX7_give 107 = .ok (.getfield 118, 3) := by decide +kernel
theorem dX7_give_110 : decode cX7_give 110 = .ok (.iload_n 2, 1) := by decide +kernel
theorem dX7_give_111 : decode cX7_give 111 = .ok (.aaload, 1) := by decide +kernel
theorem dX7_give_112 : decode cX7_give 112 = .ok (.getfield 138, 3) := by decide +kernel
theorem dX7_give_115 : decode cX7_give 115 = .ok (.iload 5, 2) := by decide +kernel
theorem dX7_give_117 : decode cX7_give 117 = .ok (.dup2, 1) := by decide +kernel
theorem dX7_give_118 : decode cX7_give 118 = .ok (.iaload, 1) := by decide +kernel
theorem dX7_give_119 : decode cX7_give 119 = .ok (.iload 4, 2) := by decide +kernel
theorem dX7_give_121 : decode cX7_give 121 = .ok (.iadd, 1) := by decide +kernel
theorem dX7_give_122 : decode cX7_give 122 = .ok (.iastore, 1) := by decide +kernel
theorem dX7_give_123 : decode cX7_give 123 = .ok (.aload_n 0, 1) := by decide +kernel
theorem dX7_give_124 : decode cX7_give 124 = .ok (.getfield 10, 3) := by decide +kernel
theorem dX7_give_127 : decode cX7_give 127 = .ok (.getfield 118, 3) := by decide +kernel
theorem dX7_give_130 : decode cX7_give 130 = .ok (.iload_n 2, 1) := by decide +kernel
theorem dX7_give_131 : decode cX7_give 131 = .ok (.aaload, 1) := by decide +kernel
theorem dX7_give_132 : decode cX7_give 132 = .ok (.getfield 138, 3) := by decide +kernel
theorem dX7_give_135 : decode cX7_give 135 = .ok (.iload 5, 2) := by decide +kernel
theorem dX7_give_137 : decode cX7_give 137 = .ok (.iaload, 1) := by decide +kernel
theorem dX7_give_138 : decode cX7_give 138 = .ok (.ireturn, 1) := by decide +kernel
theorem dX7_touches_0 : decode cX7_touches 0 = .ok (.aload_n 0, 1) := by decide +kernel
theorem dX7_touches_1 : decode cX7_touches 1 = .ok (.getfield 10, 3) := by decide +kernel
theorem dX7_touches_4 : decode cX7_touches 4 = .ok (.iload_n 1, 1) := by decide +kernel
theorem dX7_touches_5 : decode cX7_touches 5 = .ok (.invokevirtual 115, 3) := by decide +kernel
theorem dX7_touches_8 : decode cX7_touches 8 = .ok (.ifCond .eq 14, 3) := by decide +kernel
theorem dX7_touches_11 : decode cX7_touches 11 = .ok (.aload_n 0, 1) := by decide +kernel
theorem dX7_touches_12 : decode cX7_touches 12 = .ok (.getfield 10, 3) := by decide +kernel
theorem dX7_touches_15 : decode cX7_touches 15 = .ok (.iload_n 1, 1) := by decide +kernel
theorem dX7_touches_16 : decode cX7_touches 16 = .ok (.invokevirtual 148, 3) := by decide +kernel
theorem dX7_touches_19 : decode cX7_touches 19 = .ok (.goto 4, 3) := by decide +kernel
theorem dX7_touches_22 : decode cX7_touches 22 = .ok (.iconst (-1), 1) := by decide +kernel
theorem dX7_touches_23 : decode cX7_touches 23 = .ok (.ireturn, 1) := by decide +kernel
theorem dX7_above_0 : decode cX7_above 0 = .ok (.aload_n 0, 1) := by decide +kernel
theorem dX7_above_1 : decode cX7_above 1 = .ok (.getfield 10, 3) := by decide +kernel
theorem dX7_above_4 : decode cX7_above 4 = .ok (.iload_n 1, 1) := by decide +kernel
theorem dX7_above_5 : decode cX7_above 5 = .ok (.invokevirtual 115, 3) := by decide +kernel
theorem dX7_above_8 : decode cX7_above 8 = .ok (.ifCond .eq 12, 3) := by decide +kernel
theorem dX7_above_11 : decode cX7_above 11 = .ok (.iload_n 2, 1) := by decide +kernel
theorem dX7_above_12 : decode cX7_above 12 = .ok (.iconst 0, 1) := by decide +kernel
theorem dX7_above_13 : decode cX7_above 13 = .ok (.iconst 1, 1) := by decide +kernel
theorem dX7_above_14 : decode cX7_above 14 = .ok (.invokestatic 72, 3) := by decide +kernel
theorem dX7_above_17 : decode cX7_above 17 = .ok (.ifCond .ne 5, 3) := by decide +kernel
theorem dX7_above_20 : decode cX7_above 20 = .ok (.iconst (-1), 1) := by decide +kernel
theorem dX7_above_21 : decode cX7_above 21 = .ok (.ireturn, 1) := by decide +kernel
theorem dX7_above_22 : decode cX7_above 22 = .ok (.iload_n 2, 1) := by decide +kernel
theorem dX7_above_23 : decode cX7_above 23 = .ok (.ifCond .ne 14, 3) := by decide +kernel
theorem dX7_above_26 : decode cX7_above 26 = .ok (.aload_n 0, 1) := by decide +kernel
theorem dX7_above_27 : decode cX7_above 27 = .ok (.getfield 10, 3) := by decide +kernel
theorem dX7_above_30 : decode cX7_above 30 = .ok (.iload_n 1, 1) := by decide +kernel
theorem dX7_above_31 : decode cX7_above 31 = .ok (.invokevirtual 151, 3) := by decide +kernel
theorem dX7_above_34 : decode cX7_above 34 = .ok (.goto 11, 3) := by decide +kernel
theorem dX7_above_37 : decode cX7_above 37 = .ok (.aload_n 0, 1) := by decide +kernel
theorem dX7_above_38 : decode cX7_above 38 = .ok (.getfield 10, 3) := by decide +kernel
theorem dX7_above_41 : decode cX7_above 41 = .ok (.iload_n 1, 1) := by decide +kernel
theorem dX7_above_42 : decode cX7_above 42 = .ok (.invokevirtual 154, 3) := by decide +kernel
theorem dX7_above_45 : decode cX7_above 45 = .ok (.ireturn, 1) := by decide +kernel
theorem dX7_hours_0 : decode cX7_hours 0 = .ok (.iload_n 1, 1) := by decide +kernel
theorem dX7_hours_1 : decode cX7_hours 1 = .ok (.iconst 0, 1) := by decide +kernel
theorem dX7_hours_2 : decode cX7_hours 2 = .ok (.bipush 48, 2) := by decide +kernel
theorem dX7_hours_4 : decode cX7_hours 4 = .ok (.invokestatic 72, 3) := by decide +kernel
theorem dX7_hours_7 : decode cX7_hours 7 = .ok (.ifCond .ne 5, 3) := by decide +kernel
theorem dX7_hours_10 : decode cX7_hours 10 = .ok (.iconst (-1), 1) := by decide +kernel
theorem dX7_hours_11 : decode cX7_hours 11 = .ok (.ireturn, 1) := by decide +kernel
theorem dX7_hours_12 : decode cX7_hours 12 = .ok (.iconst 0, 1) := by decide +kernel
theorem dX7_hours_13 : decode cX7_hours 13 = .ok (.istore_n 2, 1) := by decide +kernel
theorem dX7_hours_14 : decode cX7_hours 14 = .ok (.iload_n 2, 1) := by decide +kernel
theorem dX7_hours_15 : decode cX7_hours 15 = .ok (.iload_n 1, 1) := by decide +kernel
theorem dX7_hours_16 : decode cX7_hours 16 = .ok (.if_icmp .ge 28, 3) := by decide +kernel
theorem dX7_hours_19 : decode cX7_hours 19 = .ok (.aload_n 0, 1) := by decide +kernel
theorem dX7_hours_20 : decode cX7_hours 20 = .ok (.getfield 10, 3) := by decide +kernel
theorem dX7_hours_23 : decode cX7_hours 23 = .ok (.getfield 157, 3) := by decide +kernel
theorem dX7_hours_26 : decode cX7_hours 26 = .ok (.bipush 96, 2) := by decide +kernel
theorem dX7_hours_28 : decode cX7_hours 28 = .ok (.if_icmp .ge 16, 3) := by decide +kernel
theorem dX7_hours_31 : decode cX7_hours 31 = .ok (.aload_n 0, 1) := by decide +kernel
theorem dX7_hours_32 : decode cX7_hours 32 = .ok (.getfield 10, 3) := by decide +kernel
theorem dX7_hours_35 : decode cX7_hours 35 = .ok (.invokevirtual 160, 3) := by decide +kernel
theorem dX7_hours_38 : decode cX7_hours 38 = .ok (.iinc 2 1, 3) := by decide +kernel
theorem dX7_hours_41 : decode cX7_hours 41 = .ok (.goto (-27), 3) := by decide +kernel
theorem dX7_hours_44 : decode cX7_hours 44 = .ok (.aload_n 0, 1) := by decide +kernel
theorem dX7_hours_45 : decode cX7_hours 45 = .ok (.getfield 10, 3) := by decide +kernel
theorem dX7_hours_48 : decode cX7_hours 48 = .ok (.getfield 157, 3) := by decide +kernel
theorem dX7_hours_51 : decode cX7_hours 51 = .ok (.ireturn, 1) := by decide +kernel
theorem dX7_clock_0 : decode cX7_clock 0 = .ok (.iload_n 1, 1) := by decide +kernel
theorem dX7_clock_1 : decode cX7_clock 1 = .ok (.iconst 0, 1) := by decide +kernel
theorem dX7_clock_2 : decode cX7_clock 2 = .ok (.bipush 96, 2) := by decide +kernel
theorem dX7_clock_4 : decode cX7_clock 4 = .ok (.invokestatic 72, 3) := by decide +kernel
theorem dX7_clock_7 : decode cX7_clock 7 = .ok (.ifCond .ne 5, 3) := by decide +kernel
theorem dX7_clock_10 : decode cX7_clock 10 = .ok (.iconst (-1), 1) := by decide +kernel
theorem dX7_clock_11 : decode cX7_clock 11 = .ok (.ireturn, 1) := by decide +kernel
theorem dX7_clock_12 : decode cX7_clock 12 = .ok (.aload_n 0, 1) := by decide +kernel
theorem dX7_clock_13 : decode cX7_clock 13 = .ok (.getfield 10, 3) := by decide +kernel
theorem dX7_clock_16 : decode cX7_clock 16 = .ok (.getfield 157, 3) := by decide +kernel
theorem dX7_clock_19 : decode cX7_clock 19 = .ok (.istore_n 2, 1) := by decide +kernel
theorem dX7_clock_20 : decode cX7_clock 20 = .ok (.aload_n 0, 1) := by decide +kernel
theorem dX7_clock_21 : decode cX7_clock 21 = .ok (.getfield 10, 3) := by decide +kernel
theorem dX7_clock_24 : decode cX7_clock 24 = .ok (.iload_n 1, 1) := by decide +kernel
theorem dX7_clock_25 : decode cX7_clock 25 = .ok (.putfield 157, 3) := by decide +kernel
theorem dX7_clock_28 : decode cX7_clock 28 = .ok (.iload_n 2, 1) := by decide +kernel
theorem dX7_clock_29 : decode cX7_clock 29 = .ok (.ireturn, 1) := by decide +kernel
theorem dX7_height_0 : decode cX7_height 0 = .ok (.aload_n 0, 1) := by decide +kernel
theorem dX7_height_1 : decode cX7_height 1 = .ok (.getfield 10, 3) := by decide +kernel
theorem dX7_height_4 : decode cX7_height 4 = .ok (.iload_n 1, 1) := by decide +kernel
theorem dX7_height_5 : decode cX7_height 5 = .ok (.invokevirtual 115, 3) := by decide +kernel
theorem dX7_height_8 : decode cX7_height 8 = .ok (.ifCond .eq 13, 3) := by decide +kernel
theorem dX7_height_11 : decode cX7_height 11 = .ok (.iload_n 2, 1) := by decide +kernel
theorem dX7_height_12 : decode cX7_height 12 = .ok (.iconst 0, 1) := by decide +kernel
theorem dX7_height_13 : decode cX7_height 13 = .ok (.bipush 48, 2) := by decide +kernel
theorem dX7_height_15 : decode cX7_height 15 = .ok (.invokestatic 72, 3) := by decide +kernel
theorem dX7_height_18 : decode cX7_height 18 = .ok (.ifCond .ne 5, 3) := by decide +kernel
theorem dX7_height_21 : decode cX7_height 21 = .ok (.iconst (-1), 1) := by decide +kernel
theorem dX7_height_22 : decode cX7_height 22 = .ok (.ireturn, 1) := by decide +kernel
theorem dX7_height_23 : decode cX7_height 23 = .ok (.aload_n 0, 1) := by decide +kernel
theorem dX7_height_24 : decode cX7_height 24 = .ok (.getfield 38, 3) := by decide +kernel
theorem dX7_height_27 : decode cX7_height 27 = .ok (.iload_n 2, 1) := by decide +kernel
theorem dX7_height_28 : decode cX7_height 28 = .ok (.iconst 0, 1) := by decide +kernel
theorem dX7_height_29 : decode cX7_height 29 = .ok (.invokevirtual 163, 3) := by decide +kernel
theorem dX7_height_32 : decode cX7_height 32 = .ok (.aload_n 0, 1) := by decide +kernel
theorem dX7_height_33 : decode cX7_height 33 = .ok (.getfield 38, 3) := by decide +kernel
theorem dX7_height_36 : decode cX7_height 36 = .ok (.getfield 167, 3) := by decide +kernel
theorem dX7_height_39 : decode cX7_height 39 = .ok (.iload_n 1, 1) := by decide +kernel
theorem dX7_height_40 : decode cX7_height 40 = .ok (.aaload, 1) := by decide +kernel
theorem dX7_height_41 : decode cX7_height 41 = .ok (.aload_n 0, 1) := by decide +kernel
theorem dX7_height_42 : decode cX7_height 42 = .ok (.getfield 38, 3) := by decide +kernel
theorem dX7_height_45 : decode cX7_height 45 = .ok (.getfield 170, 3) := by decide +kernel
theorem dX7_height_48 : decode cX7_height 48 = .ok (.iaload, 1) := by decide +kernel
theorem dX7_height_49 : decode cX7_height 49 = .ok (.ireturn, 1) := by decide +kernel
theorem dX7_first_0 : decode cX7_first 0 = .ok (.iload_n 1, 1) := by decide +kernel
theorem dX7_first_1 : decode cX7_first 1 = .ok (.iconst 0, 1) := by decide +kernel
theorem dX7_first_2 : decode cX7_first 2 = .ok (.iconst 1, 1) := by decide +kernel
theorem dX7_first_3 : decode cX7_first 3 = .ok (.invokestatic 72, 3) := by decide +kernel
theorem dX7_first_6 : decode cX7_first 6 = .ok (.ifCond .ne 5, 3) := by decide +kernel
theorem dX7_first_9 : decode cX7_first 9 = .ok (.iconst (-1), 1) := by decide +kernel
theorem dX7_first_10 : decode cX7_first 10 = .ok (.ireturn, 1) := by decide +kernel
theorem dX7_first_11 : decode cX7_first 11 = .ok (.aload_n 0, 1) := by decide +kernel
theorem dX7_first_12 : decode cX7_first 12 = .ok (.getfield 38, 3) := by decide +kernel
theorem dX7_first_15 : decode cX7_first 15 = .ok (.bipush 48, 2) := by decide +kernel
theorem dX7_first_17 : decode cX7_first 17 = .ok (.iconst 0, 1) := by decide +kernel
theorem dX7_first_18 : decode cX7_first 18 = .ok (.invokevirtual 163, 3) := by decide +kernel
theorem dX7_first_21 : decode cX7_first 21 = .ok (.iconst 0, 1) := by decide +kernel
theorem dX7_first_22 : decode cX7_first 22 = .ok (.istore_n 2, 1) := by decide +kernel
theorem dX7_first_23 : decode cX7_first 23 = .ok (.iload_n 2, 1) := by decide +kernel
theorem dX7_first_24 : decode cX7_first 24 = .ok (.aload_n 0, 1) := by decide +kernel
theorem dX7_first_25 : decode cX7_first 25 = .ok (.getfield 38, 3) := by decide +kernel
theorem dX7_first_28 : decode cX7_first 28 = .ok (.getfield 170, 3) := by decide +kernel
theorem dX7_first_31 : decode cX7_first 31 = .ok (.if_icmp .gt 34, 3) := by decide +kernel
theorem dX7_first_34 : decode cX7_first 34 = .ok (.aload_n 0, 1) := by decide +kernel
theorem dX7_first_35 : decode cX7_first 35 = .ok (.getfield 38, 3) := by decide +kernel
theorem dX7_first_38 : decode cX7_first 38 = .ok (.iload_n 2, 1) := by decide +kernel
theorem dX7_first_39 : decode cX7_first 39 = .ok (.invokevirtual 173, 3) := by decide +kernel
theorem dX7_first_42 : decode cX7_first 42 = .ok (.istore_n 3, 1) := by decide +kernel
theorem dX7_first_43 : decode cX7_first 43 = .ok (.iload_n 3, 1) := by decide +kernel
theorem dX7_first_44 : decode cX7_first 44 = .ok (.bipush (-3), 2) := by decide +kernel
theorem dX7_first_46 : decode cX7_first 46 = .ok (.if_icmp .eq 13, 3) := by decide +kernel
theorem dX7_first_49 : decode cX7_first 49 = .ok (.iload_n 1, 1) := by decide +kernel
theorem dX7_first_50 : decode cX7_first 50 = .ok (.ifCond .ne 7, 3) := by decide +kernel
theorem dX7_first_53 : decode cX7_first 53 = .ok (.iload_n 2, 1) := by decide +kernel
theorem dX7_first_54 : decode cX7_first 54 = .ok (.goto 4, 3) := by decide +kernel
theorem dX7_first_57 : decode cX7_first 57 = .ok (.iload_n 3, 1) := by decide +kernel
theorem dX7_first_58 : decode cX7_first 58 = .ok (.ireturn, 1) := by decide +kernel
theorem dX7_first_59 : decode cX7_first 59 = .ok (.iinc 2 1, 3) := by decide +kernel
theorem dX7_first_62 : decode cX7_first 62 = .ok (.goto (-39), 3) := by decide +kernel
theorem dX7_first_65 : decode cX7_first 65 = .ok (.bipush (-3), 2) := by decide +kernel
theorem dX7_first_67 : decode cX7_first 67 = .ok (.ireturn, 1) := by decide +kernel
theorem dX7_clear_0 : decode cX7_clear 0 = .ok (.aload_n 0, 1) := by decide +kernel
theorem dX7_clear_1 : decode cX7_clear 1 = .ok (.getfield 10, 3) := by decide +kernel
theorem dX7_clear_4 : decode cX7_clear 4 = .ok (.iload_n 1, 1) := by decide +kernel
theorem dX7_clear_5 : decode cX7_clear 5 = .ok (.invokevirtual 115, 3) := by decide +kernel
theorem dX7_clear_8 : decode cX7_clear 8 = .ok (.ifCond .eq 13, 3) := by decide +kernel
theorem dX7_clear_11 : decode cX7_clear 11 = .ok (.iload_n 2, 1) := by decide +kernel
theorem dX7_clear_12 : decode cX7_clear 12 = .ok (.iconst 0, 1) := by decide +kernel
theorem dX7_clear_13 : decode cX7_clear 13 = .ok (.bipush 48, 2) := by decide +kernel
theorem dX7_clear_15 : decode cX7_clear 15 = .ok (.invokestatic 72, 3) := by decide +kernel
theorem dX7_clear_18 : decode cX7_clear 18 = .ok (.ifCond .ne 5, 3) := by decide +kernel
theorem dX7_clear_21 : decode cX7_clear 21 = .ok (.iconst (-1), 1) := by decide +kernel
theorem dX7_clear_22 : decode cX7_clear 22 = .ok (.ireturn, 1) := by decide +kernel
theorem dX7_clear_23 : decode cX7_clear 23 = .ok (.aload_n 0, 1) := by decide +kernel
theorem dX7_clear_24 : decode cX7_clear 24 = .ok (.getfield 38, 3) := by decide +kernel
theorem dX7_clear_27 : decode cX7_clear 27 = .ok (.iload_n 2, 1) := by decide +kernel
theorem dX7_clear_28 : decode cX7_clear 28 = .ok (.iconst 0, 1) := by decide +kernel
theorem dX7_clear_29 : decode cX7_clear 29 = .ok (.invokevirtual 163, 3) := by decide +kernel
theorem dX7_clear_32 : decode cX7_clear 32 = .ok (.aload_n 0, 1) := by decide +kernel
theorem dX7_clear_33 : decode cX7_clear 33 = .ok (.getfield 38, 3) := by decide +kernel
theorem dX7_clear_36 : decode cX7_clear 36 = .ok (.iload_n 1, 1) := by decide +kernel
theorem dX7_clear_37 : decode cX7_clear 37 = .ok (.aload_n 0, 1) := by decide +kernel
theorem dX7_clear_38 : decode cX7_clear 38 = .ok (.getfield 10, 3) := by decide +kernel
theorem dX7_clear_41 : decode cX7_clear 41 = .ok (.getfield 118, 3) := by decide +kernel
theorem dX7_clear_44 : decode cX7_clear 44 = .ok (.iload_n 1, 1) := by decide +kernel
theorem dX7_clear_45 : decode cX7_clear 45 = .ok (.aaload, 1) := by decide +kernel
theorem dX7_clear_46 : decode cX7_clear 46 = .ok (.getfield 138, 3) := by decide +kernel
theorem dX7_clear_49 : decode cX7_clear 49 = .ok (.iconst 2, 1) := by decide +kernel
theorem dX7_clear_50 : decode cX7_clear 50 = .ok (.iaload, 1) := by decide +kernel
theorem dX7_clear_51 : decode cX7_clear 51 = .ok (.invokevirtual 176, 3) := by decide +kernel
theorem dX7_clear_54 : decode cX7_clear 54 = .ok (.ifCond .eq 7, 3) := by decide +kernel
theorem dX7_clear_57 : decode cX7_clear 57 = .ok (.iconst 1, 1) := by decide +kernel
theorem dX7_clear_58 : decode cX7_clear 58 = .ok (.goto 4, 3) := by decide +kernel
theorem dX7_clear_61 : decode cX7_clear 61 = .ok (.iconst 0, 1) := by decide +kernel
theorem dX7_clear_62 : decode cX7_clear 62 = .ok (.ireturn, 1) := by decide +kernel
theorem dX7_leastSand_0 : decode cX7_leastSand 0 = .ok (.aload_n 0, 1) := by decide +kernel
theorem dX7_leastSand_1 : decode cX7_leastSand 1 = .ok (.getfield 10, 3) := by decide +kernel
theorem dX7_leastSand_4 : decode cX7_leastSand 4 = .ok (.iload_n 1, 1) := by decide +kernel
theorem dX7_leastSand_5 : decode cX7_leastSand 5 = .ok (.invokevirtual 115, 3) := by decide +kernel
theorem dX7_leastSand_8 : decode cX7_leastSand 8 = .ok (.ifCond .eq 13, 3) := by decide +kernel
theorem dX7_leastSand_11 : decode cX7_leastSand 11 = .ok (.iload_n 2, 1) := by decide +kernel
theorem dX7_leastSand_12 : decode cX7_leastSand 12 = .ok (.iconst 0, 1) := by decide +kernel
theorem dX7_leastSand_13 : decode cX7_leastSand 13 = .ok (.bipush 24, 2) := by decide +kernel
theorem dX7_leastSand_15 : decode cX7_leastSand 15 = .ok (.invokestatic 72, 3) := by decide +kernel
theorem dX7_leastSand_18 : decode cX7_leastSand 18 = .ok (.ifCond .ne 5, 3) := by decide +kernel
theorem dX7_leastSand_21 : decode cX7_leastSand 21 = .ok (.iconst (-1), 1) := by decide +kernel
theorem dX7_leastSand_22 : decode cX7_leastSand 22 = .ok (.ireturn, 1) := by decide +kernel
theorem dX7_leastSand_23 : decode cX7_leastSand 23 = .ok (.aload_n 0, 1) := by decide +kernel
theorem dX7_leastSand_24 : decode cX7_leastSand 24 = .ok (.getfield 38, 3) := by decide +kernel
theorem dX7_leastSand_27 : decode cX7_leastSand 27 = .ok (.iload_n 2, 1) := by decide +kernel
theorem dX7_leastSand_28 : decode cX7_leastSand 28 = .ok (.iconst 0, 1) := by decide +kernel
theorem dX7_leastSand_29 : decode cX7_leastSand 29 = .ok (.invokevirtual 163, 3) := by decide +kernel
theorem dX7_leastSand_32 : decode cX7_leastSand 32 = .ok (.aload_n 0, 1) := by decide +kernel
theorem dX7_leastSand_33 : decode cX7_leastSand 33 = .ok (.getfield 10, 3) := by decide +kernel
theorem dX7_leastSand_36 : decode cX7_leastSand 36 = .ok (.getfield 118, 3) := by decide +kernel
theorem dX7_leastSand_39 : decode cX7_leastSand 39 = .ok (.iload_n 1, 1) := by decide +kernel
theorem dX7_leastSand_40 : decode cX7_leastSand 40 = .ok (.aaload, 1) := by decide +kernel
theorem dX7_leastSand_41 : decode cX7_leastSand 41 = .ok (.getfield 138, 3) := by decide +kernel
theorem dX7_leastSand_44 : decode cX7_leastSand 44 = .ok (.bipush 6, 2) := by decide +kernel
theorem dX7_leastSand_46 : decode cX7_leastSand 46 = .ok (.iaload, 1) := by decide +kernel
theorem dX7_leastSand_47 : decode cX7_leastSand 47 = .ok (.istore_n 3, 1) := by decide +kernel
theorem dX7_leastSand_48 : decode cX7_leastSand 48 = .ok (.iconst 0, 1) := by decide +kernel
theorem dX7_leastSand_49 : decode cX7_leastSand 49 = .ok (.istore 4, 2) := by decide +kernel
theorem dX7_leastSand_51 : decode cX7_leastSand 51 = .ok (.iload 4, 2) := by decide +kernel
theorem dX7_leastSand_53 : decode cX7_leastSand 53 = .ok (.iload_n 3, 1) := by decide +kernel
theorem dX7_leastSand_54 : decode cX7_leastSand 54 = .ok (.if_icmp .gt 29, 3) := by decide +kernel
theorem dX7_leastSand_57 : decode cX7_leastSand 57 = .ok (.aload_n 0, 1) := by decide +kernel
theorem dX7_leastSand_58 : decode cX7_leastSand 58 = .ok (.getfield 38, 3) := by decide +kernel
theorem dX7_leastSand_61 : decode cX7_leastSand 61 = .ok (.iload_n 1, 1) := by decide +kernel
theorem dX7_leastSand_62 : decode cX7_leastSand 62 = .ok (.bipush 6, 2) := by decide +kernel
theorem dX7_leastSand_64 : decode cX7_leastSand 64 = .ok (.iload_n 3, 1) := by decide +kernel
theorem dX7_leastSand_65 : decode cX7_leastSand 65 = .ok (.iload 4, 2) := by decide +kernel
theorem dX7_leastSand_67 : decode cX7_leastSand 67 = .ok (.isub, 1) := by decide +kernel
theorem dX7_leastSand_68 : decode cX7_leastSand 68 = .ok (.invokevirtual 179, 3) := by decide +kernel
theorem dX7_leastSand_71 : decode cX7_leastSand 71 = .ok (.ifCond .eq 6, 3) := by decide +kernel
theorem dX7_leastSand_74 : decode cX7_leastSand 74 = .ok (.iload 4, 2) := by decide +kernel
theorem dX7_leastSand_76 : decode cX7_leastSand 76 = .ok (.ireturn, 1) := by decide +kernel
theorem dX7_leastSand_77 : decode cX7_leastSand 77 = .ok (.iinc 4 1, 3) := by decide +kernel
theorem dX7_leastSand_80 : decode cX7_leastSand 80 = .ok (.goto (-29), 3) := by decide +kernel
theorem dX7_leastSand_83 : decode cX7_leastSand 83 = .ok (.bipush (-3), 2) := by decide +kernel
theorem dX7_leastSand_85 : decode cX7_leastSand 85 = .ok (.ireturn, 1) := by decide +kernel
theorem dX7_ropeFor_0 : decode cX7_ropeFor 0 = .ok (.aload_n 0, 1) := by decide +kernel
theorem dX7_ropeFor_1 : decode cX7_ropeFor 1 = .ok (.getfield 10, 3) := by decide +kernel
theorem dX7_ropeFor_4 : decode cX7_ropeFor 4 = .ok (.iload_n 1, 1) := by decide +kernel
theorem dX7_ropeFor_5 : decode cX7_ropeFor 5 = .ok (.invokevirtual 115, 3) := by decide +kernel
theorem dX7_ropeFor_8 : decode cX7_ropeFor 8 = .ok (.ifCond .eq 13, 3) := by decide +kernel
theorem dX7_ropeFor_11 : decode cX7_ropeFor 11 = .ok (.iload_n 2, 1) := by decide +kernel
theorem dX7_ropeFor_12 : decode cX7_ropeFor 12 = .ok (.iconst 0, 1) := by decide +kernel
theorem dX7_ropeFor_13 : decode cX7_ropeFor 13 = .ok (.bipush 24, 2) := by decide +kernel
theorem dX7_ropeFor_15 : decode cX7_ropeFor 15 = .ok (.invokestatic 72, 3) := by decide +kernel
theorem dX7_ropeFor_18 : decode cX7_ropeFor 18 = .ok (.ifCond .ne 5, 3) := by decide +kernel
theorem dX7_ropeFor_21 : decode cX7_ropeFor 21 = .ok (.iconst (-1), 1) := by decide +kernel
theorem dX7_ropeFor_22 : decode cX7_ropeFor 22 = .ok (.ireturn, 1) := by decide +kernel
theorem dX7_ropeFor_23 : decode cX7_ropeFor 23 = .ok (.aload_n 0, 1) := by decide +kernel
theorem dX7_ropeFor_24 : decode cX7_ropeFor 24 = .ok (.getfield 38, 3) := by decide +kernel
theorem dX7_ropeFor_27 : decode cX7_ropeFor 27 = .ok (.iload_n 2, 1) := by decide +kernel
theorem dX7_ropeFor_28 : decode cX7_ropeFor 28 = .ok (.iconst 0, 1) := by decide +kernel
theorem dX7_ropeFor_29 : decode cX7_ropeFor 29 = .ok (.invokevirtual 163, 3) := by decide +kernel
theorem dX7_ropeFor_32 : decode cX7_ropeFor 32 = .ok (.getstatic 141, 3) := by decide +kernel
theorem dX7_ropeFor_35 : decode cX7_ropeFor 35 = .ok (.iconst 4, 1) := by decide +kernel
theorem dX7_ropeFor_36 : decode cX7_ropeFor 36 = .ok (.iaload, 1) := by decide +kernel
theorem dX7_ropeFor_37 : decode cX7_ropeFor 37 = .ok (.istore_n 3, 1) := by decide +kernel
theorem dX7_ropeFor_38 : decode cX7_ropeFor 38 = .ok (.iload_n 3, 1) := by decide +kernel
theorem dX7_ropeFor_39 : decode cX7_ropeFor 39 = .ok (.getstatic 182, 3) := by decide +kernel
theorem dX7_ropeFor_42 : decode cX7_ropeFor 42 = .ok (.iconst 4, 1) := by decide +kernel
theorem dX7_ropeFor_43 : decode cX7_ropeFor 43 = .ok (.iaload, 1) := by decide +kernel
theorem dX7_ropeFor_44 : decode cX7_ropeFor 44 = .ok (.if_icmp .lt 24, 3) := by decide +kernel
theorem dX7_ropeFor_47 : decode cX7_ropeFor 47 = .ok (.aload_n 0, 1) := by decide +kernel
theorem dX7_ropeFor_48 : decode cX7_ropeFor 48 = .ok (.getfield 38, 3) := by decide +kernel
theorem dX7_ropeFor_51 : decode cX7_ropeFor 51 = .ok (.iload_n 1, 1) := by decide +kernel
theorem dX7_ropeFor_52 : decode cX7_ropeFor 52 = .ok (.iconst 4, 1) := by decide +kernel
theorem dX7_ropeFor_53 : decode cX7_ropeFor 53 = .ok (.iload_n 3, 1) := by decide +kernel
theorem dX7_ropeFor_54 : decode cX7_ropeFor 54 = .ok (.invokevirtual 179, 3) := by decide +kernel
theorem dX7_ropeFor_57 : decode cX7_ropeFor 57 = .ok (.ifCond .eq 5, 3) := by decide +kernel
theorem dX7_ropeFor_60 : decode cX7_ropeFor 60 = .ok (.iload_n 3, 1) := by decide +kernel
theorem dX7_ropeFor_61 : decode cX7_ropeFor 61 = .ok (.ireturn, 1) := by decide +kernel
theorem dX7_ropeFor_62 : decode cX7_ropeFor 62 = .ok (.iinc 3 (-1), 3) := by decide +kernel
theorem dX7_ropeFor_65 : decode cX7_ropeFor 65 = .ok (.goto (-27), 3) := by decide +kernel
theorem dX7_ropeFor_68 : decode cX7_ropeFor 68 = .ok (.bipush (-3), 2) := by decide +kernel
theorem dX7_ropeFor_70 : decode cX7_ropeFor 70 = .ok (.ireturn, 1) := by decide +kernel
theorem dX7_columnFor_0 : decode cX7_columnFor 0 = .ok (.aload_n 0, 1) := by decide +kernel
theorem dX7_columnFor_1 : decode cX7_columnFor 1 = .ok (.getfield 10, 3) := by decide +kernel
theorem dX7_columnFor_4 : decode cX7_columnFor 4 = .ok (.iload_n 1, 1) := by decide +kernel
theorem dX7_columnFor_5 : decode cX7_columnFor 5 = .ok (.invokevirtual 115, 3) := by decide +kernel
theorem dX7_columnFor_8 : decode cX7_columnFor 8 = .ok (.ifCond .eq 13, 3) := by decide +kernel
theorem dX7_columnFor_11 : decode cX7_columnFor 11 = .ok (.iload_n 2, 1) := by decide +kernel
theorem dX7_columnFor_12 : decode cX7_columnFor 12 = .ok (.iconst 0, 1) := by decide +kernel
theorem dX7_columnFor_13 : decode cX7_columnFor 13 = .ok (.bipush 24, 2) := by decide +kernel
theorem dX7_columnFor_15 : decode cX7_columnFor 15 = .ok (.invokestatic 72, 3) := by decide +kernel
theorem dX7_columnFor_18 : decode cX7_columnFor 18 = .ok (.ifCond .ne 5, 3) := by decide +kernel
theorem dX7_columnFor_21 : decode cX7_columnFor 21 = .ok (.iconst (-1), 1) := by decide +kernel
theorem dX7_columnFor_22 : decode cX7_columnFor 22 = .ok (.ireturn, 1) := by decide +kernel
theorem dX7_columnFor_23 : decode cX7_columnFor 23 = .ok (.aload_n 0, 1) := by decide +kernel
theorem dX7_columnFor_24 : decode cX7_columnFor 24 = .ok (.getfield 38, 3) := by decide +kernel
theorem dX7_columnFor_27 : decode cX7_columnFor 27 = .ok (.iload_n 2, 1) := by decide +kernel
theorem dX7_columnFor_28 : decode cX7_columnFor 28 = .ok (.iconst 0, 1) := by decide +kernel
theorem dX7_columnFor_29 : decode cX7_columnFor 29 = .ok (.invokevirtual 163, 3) := by decide +kernel
theorem dX7_columnFor_32 : decode cX7_columnFor 32 = .ok (.iconst 0, 1) := by decide +kernel
theorem dX7_columnFor_33 : decode cX7_columnFor 33 = .ok (.istore_n 3, 1) := by decide +kernel
theorem dX7_columnFor_34 : decode cX7_columnFor 34 = .ok (.iload_n 3, 1) := by decide +kernel
theorem dX7_columnFor_35 : decode cX7_columnFor 35 = .ok (.bipush 6, 2) := by decide +kernel
theorem dX7_columnFor_37 : decode cX7_columnFor 37 = .ok (.if_icmp .ge 23, 3) := by decide +kernel
theorem dX7_columnFor_40 : decode cX7_columnFor 40 = .ok (.aload_n 0, 1) := by decide +kernel
theorem dX7_columnFor_41 : decode cX7_columnFor 41 = .ok (.getfield 38, 3) := by decide +kernel
theorem dX7_columnFor_44 : decode cX7_columnFor 44 = .ok (.iload_n 1, 1) := by decide +kernel
theorem dX7_columnFor_45 : decode cX7_columnFor 45 = .ok (.iload_n 3, 1) := by decide +kernel
theorem dX7_columnFor_46 : decode cX7_columnFor 46 = .ok (.invokevirtual 176, 3) := by decide +kernel
theorem dX7_columnFor_49 : decode cX7_columnFor 49 = .ok (.ifCond .eq 5, 3) := by decide +kernel
theorem dX7_columnFor_52 : decode cX7_columnFor 52 = .ok (.iload_n 3, 1) := by decide +kernel
theorem dX7_columnFor_53 : decode cX7_columnFor 53 = .ok (.ireturn, 1) := by decide +kernel
theorem dX7_columnFor_54 : decode cX7_columnFor 54 = .ok (.iinc 3 1, 3) := by decide +kernel
theorem dX7_columnFor_57 : decode cX7_columnFor 57 = .ok (.goto (-23), 3) := by decide +kernel
theorem dX7_columnFor_60 : decode cX7_columnFor 60 = .ok (.bipush (-3), 2) := by decide +kernel
theorem dX7_columnFor_62 : decode cX7_columnFor 62 = .ok (.ireturn, 1) := by decide +kernel
theorem dX7_lasts_0 : decode cX7_lasts 0 = .ok (.aload_n 0, 1) := by decide +kernel
theorem dX7_lasts_1 : decode cX7_lasts 1 = .ok (.getfield 10, 3) := by decide +kernel
theorem dX7_lasts_4 : decode cX7_lasts 4 = .ok (.iload_n 1, 1) := by decide +kernel
theorem dX7_lasts_5 : decode cX7_lasts 5 = .ok (.invokevirtual 115, 3) := by decide +kernel
theorem dX7_lasts_8 : decode cX7_lasts 8 = .ok (.ifCond .ne 5, 3) := by decide +kernel
theorem dX7_lasts_11 : decode cX7_lasts 11 = .ok (.iconst (-1), 1) := by decide +kernel
theorem dX7_lasts_12 : decode cX7_lasts 12 = .ok (.ireturn, 1) := by decide +kernel
theorem dX7_lasts_13 : decode cX7_lasts 13 = .ok (.aload_n 0, 1) := by decide +kernel
theorem dX7_lasts_14 : decode cX7_lasts 14 = .ok (.getfield 10, 3) := by decide +kernel
theorem dX7_lasts_17 : decode cX7_lasts 17 = .ok (.getfield 118, 3) := by decide +kernel
theorem dX7_lasts_20 : decode cX7_lasts 20 = .ok (.iload_n 1, 1) := by decide +kernel
theorem dX7_lasts_21 : decode cX7_lasts 21 = .ok (.aaload, 1) := by decide +kernel
theorem dX7_lasts_22 : decode cX7_lasts 22 = .ok (.getfield 138, 3) := by decide +kernel
theorem dX7_lasts_25 : decode cX7_lasts 25 = .ok (.bipush 7, 2) := by decide +kernel
theorem dX7_lasts_27 : decode cX7_lasts 27 = .ok (.iaload, 1) := by decide +kernel
theorem dX7_lasts_28 : decode cX7_lasts 28 = .ok (.istore_n 2, 1) := by decide +kernel
theorem dX7_lasts_29 : decode cX7_lasts 29 = .ok (.aload_n 0, 1) := by decide +kernel
theorem dX7_lasts_30 : decode cX7_lasts 30 = .ok (.getfield 10, 3) := by decide +kernel
theorem dX7_lasts_33 : decode cX7_lasts 33 = .ok (.getfield 118, 3) := by decide +kernel
theorem dX7_lasts_36 : decode cX7_lasts 36 = .ok (.iload_n 1, 1) := by decide +kernel
theorem dX7_lasts_37 : decode cX7_lasts 37 = .ok (.aaload, 1) := by decide +kernel
theorem dX7_lasts_38 : decode cX7_lasts 38 = .ok (.getfield 138, 3) := by decide +kernel
theorem dX7_lasts_41 : decode cX7_lasts 41 = .ok (.bipush 8, 2) := by decide +kernel
theorem dX7_lasts_43 : decode cX7_lasts 43 = .ok (.iaload, 1) := by decide +kernel
theorem dX7_lasts_44 : decode cX7_lasts 44 = .ok (.istore_n 3, 1) := by decide +kernel
theorem dX7_lasts_45 : decode cX7_lasts 45 = .ok (.iload_n 2, 1) := by decide +kernel
theorem dX7_lasts_46 : decode cX7_lasts 46 = .ok (.ifCond .ne 5, 3) := by decide +kernel
theorem dX7_lasts_49 : decode cX7_lasts 49 = .ok (.iconst 0, 1) := by decide +kernel
theorem dX7_lasts_50 : decode cX7_lasts 50 = .ok (.ireturn, 1) := by decide +kernel
theorem dX7_lasts_51 : decode cX7_lasts 51 = .ok (.iload_n 3, 1) := by decide +kernel
theorem dX7_lasts_52 : decode cX7_lasts 52 = .ok (.ifCond .gt 6, 3) := by decide +kernel
theorem dX7_lasts_55 : decode cX7_lasts 55 = .ok (.bipush (-3), 2) := by decide +kernel
theorem dX7_lasts_57 : decode cX7_lasts 57 = .ok (.ireturn, 1) := by decide +kernel
theorem dX7_lasts_58 : decode cX7_lasts 58 = .ok (.iload_n 2, 1) := by decide +kernel
theorem dX7_lasts_59 : decode cX7_lasts 59 = .ok (.iload_n 3, 1) := by decide +kernel
theorem dX7_lasts_60 : decode cX7_lasts 60 = .ok (.iadd, 1) := by decide +kernel
theorem dX7_lasts_61 : decode cX7_lasts 61 = .ok (.iconst 1, 1) := by decide +kernel
theorem dX7_lasts_62 : decode cX7_lasts 62 = .ok (.isub, 1) := by decide +kernel
theorem dX7_lasts_63 : decode cX7_lasts 63 = .ok (.iload_n 3, 1) := by decide +kernel
theorem dX7_lasts_64 : decode cX7_lasts 64 = .ok (.idiv, 1) := by decide +kernel
theorem dX7_lasts_65 : decode cX7_lasts 65 = .ok (.ireturn, 1) := by decide +kernel
theorem dX7_reached_0 : decode cX7_reached 0 = .ok (.aload_n 0, 1) := by decide +kernel
theorem dX7_reached_1 : decode cX7_reached 1 = .ok (.getfield 10, 3) := by decide +kernel
theorem dX7_reached_4 : decode cX7_reached 4 = .ok (.iload_n 1, 1) := by decide +kernel
theorem dX7_reached_5 : decode cX7_reached 5 = .ok (.invokevirtual 115, 3) := by decide +kernel
theorem dX7_reached_8 : decode cX7_reached 8 = .ok (.ifCond .eq 14, 3) := by decide +kernel
theorem dX7_reached_11 : decode cX7_reached 11 = .ok (.aload_n 0, 1) := by decide +kernel
theorem dX7_reached_12 : decode cX7_reached 12 = .ok (.getfield 10, 3) := by decide +kernel
theorem dX7_reached_15 : decode cX7_reached 15 = .ok (.iload_n 1, 1) := by decide +kernel
theorem dX7_reached_16 : decode cX7_reached 16 = .ok (.invokevirtual 185, 3) := by decide +kernel
theorem dX7_reached_19 : decode cX7_reached 19 = .ok (.goto 4, 3) := by decide +kernel
theorem dX7_reached_22 : decode cX7_reached 22 = .ok (.iconst (-1), 1) := by decide +kernel
theorem dX7_reached_23 : decode cX7_reached 23 = .ok (.ireturn, 1) := by decide +kernel
theorem dX7_help_0 : decode cX7_help 0 = .ok (.iload_n 1, 1) := by decide +kernel
theorem dX7_help_1 : decode cX7_help 1 = .ok (.iconst 1, 1) := by decide +kernel
theorem dX7_help_2 : decode cX7_help 2 = .ok (.bipush 24, 2) := by decide +kernel
theorem dX7_help_4 : decode cX7_help 4 = .ok (.invokestatic 72, 3) := by decide +kernel
theorem dX7_help_7 : decode cX7_help 7 = .ok (.ifCond .ne 5, 3) := by decide +kernel
theorem dX7_help_10 : decode cX7_help 10 = .ok (.iconst (-1), 1) := by decide +kernel
theorem dX7_help_11 : decode cX7_help 11 = .ok (.ireturn, 1) := by decide +kernel
theorem dX7_help_12 : decode cX7_help 12 = .ok (.aload_n 0, 1) := by decide +kernel
theorem dX7_help_13 : decode cX7_help 13 = .ok (.getfield 38, 3) := by decide +kernel
theorem dX7_help_16 : decode cX7_help 16 = .ok (.iload_n 1, 1) := by decide +kernel
theorem dX7_help_17 : decode cX7_help 17 = .ok (.iconst 0, 1) := by decide +kernel
theorem dX7_help_18 : decode cX7_help 18 = .ok (.invokevirtual 163, 3) := by decide +kernel
theorem dX7_help_21 : decode cX7_help 21 = .ok (.bipush (-3), 2) := by decide +kernel
theorem dX7_help_23 : decode cX7_help 23 = .ok (.istore_n 2, 1) := by decide +kernel
theorem dX7_help_24 : decode cX7_help 24 = .ok (.iconst 0, 1) := by decide +kernel
theorem dX7_help_25 : decode cX7_help 25 = .ok (.istore_n 3, 1) := by decide +kernel
theorem dX7_help_26 : decode cX7_help 26 = .ok (.iconst 0, 1) := by decide +kernel
theorem dX7_help_27 : decode cX7_help 27 = .ok (.istore 4, 2) := by decide +kernel
theorem dX7_help_29 : decode cX7_help 29 = .ok (.iload 4, 2) := by decide +kernel
theorem dX7_help_31 : decode cX7_help 31 = .ok (.aload_n 0, 1) := by decide +kernel
theorem dX7_help_32 : decode cX7_help 32 = .ok (.getfield 10, 3) := by decide +kernel
theorem dX7_help_35 : decode cX7_help 35 = .ok (.getfield 93, 3) := by decide +kernel
theorem dX7_help_38 : decode cX7_help 38 = .ok (.if_icmp .ge 97, 3) := by decide +kernel
theorem dX7_help_41 : decode cX7_help 41 = .ok (.iconst 0, 1) := by decide +kernel
theorem dX7_help_42 : decode cX7_help 42 = .ok (.istore 5, 2) := by decide +kernel
theorem dX7_help_44 : decode cX7_help 44 = .ok (.iload 5, 2) := by decide +kernel
theorem dX7_help_46 : decode cX7_help 46 = .ok (.aload_n 0, 1) := by decide +kernel
theorem dX7_help_47 : decode cX7_help 47 = .ok (.getfield 10, 3) := by decide +kernel
theorem dX7_help_50 : decode cX7_help 50 = .ok (.getfield 93, 3) := by decide +kernel
theorem dX7_help_53 : decode cX7_help 53 = .ok (.if_icmp .ge 76, 3) := by decide +kernel
theorem dX7_help_56 : decode cX7_help 56 = .ok (.iload 4, 2) := by decide +kernel
theorem dX7_help_58 : decode cX7_help 58 = .ok (.iload 5, 2) := by decide +kernel
theorem dX7_help_60 : decode cX7_help 60 = .ok (.if_icmp .eq 63, 3) := by decide +kernel
theorem dX7_help_63 : decode cX7_help 63 = .ok (.aload_n 0, 1) := by decide +kernel
theorem dX7_help_64 : decode cX7_help 64 = .ok (.getfield 10, 3) := by decide +kernel
theorem dX7_help_67 : decode cX7_help 67 = .ok (.iload 4, 2) := by decide +kernel
theorem dX7_help_69 : decode cX7_help 69 = .ok (.iload 5, 2) := by decide +kernel
theorem dX7_help_71 : decode cX7_help 71 = .ok (.bipush 6, 2) := by decide +kernel
theorem dX7_help_73 : decode cX7_help 73 = .ok (.bipush 10, 2) := by decide +kernel
theorem dX7_help_75 : decode cX7_help 75 = .ok (.invokevirtual 144, 3) := by decide +kernel
theorem dX7_help_78 : decode cX7_help 78 = .ok (.ifCond .ne 6, 3) := by decide +kernel
theorem dX7_help_81 : decode cX7_help 81 = .ok (.goto 42, 3) := by decide +kernel
theorem dX7_help_84 : decode cX7_help 84 = .ok (.aload_n 0, 1) := by decide +kernel
theorem dX7_help_85 : decode cX7_help 85 = .ok (.getfield 38, 3) := by decide +kernel
theorem dX7_help_88 : decode cX7_help 88 = .ok (.iload 4, 2) := by decide +kernel
theorem dX7_help_90 : decode cX7_help 90 = .ok (.iload 5, 2) := by decide +kernel
theorem dX7_help_92 : decode cX7_help 92 = .ok (.bipush 10, 2) := by decide +kernel
theorem dX7_help_94 : decode cX7_help 94 = .ok (.invokevirtual 188, 3) := by decide +kernel
theorem dX7_help_97 : decode cX7_help 97 = .ok (.istore 6, 2) := by decide +kernel
theorem dX7_help_99 : decode cX7_help 99 = .ok (.iload_n 2, 1) := by decide +kernel
theorem dX7_help_100 : decode cX7_help 100 = .ok (.bipush (-3), 2) := by decide +kernel
theorem dX7_help_102 : decode cX7_help 102 = .ok (.if_icmp .eq 9, 3) := by decide +kernel
theorem dX7_help_105 : decode cX7_help 105 = .ok (.iload 6, 2) := by decide +kernel
theorem dX7_help_107 : decode cX7_help 107 = .ok (.iload_n 3, 1) := by decide +kernel
theorem dX7_help_108 : decode cX7_help 108 = .ok (.if_icmp .ge 15, 3) := by decide +kernel
theorem dX7_help_111 : decode cX7_help 111 = .ok (.bipush 10, 2) := by decide +kernel
theorem dX7_help_113 : decode cX7_help 113 = .ok (.iload 4, 2) := by decide +kernel
theorem dX7_help_115 : decode cX7_help 115 = .ok (.imul, 1) := by decide +kernel
theorem dX7_help_116 : decode cX7_help 116 = .ok (.iload 5, 2) := by decide +kernel
theorem dX7_help_118 : decode cX7_help 118 = .ok (.iadd, 1) := by decide +kernel
theorem dX7_help_119 : decode cX7_help 119 = .ok (.istore_n 2, 1) := by decide +kernel
theorem dX7_help_120 : decode cX7_help 120 = .ok (.iload 6, 2) := by decide +kernel
theorem dX7_help_122 : decode cX7_help 122 = .ok (.istore_n 3, 1) := by decide +kernel
theorem dX7_help_123 : decode cX7_help 123 = .ok (.iinc 5 1, 3) := by decide +kernel
theorem dX7_help_126 : decode cX7_help 126 = .ok (.goto (-82), 3) := by decide +kernel
theorem dX7_help_129 : decode cX7_help 129 = .ok (.iinc 4 1, 3) := by decide +kernel
theorem dX7_help_132 : decode cX7_help 132 = .ok (.goto (-103), 3) := by decide +kernel
theorem dX7_help_135 : decode cX7_help 135 = .ok (.iload_n 2, 1) := by decide +kernel
theorem dX7_help_136 : decode cX7_help 136 = .ok (.ireturn, 1) := by decide +kernel
theorem dX7_cold_0 : decode cX7_cold 0 = .ok (.bipush 40, 2) := by decide +kernel
theorem dX7_cold_2 : decode cX7_cold 2 = .ok (.istore_n 1, 1) := by decide +kernel
theorem dX7_cold_3 : decode cX7_cold 3 = .ok (.iload_n 1, 1) := by decide +kernel
theorem dX7_cold_4 : decode cX7_cold 4 = .ok (.iconst 1, 1) := by decide +kernel
theorem dX7_cold_5 : decode cX7_cold 5 = .ok (.if_icmp .lt 31, 3) := by decide +kernel
theorem dX7_cold_8 : decode cX7_cold 8 = .ok (.aload_n 0, 1) := by decide +kernel
theorem dX7_cold_9 : decode cX7_cold 9 = .ok (.getfield 38, 3) := by decide +kernel
theorem dX7_cold_12 : decode cX7_cold 12 = .ok (.bipush 24, 2) := by decide +kernel
theorem dX7_cold_14 : decode cX7_cold 14 = .ok (.iload_n 1, 1) := by decide +kernel
theorem dX7_cold_15 : decode cX7_cold 15 = .ok (.invokevirtual 163, 3) := by decide +kernel
theorem dX7_cold_18 : decode cX7_cold 18 = .ok (.aload_n 0, 1) := by decide +kernel
theorem dX7_cold_19 : decode cX7_cold 19 = .ok (.getfield 38, 3) := by decide +kernel
theorem dX7_cold_22 : decode cX7_cold 22 = .ok (.invokevirtual 192, 3) := by decide +kernel
theorem dX7_cold_25 : decode cX7_cold 25 = .ok (.ifCond .eq 5, 3) := by decide +kernel
theorem dX7_cold_28 : decode cX7_cold 28 = .ok (.iload_n 1, 1) := by decide +kernel
theorem dX7_cold_29 : decode cX7_cold 29 = .ok (.ireturn, 1) := by decide +kernel
theorem dX7_cold_30 : decode cX7_cold 30 = .ok (.iinc 1 (-1), 3) := by decide +kernel
theorem dX7_cold_33 : decode cX7_cold 33 = .ok (.goto (-30), 3) := by decide +kernel
theorem dX7_cold_36 : decode cX7_cold 36 = .ok (.bipush (-3), 2) := by decide +kernel
theorem dX7_cold_38 : decode cX7_cold 38 = .ok (.ireturn, 1) := by decide +kernel
theorem dX7_highest_0 : decode cX7_highest 0 = .ok (.iload_n 1, 1) := by decide +kernel
theorem dX7_highest_1 : decode cX7_highest 1 = .ok (.iconst 0, 1) := by decide +kernel
theorem dX7_highest_2 : decode cX7_highest 2 = .ok (.bipush 48, 2) := by decide +kernel
theorem dX7_highest_4 : decode cX7_highest 4 = .ok (.invokestatic 72, 3) := by decide +kernel
theorem dX7_highest_7 : decode cX7_highest 7 = .ok (.ifCond .ne 5, 3) := by decide +kernel
theorem dX7_highest_10 : decode cX7_highest 10 = .ok (.iconst (-1), 1) := by decide +kernel
theorem dX7_highest_11 : decode cX7_highest 11 = .ok (.ireturn, 1) := by decide +kernel
theorem dX7_highest_12 : decode cX7_highest 12 = .ok (.aload_n 0, 1) := by decide +kernel
theorem dX7_highest_13 : decode cX7_highest 13 = .ok (.getfield 38, 3) := by decide +kernel
theorem dX7_highest_16 : decode cX7_highest 16 = .ok (.iload_n 1, 1) := by decide +kernel
theorem dX7_highest_17 : decode cX7_highest 17 = .ok (.iconst 0, 1) := by decide +kernel
theorem dX7_highest_18 : decode cX7_highest 18 = .ok (.invokevirtual 163, 3) := by decide +kernel
theorem dX7_highest_21 : decode cX7_highest 21 = .ok (.bipush (-3), 2) := by decide +kernel
theorem dX7_highest_23 : decode cX7_highest 23 = .ok (.istore_n 2, 1) := by decide +kernel
theorem dX7_highest_24 : decode cX7_highest 24 = .ok (.iconst 0, 1) := by decide +kernel
theorem dX7_highest_25 : decode cX7_highest 25 = .ok (.istore_n 3, 1) := by decide +kernel
theorem dX7_highest_26 : decode cX7_highest 26 = .ok (.iload_n 3, 1) := by decide +kernel
theorem dX7_highest_27 : decode cX7_highest 27 = .ok (.aload_n 0, 1) := by decide +kernel
theorem dX7_highest_28 : decode cX7_highest 28 = .ok (.getfield 10, 3) := by decide +kernel
theorem dX7_highest_31 : decode cX7_highest 31 = .ok (.getfield 93, 3) := by decide +kernel
theorem dX7_highest_34 : decode cX7_highest 34 = .ok (.if_icmp .ge 54, 3) := by decide +kernel
theorem dX7_highest_37 : decode cX7_highest 37 = .ok (.iload_n 2, 1) := by decide +kernel
theorem dX7_highest_38 : decode cX7_highest 38 = .ok (.bipush (-3), 2) := by decide +kernel
theorem dX7_highest_40 : decode cX7_highest 40 = .ok (.if_icmp .eq 40, 3) := by decide +kernel
theorem dX7_highest_43 : decode cX7_highest 43 = .ok (.aload_n 0, 1) := by decide +kernel
theorem dX7_highest_44 : decode cX7_highest 44 = .ok (.getfield 38, 3) := by decide +kernel
theorem dX7_highest_47 : decode cX7_highest 47 = .ok (.getfield 167, 3) := by decide +kernel
theorem dX7_highest_50 : decode cX7_highest 50 = .ok (.iload_n 3, 1) := by decide +kernel
theorem dX7_highest_51 : decode cX7_highest 51 = .ok (.aaload, 1) := by decide +kernel
theorem dX7_highest_52 : decode cX7_highest 52 = .ok (.aload_n 0, 1) := by decide +kernel
theorem dX7_highest_53 : decode cX7_highest 53 = .ok (.getfield 38, 3) := by decide +kernel
theorem dX7_highest_56 : decode cX7_highest 56 = .ok (.getfield 170, 3) := by decide +kernel
theorem dX7_highest_59 : decode cX7_highest 59 = .ok (.iaload, 1) := by decide +kernel
theorem dX7_highest_60 : decode cX7_highest 60 = .ok (.aload_n 0, 1) := by decide +kernel
theorem dX7_highest_61 : decode cX7_highest 61 = .ok (.getfield 38, 3) := by decide +kernel
theorem dX7_highest_64 : decode cX7_highest 64 = .ok (.getfield 167, 3) := by decide +kernel
theorem dX7_highest_67 : decode cX7_highest 67 = .ok (.iload_n 2, 1) := by decide +kernel
theorem dX7_highest_68 : decode cX7_highest 68 = .ok (.aaload, 1) := by decide +kernel
theorem dX7_highest_69 : decode cX7_highest 69 = .ok (.aload_n 0, 1) := by decide +kernel
theorem dX7_highest_70 : decode cX7_highest 70 = .ok (.getfield 38, 3) := by decide +kernel
theorem dX7_highest_73 : decode cX7_highest 73 = .ok (.getfield 170, 3) := by decide +kernel
theorem dX7_highest_76 : decode cX7_highest 76 = .ok (.iaload, 1) := by decide +kernel
theorem dX7_highest_77 : decode cX7_highest 77 = .ok (.if_icmp .le 5, 3) := by decide +kernel
theorem dX7_highest_80 : decode cX7_highest 80 = .ok (.iload_n 3, 1) := by decide +kernel
theorem dX7_highest_81 : decode cX7_highest 81 = .ok (.istore_n 2, 1) := by decide +kernel
theorem dX7_highest_82 : decode cX7_highest 82 = .ok (.iinc 3 1, 3) := by decide +kernel
theorem dX7_highest_85 : decode cX7_highest 85 = .ok (.goto (-59), 3) := by decide +kernel
theorem dX7_highest_88 : decode cX7_highest 88 = .ok (.iload_n 2, 1) := by decide +kernel
theorem dX7_highest_89 : decode cX7_highest 89 = .ok (.ireturn, 1) := by decide +kernel
theorem dX7_seed_0 : decode cX7_seed 0 = .ok (.aload_n 0, 1) := by decide +kernel
theorem dX7_seed_1 : decode cX7_seed 1 = .ok (.getfield 10, 3) := by decide +kernel
theorem dX7_seed_4 : decode cX7_seed 4 = .ok (.getfield 87, 3) := by decide +kernel
theorem dX7_seed_7 : decode cX7_seed 7 = .ok (.istore_n 2, 1) := by decide +kernel
theorem dX7_seed_8 : decode cX7_seed 8 = .ok (.aload_n 0, 1) := by decide +kernel
theorem dX7_seed_9 : decode cX7_seed 9 = .ok (.getfield 10, 3) := by decide +kernel
theorem dX7_seed_12 : decode cX7_seed 12 = .ok (.iload_n 1, 1) := by decide +kernel
theorem dX7_seed_13 : decode cX7_seed 13 = .ok (.putfield 87, 3) := by decide +kernel
theorem dX7_seed_16 : decode cX7_seed 16 = .ok (.iload_n 2, 1) := by decide +kernel
theorem dX7_seed_17 : decode cX7_seed 17 = .ok (.ireturn, 1) := by decide +kernel
theorem dX7_draw_0 : decode cX7_draw 0 = .ok (.iload_n 1, 1) := by decide +kernel
theorem dX7_draw_1 : decode cX7_draw 1 = .ok (.invokestatic 96, 3) := by decide +kernel
theorem dX7_draw_4 : decode cX7_draw 4 = .ok (.ifCond .ne 5, 3) := by decide +kernel
theorem dX7_draw_7 : decode cX7_draw 7 = .ok (.iconst (-1), 1) := by decide +kernel
theorem dX7_draw_8 : decode cX7_draw 8 = .ok (.ireturn, 1) := by decide +kernel
theorem dX7_draw_9 : decode cX7_draw 9 = .ok (.aload_n 0, 1) := by decide +kernel
theorem dX7_draw_10 : decode cX7_draw 10 = .ok (.getfield 10, 3) := by decide +kernel
theorem dX7_draw_13 : decode cX7_draw 13 = .ok (.aload_n 0, 1) := by decide +kernel
theorem dX7_draw_14 : decode cX7_draw 14 = .ok (.getfield 10, 3) := by decide +kernel
theorem dX7_draw_17 : decode cX7_draw 17 = .ok (.getfield 87, 3) := by decide +kernel
theorem dX7_draw_20 : decode cX7_draw 20 = .ok (.ldc 196, 2) := by decide +kernel
theorem dX7_draw_22 : decode cX7_draw 22 = .ok (.imul, 1) := by decide +kernel
theorem dX7_draw_23 : decode cX7_draw 23 = .ok (.sipush 12345, 3) := by decide +kernel
theorem dX7_draw_26 : decode cX7_draw 26 = .ok (.iadd, 1) := by decide +kernel
theorem dX7_draw_27 : decode cX7_draw 27 = .ok (.putfield 87, 3) := by decide +kernel
theorem dX7_draw_30 : decode cX7_draw 30 = .ok (.aload_n 0, 1) := by decide +kernel
theorem dX7_draw_31 : decode cX7_draw 31 = .ok (.getfield 10, 3) := by decide +kernel
theorem dX7_draw_34 : decode cX7_draw 34 = .ok (.getfield 100, 3) := by decide +kernel
theorem dX7_draw_37 : decode cX7_draw 37 = .ok (.iload_n 1, 1) := by decide +kernel
theorem dX7_draw_38 : decode cX7_draw 38 = .ok (.aload_n 0, 1) := by decide +kernel
theorem dX7_draw_39 : decode cX7_draw 39 = .ok (.getfield 10, 3) := by decide +kernel
theorem dX7_draw_42 : decode cX7_draw 42 = .ok (.getfield 87, 3) := by decide +kernel
theorem dX7_draw_45 : decode cX7_draw 45 = .ok (.bipush 16, 2) := by decide +kernel
theorem dX7_draw_47 : decode cX7_draw 47 = .ok (.iushr, 1) := by decide +kernel
theorem dX7_draw_48 : decode cX7_draw 48 = .ok (.bipush 61, 2) := by decide +kernel
theorem dX7_draw_50 : decode cX7_draw 50 = .ok (.irem, 1) := by decide +kernel
theorem dX7_draw_51 : decode cX7_draw 51 = .ok (.bipush (-20), 2) := by decide +kernel
theorem dX7_draw_53 : decode cX7_draw 53 = .ok (.iadd, 1) := by decide +kernel
theorem dX7_draw_54 : decode cX7_draw 54 = .ok (.iastore, 1) := by decide +kernel
theorem dX7_draw_55 : decode cX7_draw 55 = .ok (.aload_n 0, 1) := by decide +kernel
theorem dX7_draw_56 : decode cX7_draw 56 = .ok (.getfield 10, 3) := by decide +kernel
theorem dX7_draw_59 : decode cX7_draw 59 = .ok (.getfield 100, 3) := by decide +kernel
theorem dX7_draw_62 : decode cX7_draw 62 = .ok (.iload_n 1, 1) := by decide +kernel
theorem dX7_draw_63 : decode cX7_draw 63 = .ok (.iaload, 1) := by decide +kernel
theorem dX7_draw_64 : decode cX7_draw 64 = .ok (.bipush 100, 2) := by decide +kernel
theorem dX7_draw_66 : decode cX7_draw 66 = .ok (.iadd, 1) := by decide +kernel
theorem dX7_draw_67 : decode cX7_draw 67 = .ok (.ireturn, 1) := by decide +kernel
theorem dX7_prove_0 : decode cX7_prove 0 = .ok (.aload_n 0, 1) := by decide +kernel
theorem dX7_prove_1 : decode cX7_prove 1 = .ok (.getfield 10, 3) := by decide +kernel
theorem dX7_prove_4 : decode cX7_prove 4 = .ok (.iload_n 1, 1) := by decide +kernel
theorem dX7_prove_5 : decode cX7_prove 5 = .ok (.invokevirtual 115, 3) := by decide +kernel
theorem dX7_prove_8 : decode cX7_prove 8 = .ok (.ifCond .eq 13, 3) := by decide +kernel
theorem dX7_prove_11 : decode cX7_prove 11 = .ok (.iload_n 2, 1) := by decide +kernel
theorem dX7_prove_12 : decode cX7_prove 12 = .ok (.iconst 1, 1) := by decide +kernel
theorem dX7_prove_13 : decode cX7_prove 13 = .ok (.bipush 20, 2) := by decide +kernel
theorem dX7_prove_15 : decode cX7_prove 15 = .ok (.invokestatic 72, 3) := by decide +kernel
theorem dX7_prove_18 : decode cX7_prove 18 = .ok (.ifCond .ne 5, 3) := by decide +kernel
theorem dX7_prove_21 : decode cX7_prove 21 = .ok (.iconst (-1), 1) := by decide +kernel
theorem dX7_prove_22 : decode cX7_prove 22 = .ok (.ireturn, 1) := by decide +kernel
theorem dX7_prove_23 : decode cX7_prove 23 = .ok (.aload_n 0, 1) := by decide +kernel
theorem dX7_prove_24 : decode cX7_prove 24 = .ok (.getfield 38, 3) := by decide +kernel
theorem dX7_prove_27 : decode cX7_prove 27 = .ok (.iload_n 2, 1) := by decide +kernel
theorem dX7_prove_28 : decode cX7_prove 28 = .ok (.iconst 0, 1) := by decide +kernel
theorem dX7_prove_29 : decode cX7_prove 29 = .ok (.invokevirtual 163, 3) := by decide +kernel
theorem dX7_prove_32 : decode cX7_prove 32 = .ok (.aload_n 0, 1) := by decide +kernel
theorem dX7_prove_33 : decode cX7_prove 33 = .ok (.aload_n 0, 1) := by decide +kernel
theorem dX7_prove_34 : decode cX7_prove 34 = .ok (.getfield 38, 3) := by decide +kernel
theorem dX7_prove_37 : decode cX7_prove 37 = .ok (.getfield 170, 3) := by decide +kernel
theorem dX7_prove_40 : decode cX7_prove 40 = .ok (.putfield 47, 3) := by decide +kernel
theorem dX7_prove_43 : decode cX7_prove 43 = .ok (.iconst 0, 1) := by decide +kernel
theorem dX7_prove_44 : decode cX7_prove 44 = .ok (.istore_n 3, 1) := by decide +kernel
theorem dX7_prove_45 : decode cX7_prove 45 = .ok (.iload_n 3, 1) := by decide +kernel
theorem dX7_prove_46 : decode cX7_prove 46 = .ok (.aload_n 0, 1) := by decide +kernel
theorem dX7_prove_47 : decode cX7_prove 47 = .ok (.getfield 47, 3) := by decide +kernel
theorem dX7_prove_50 : decode cX7_prove 50 = .ok (.if_icmp .ge 46, 3) := by decide +kernel
theorem dX7_prove_53 : decode cX7_prove 53 = .ok (.iconst 0, 1) := by decide +kernel
theorem dX7_prove_54 : decode cX7_prove 54 = .ok (.istore 4, 2) := by decide +kernel
theorem dX7_prove_56 : decode cX7_prove 56 = .ok (.iload 4, 2) := by decide +kernel
theorem dX7_prove_58 : decode cX7_prove 58 = .ok (.iconst 3, 1) := by decide +kernel
theorem dX7_prove_59 : decode cX7_prove 59 = .ok (.if_icmp .ge 31, 3) := by decide +kernel
theorem dX7_prove_62 : decode cX7_prove 62 = .ok (.aload_n 0, 1) := by decide +kernel
theorem dX7_prove_63 : decode cX7_prove 63 = .ok (.getfield 44, 3) := by decide +kernel
theorem dX7_prove_66 : decode cX7_prove 66 = .ok (.iload_n 3, 1) := by decide +kernel
theorem dX7_prove_67 : decode cX7_prove 67 = .ok (.aaload, 1) := by decide +kernel
theorem dX7_prove_68 : decode cX7_prove 68 = .ok (.iload 4, 2) := by decide +kernel
theorem dX7_prove_70 : decode cX7_prove 70 = .ok (.aload_n 0, 1) := by decide +kernel
theorem dX7_prove_71 : decode cX7_prove 71 = .ok (.getfield 38, 3) := by decide +kernel
theorem dX7_prove_74 : decode cX7_prove 74 = .ok (.iload_n 1, 1) := by decide +kernel
theorem dX7_prove_75 : decode cX7_prove 75 = .ok (.iload_n 3, 1) := by decide +kernel
theorem dX7_prove_76 : decode cX7_prove 76 = .ok (.iconst 1, 1) := by decide +kernel
theorem dX7_prove_77 : decode cX7_prove 77 = .ok (.iadd, 1) := by decide +kernel
theorem dX7_prove_78 : decode cX7_prove 78 = .ok (.iload 4, 2) := by decide +kernel
theorem dX7_prove_80 : decode cX7_prove 80 = .ok (.invokevirtual 197, 3) := by decide +kernel
theorem dX7_prove_83 : decode cX7_prove 83 = .ok (.iastore, 1) := by decide +kernel
theorem dX7_prove_84 : decode cX7_prove 84 = .ok (.iinc 4 1, 3) := by decide +kernel
theorem dX7_prove_87 : decode cX7_prove 87 = .ok (.goto (-31), 3) := by decide +kernel
theorem dX7_prove_90 : decode cX7_prove 90 = .ok (.iinc 3 1, 3) := by decide +kernel
theorem dX7_prove_93 : decode cX7_prove 93 = .ok (.goto (-48), 3) := by decide +kernel
theorem dX7_prove_96 : decode cX7_prove 96 = .ok (.aload_n 0, 1) := by decide +kernel
theorem dX7_prove_97 : decode cX7_prove 97 = .ok (.getfield 47, 3) := by decide +kernel
theorem dX7_prove_100 : decode cX7_prove 100 = .ok (.ireturn, 1) := by decide +kernel
theorem dX7_row_0 : decode cX7_row 0 = .ok (.aload_n 0, 1) := by decide +kernel
theorem dX7_row_1 : decode cX7_row 1 = .ok (.iload_n 1, 1) := by decide +kernel
theorem dX7_row_2 : decode cX7_row 2 = .ok (.iload_n 2, 1) := by decide +kernel
theorem dX7_row_3 : decode cX7_row 3 = .ok (.invokevirtual 200, 3) := by decide +kernel
theorem dX7_row_6 : decode cX7_row 6 = .ok (.ifCond .eq 14, 3) := by decide +kernel
theorem dX7_row_9 : decode cX7_row 9 = .ok (.aload_n 0, 1) := by decide +kernel
theorem dX7_row_10 : decode cX7_row 10 = .ok (.getfield 44, 3) := by decide +kernel
theorem dX7_row_13 : decode cX7_row 13 = .ok (.iload_n 1, 1) := by decide +kernel
theorem dX7_row_14 : decode cX7_row 14 = .ok (.aaload, 1) := by decide +kernel
theorem dX7_row_15 : decode cX7_row 15 = .ok (.iload_n 2, 1) := by decide +kernel
theorem dX7_row_16 : decode cX7_row 16 = .ok (.iaload, 1) := by decide +kernel
theorem dX7_row_17 : decode cX7_row 17 = .ok (.goto 5, 3) := by decide +kernel
theorem dX7_row_20 : decode cX7_row 20 = .ok (.bipush (-9), 2) := by decide +kernel
theorem dX7_row_22 : decode cX7_row 22 = .ok (.ireturn, 1) := by decide +kernel
theorem dX7_alterRow_0 : decode cX7_alterRow 0 = .ok (.aload_n 0, 1) := by decide +kernel
theorem dX7_alterRow_1 : decode cX7_alterRow 1 = .ok (.iload_n 1, 1) := by decide +kernel
theorem dX7_alterRow_2 : decode cX7_alterRow 2 = .ok (.iload_n 2, 1) := by decide +kernel
theorem dX7_alterRow_3 : decode cX7_alterRow 3 = .ok (.invokevirtual 200, 3) := by decide +kernel
theorem dX7_alterRow_6 : decode cX7_alterRow 6 = .ok (.ifCond .ne 6, 3) := by decide +kernel
theorem dX7_alterRow_9 : decode cX7_alterRow 9 = .ok (.bipush (-9), 2) := by decide +kernel
theorem dX7_alterRow_11 : decode cX7_alterRow 11 = .ok (.ireturn, 1) := by decide +kernel
theorem dX7_alterRow_12 : decode cX7_alterRow 12 = .ok (.aload_n 0, 1) := by decide +kernel
theorem dX7_alterRow_13 : decode cX7_alterRow 13 = .ok (.getfield 44, 3) := by decide +kernel
theorem dX7_alterRow_16 : decode cX7_alterRow 16 = .ok (.iload_n 1, 1) := by decide +kernel
theorem dX7_alterRow_17 : decode cX7_alterRow 17 = .ok (.aaload, 1) := by decide +kernel
theorem dX7_alterRow_18 : decode cX7_alterRow 18 = .ok (.iload_n 2, 1) := by decide +kernel
theorem dX7_alterRow_19 : decode cX7_alterRow 19 = .ok (.iaload, 1) := by decide +kernel
theorem dX7_alterRow_20 : decode cX7_alterRow 20 = .ok (.istore 4, 2) := by decide +kernel
theorem dX7_alterRow_22 : decode cX7_alterRow 22 = .ok (.aload_n 0, 1) := by decide +kernel
theorem dX7_alterRow_23 : decode cX7_alterRow 23 = .ok (.getfield 44, 3) := by decide +kernel
theorem dX7_alterRow_26 : decode cX7_alterRow 26 = .ok (.iload_n 1, 1) := by decide +kernel
theorem dX7_alterRow_27 : decode cX7_alterRow 27 = .ok (.aaload, 1) := by decide +kernel
theorem dX7_alterRow_28 : decode cX7_alterRow 28 = .ok (.iload_n 2, 1) := by decide +kernel
theorem dX7_alterRow_29 : decode cX7_alterRow 29 = .ok (.iload_n 3, 1) := by decide +kernel
theorem dX7_alterRow_30 : decode cX7_alterRow 30 = .ok (.iastore, 1) := by decide +kernel
theorem dX7_alterRow_31 : decode cX7_alterRow 31 = .ok (.iload 4, 2) := by decide +kernel
theorem dX7_alterRow_33 : decode cX7_alterRow 33 = .ok (.ireturn, 1) := by decide +kernel
theorem dX7_judge_0 : decode cX7_judge 0 = .ok (.aload_n 0, 1) := by decide +kernel
theorem dX7_judge_1 : decode cX7_judge 1 = .ok (.getfield 10, 3) := by decide +kernel
theorem dX7_judge_4 : decode cX7_judge 4 = .ok (.iload_n 1, 1) := by decide +kernel
theorem dX7_judge_5 : decode cX7_judge 5 = .ok (.invokevirtual 115, 3) := by decide +kernel
theorem dX7_judge_8 : decode cX7_judge 8 = .ok (.ifCond .ne 5, 3) := by decide +kernel
theorem dX7_judge_11 : decode cX7_judge 11 = .ok (.iconst (-1), 1) := by decide +kernel
theorem dX7_judge_12 : decode cX7_judge 12 = .ok (.ireturn, 1) := by decide +kernel
theorem dX7_judge_13 : decode cX7_judge 13 = .ok (.aload_n 0, 1) := by decide +kernel
theorem dX7_judge_14 : decode cX7_judge 14 = .ok (.getfield 38, 3) := by decide +kernel
theorem dX7_judge_17 : decode cX7_judge 17 = .ok (.aload_n 0, 1) := by decide +kernel
theorem dX7_judge_18 : decode cX7_judge 18 = .ok (.getfield 47, 3) := by decide +kernel
theorem dX7_judge_21 : decode cX7_judge 21 = .ok (.iconst 0, 1) := by decide +kernel
theorem dX7_judge_22 : decode cX7_judge 22 = .ok (.invokevirtual 163, 3) := by decide +kernel
theorem dX7_judge_25 : decode cX7_judge 25 = .ok (.iconst 0, 1) := by decide +kernel
theorem dX7_judge_26 : decode cX7_judge 26 = .ok (.istore_n 2, 1) := by decide +kernel
theorem dX7_judge_27 : decode cX7_judge 27 = .ok (.iload_n 2, 1) := by decide +kernel
theorem dX7_judge_28 : decode cX7_judge 28 = .ok (.aload_n 0, 1) := by decide +kernel
theorem dX7_judge_29 : decode cX7_judge 29 = .ok (.getfield 47, 3) := by decide +kernel
theorem dX7_judge_32 : decode cX7_judge 32 = .ok (.if_icmp .ge 35, 3) := by decide +kernel
theorem dX7_judge_35 : decode cX7_judge 35 = .ok (.iload_n 2, 1) := by decide +kernel
theorem dX7_judge_36 : decode cX7_judge 36 = .ok (.iconst 1, 1) := by decide +kernel
theorem dX7_judge_37 : decode cX7_judge 37 = .ok (.iadd, 1) := by decide +kernel
theorem dX7_judge_38 : decode cX7_judge 38 = .ok (.aload_n 0, 1) := by decide +kernel
theorem dX7_judge_39 : decode cX7_judge 39 = .ok (.getfield 38, 3) := by decide +kernel
theorem dX7_judge_42 : decode cX7_judge 42 = .ok (.getfield 170, 3) := by decide +kernel
theorem dX7_judge_45 : decode cX7_judge 45 = .ok (.if_icmp .gt 12, 3) := by decide +kernel
theorem dX7_judge_48 : decode cX7_judge 48 = .ok (.aload_n 0, 1) := by decide +kernel
theorem dX7_judge_49 : decode cX7_judge 49 = .ok (.iload_n 1, 1) := by decide +kernel
theorem dX7_judge_50 : decode cX7_judge 50 = .ok (.iload_n 2, 1) := by decide +kernel
theorem dX7_judge_51 : decode cX7_judge 51 = .ok (.invokevirtual 203, 3) := by decide +kernel
theorem dX7_judge_54 : decode cX7_judge 54 = .ok (.ifCond .ne 7, 3) := by decide +kernel
theorem dX7_judge_57 : decode cX7_judge 57 = .ok (.iload_n 2, 1) := by decide +kernel
theorem dX7_judge_58 : decode cX7_judge 58 = .ok (.iconst 1, 1) := by decide +kernel
theorem dX7_judge_59 : decode cX7_judge 59 = .ok (.iadd, 1) := by decide +kernel
theorem dX7_judge_60 : decode cX7_judge 60 = .ok (.ireturn, 1) := by decide +kernel
theorem dX7_judge_61 : decode cX7_judge 61 = .ok (.iinc 2 1, 3) := by decide +kernel
theorem dX7_judge_64 : decode cX7_judge 64 = .ok (.goto (-37), 3) := by decide +kernel
theorem dX7_judge_67 : decode cX7_judge 67 = .ok (.iconst 0, 1) := by decide +kernel
theorem dX7_judge_68 : decode cX7_judge 68 = .ok (.ireturn, 1) := by decide +kernel
theorem dX7_warms_0 : decode cX7_warms 0 = .ok (.iload_n 1, 1) := by decide +kernel
theorem dX7_warms_1 : decode cX7_warms 1 = .ok (.invokestatic 206, 3) := by decide +kernel
theorem dX7_warms_4 : decode cX7_warms 4 = .ok (.ifCond .eq 23, 3) := by decide +kernel
theorem dX7_warms_7 : decode cX7_warms 7 = .ok (.iload_n 3, 1) := by decide +kernel
theorem dX7_warms_8 : decode cX7_warms 8 = .ok (.invokestatic 96, 3) := by decide +kernel
theorem dX7_warms_11 : decode cX7_warms 11 = .ok (.ifCond .eq 16, 3) := by decide +kernel
theorem dX7_warms_14 : decode cX7_warms 14 = .ok (.iload 4, 2) := by decide +kernel
theorem dX7_warms_16 : decode cX7_warms 16 = .ok (.iconst 0, 1) := by decide +kernel
theorem dX7_warms_17 : decode cX7_warms 17 = .ok (.bipush 24, 2) := by decide +kernel
theorem dX7_warms_19 : decode cX7_warms 19 = .ok (.iload_n 3, 1) := by decide +kernel
theorem dX7_warms_20 : decode cX7_warms 20 = .ok (.isub, 1) := by decide +kernel
theorem dX7_warms_21 : decode cX7_warms 21 = .ok (.invokestatic 72, 3) := by decide +kernel
theorem dX7_warms_24 : decode cX7_warms 24 = .ok (.ifCond .ne 5, 3) := by decide +kernel
theorem dX7_warms_27 : decode cX7_warms 27 = .ok (.iconst (-1), 1) := by decide +kernel
theorem dX7_warms_28 : decode cX7_warms 28 = .ok (.ireturn, 1) := by decide +kernel
theorem dX7_warms_29 : decode cX7_warms 29 = .ok (.aload_n 0, 1) := by decide +kernel
theorem dX7_warms_30 : decode cX7_warms 30 = .ok (.getfield 53, 3) := by decide +kernel
theorem dX7_warms_33 : decode cX7_warms 33 = .ok (.iload_n 1, 1) := by decide +kernel
theorem dX7_warms_34 : decode cX7_warms 34 = .ok (.aaload, 1) := by decide +kernel
theorem dX7_warms_35 : decode cX7_warms 35 = .ok (.astore 5, 2) := by decide +kernel
theorem dX7_warms_37 : decode cX7_warms 37 = .ok (.aload 5, 2) := by decide +kernel
theorem dX7_warms_39 : decode cX7_warms 39 = .ok (.getfield 209, 3) := by decide +kernel
theorem dX7_warms_42 : decode cX7_warms 42 = .ok (.iconst (-1), 1) := by decide +kernel
theorem dX7_warms_43 : decode cX7_warms 43 = .ok (.if_icmp .ne 6, 3) := by decide +kernel
theorem dX7_warms_46 : decode cX7_warms 46 = .ok (.bipush (-11), 2) := by decide +kernel
theorem dX7_warms_48 : decode cX7_warms 48 = .ok (.ireturn, 1) := by decide +kernel
theorem dX7_warms_49 : decode cX7_warms 49 = .ok (.aload 5, 2) := by decide +kernel
theorem dX7_warms_51 : decode cX7_warms 51 = .ok (.getfield 209, 3) := by decide +kernel
theorem dX7_warms_54 : decode cX7_warms 54 = .ok (.ifCond .eq 6, 3) := by decide +kernel
theorem dX7_warms_57 : decode cX7_warms 57 = .ok (.bipush (-13), 2) := by decide +kernel
theorem dX7_warms_59 : decode cX7_warms 59 = .ok (.ireturn, 1) := by decide +kernel
theorem dX7_warms_60 : decode cX7_warms 60 = .ok (.iload_n 2, 1) := by decide +kernel
theorem dX7_warms_61 : decode cX7_warms 61 = .ok (.ifCond .lt 15, 3) := by decide +kernel
theorem dX7_warms_64 : decode cX7_warms 64 = .ok (.iload_n 2, 1) := by decide +kernel
theorem dX7_warms_65 : decode cX7_warms 65 = .ok (.aload 5, 2) := by decide +kernel
theorem dX7_warms_67 : decode cX7_warms 67 = .ok (.getfield 212, 3) := by decide +kernel
theorem dX7_warms_70 : decode cX7_warms 70 = .ok (.iload 4, 2) := by decide +kernel
theorem dX7_warms_72 : decode cX7_warms 72 = .ok (.isub, 1) := by decide +kernel
theorem dX7_warms_73 : decode cX7_warms 73 = .ok (.if_icmp .le 6, 3) := by decide +kernel
theorem dX7_warms_76 : decode cX7_warms 76 = .ok (.bipush (-12), 2) := by decide +kernel
theorem dX7_warms_78 : decode cX7_warms 78 = .ok (.ireturn, 1) := by decide +kernel
theorem dX7_warms_79 : decode cX7_warms 79 = .ok (.iconst 0, 1) := by decide +kernel
theorem dX7_warms_80 : decode cX7_warms 80 = .ok (.istore 6, 2) := by decide +kernel
theorem dX7_warms_82 : decode cX7_warms 82 = .ok (.iload 6, 2) := by decide +kernel
theorem dX7_warms_84 : decode cX7_warms 84 = .ok (.iload 4, 2) := by decide +kernel
theorem dX7_warms_86 : decode cX7_warms 86 = .ok (.if_icmp .ge 38, 3) := by decide +kernel
theorem dX7_warms_89 : decode cX7_warms 89 = .ok (.aload_n 0, 1) := by decide +kernel
theorem dX7_warms_90 : decode cX7_warms 90 = .ok (.getfield 10, 3) := by decide +kernel
theorem dX7_warms_93 : decode cX7_warms 93 = .ok (.getfield 100, 3) := by decide +kernel
theorem dX7_warms_96 : decode cX7_warms 96 = .ok (.iload_n 3, 1) := by decide +kernel
theorem dX7_warms_97 : decode cX7_warms 97 = .ok (.iload 6, 2) := by decide +kernel
theorem dX7_warms_99 : decode cX7_warms 99 = .ok (.iadd, 1) := by decide +kernel
theorem dX7_warms_100 : decode cX7_warms 100 = .ok (.aload 5, 2) := by decide +kernel
theorem dX7_warms_102 : decode cX7_warms 102 = .ok (.getfield 215, 3) := by decide +kernel
theorem dX7_warms_105 : decode cX7_warms 105 = .ok (.iload_n 2, 1) := by decide +kernel
theorem dX7_warms_106 : decode cX7_warms 106 = .ok (.iload 6, 2) := by decide +kernel
theorem dX7_warms_108 : decode cX7_warms 108 = .ok (.iadd, 1) := by decide +kernel
theorem dX7_warms_109 : decode cX7_warms 109 = .ok (.iaload, 1) := by decide +kernel
theorem dX7_warms_110 : decode cX7_warms 110 = .ok (.bipush (-20), 2) := by decide +kernel
theorem dX7_warms_112 : decode cX7_warms 112 = .ok (.bipush 40, 2) := by decide +kernel
theorem dX7_warms_114 : decode cX7_warms 114 = .ok (.invokestatic 218, 3) := by decide +kernel
theorem dX7_warms_117 : decode cX7_warms 117 = .ok (.iastore, 1) := by decide +kernel
theorem dX7_warms_118 : decode cX7_warms 118 = .ok (.iinc 6 1, 3) := by decide +kernel
theorem dX7_warms_121 : decode cX7_warms 121 = .ok (.goto (-39), 3) := by decide +kernel
theorem dX7_warms_124 : decode cX7_warms 124 = .ok (.iload 4, 2) := by decide +kernel
theorem dX7_warms_126 : decode cX7_warms 126 = .ok (.ireturn, 1) := by decide +kernel
theorem dX7_sheet_0 : decode cX7_sheet 0 = .ok (.iload_n 1, 1) := by decide +kernel
theorem dX7_sheet_1 : decode cX7_sheet 1 = .ok (.invokestatic 206, 3) := by decide +kernel
theorem dX7_sheet_4 : decode cX7_sheet 4 = .ok (.ifCond .eq 12, 3) := by decide +kernel
theorem dX7_sheet_7 : decode cX7_sheet 7 = .ok (.iload_n 2, 1) := by decide +kernel
theorem dX7_sheet_8 : decode cX7_sheet 8 = .ok (.iconst (-1), 1) := by decide +kernel
theorem dX7_sheet_9 : decode cX7_sheet 9 = .ok (.iconst 3, 1) := by decide +kernel
theorem dX7_sheet_10 : decode cX7_sheet 10 = .ok (.invokestatic 72, 3) := by decide +kernel
theorem dX7_sheet_13 : decode cX7_sheet 13 = .ok (.ifCond .ne 5, 3) := by decide +kernel
theorem dX7_sheet_16 : decode cX7_sheet 16 = .ok (.iconst (-1), 1) := by decide +kernel
theorem dX7_sheet_17 : decode cX7_sheet 17 = .ok (.ireturn, 1) := by decide +kernel
theorem dX7_sheet_18 : decode cX7_sheet 18 = .ok (.iload_n 2, 1) := by decide +kernel
theorem dX7_sheet_19 : decode cX7_sheet 19 = .ok (.iconst (-1), 1) := by decide +kernel
theorem dX7_sheet_20 : decode cX7_sheet 20 = .ok (.if_icmp .ne 16, 3) := by decide +kernel
theorem dX7_sheet_23 : decode cX7_sheet 23 = .ok (.aload_n 0, 1) := by decide +kernel
theorem dX7_sheet_24 : decode cX7_sheet 24 = .ok (.getfield 53, 3) := by decide +kernel
theorem dX7_sheet_27 : decode cX7_sheet 27 = .ok (.iload_n 1, 1) := by decide +kernel
theorem dX7_sheet_28 : decode cX7_sheet 28 = .ok (.aaload, 1) := by decide +kernel
theorem dX7_sheet_29 : decode cX7_sheet 29 = .ok (.iconst (-1), 1) := by decide +kernel
theorem dX7_sheet_30 : decode cX7_sheet 30 = .ok (.iconst 0, 1) := by decide +kernel
theorem dX7_sheet_31 : decode cX7_sheet 31 = .ok (.invokevirtual 221, 3) := by decide +kernel
theorem dX7_sheet_34 : decode cX7_sheet 34 = .ok (.iconst 1, 1) := by decide +kernel
theorem dX7_sheet_35 : decode cX7_sheet 35 = .ok (.ireturn, 1) := by decide +kernel
theorem dX7_sheet_36 : decode cX7_sheet 36 = .ok (.iload_n 3, 1) := by decide +kernel
theorem dX7_sheet_37 : decode cX7_sheet 37 = .ok (.bipush 40, 2) := by decide +kernel
theorem dX7_sheet_39 : decode cX7_sheet 39 = .ok (.if_icmp .le 5, 3) := by decide +kernel
theorem dX7_sheet_42 : decode cX7_sheet 42 = .ok (.iconst (-1), 1) := by decide +kernel
theorem dX7_sheet_43 : decode cX7_sheet 43 = .ok (.ireturn, 1) := by decide +kernel
theorem dX7_sheet_44 : decode cX7_sheet 44 = .ok (.iload_n 3, 1) := by decide +kernel
theorem dX7_sheet_45 : decode cX7_sheet 45 = .ok (.ifCond .ge 6, 3) := by decide +kernel
theorem dX7_sheet_48 : decode cX7_sheet 48 = .ok (.bipush (-14), 2) := by decide +kernel
theorem dX7_sheet_50 : decode cX7_sheet 50 = .ok (.ireturn, 1) := by decide +kernel
theorem dX7_sheet_51 : decode cX7_sheet 51 = .ok (.aload_n 0, 1) := by decide +kernel
theorem dX7_sheet_52 : decode cX7_sheet 52 = .ok (.getfield 53, 3) := by decide +kernel
theorem dX7_sheet_55 : decode cX7_sheet 55 = .ok (.iload_n 1, 1) := by decide +kernel
theorem dX7_sheet_56 : decode cX7_sheet 56 = .ok (.aaload, 1) := by decide +kernel
theorem dX7_sheet_57 : decode cX7_sheet 57 = .ok (.iload_n 2, 1) := by decide +kernel
theorem dX7_sheet_58 : decode cX7_sheet 58 = .ok (.iload_n 3, 1) := by decide +kernel
theorem dX7_sheet_59 : decode cX7_sheet 59 = .ok (.invokevirtual 221, 3) := by decide +kernel
theorem dX7_sheet_62 : decode cX7_sheet 62 = .ok (.iconst 1, 1) := by decide +kernel
theorem dX7_sheet_63 : decode cX7_sheet 63 = .ok (.ireturn, 1) := by decide +kernel
theorem dX7_put_0 : decode cX7_put 0 = .ok (.iload_n 1, 1) := by decide +kernel
theorem dX7_put_1 : decode cX7_put 1 = .ok (.invokestatic 206, 3) := by decide +kernel
theorem dX7_put_4 : decode cX7_put 4 = .ok (.ifCond .ne 5, 3) := by decide +kernel
theorem dX7_put_7 : decode cX7_put 7 = .ok (.iconst (-1), 1) := by decide +kernel
theorem dX7_put_8 : decode cX7_put 8 = .ok (.ireturn, 1) := by decide +kernel
theorem dX7_put_9 : decode cX7_put 9 = .ok (.aload_n 0, 1) := by decide +kernel
theorem dX7_put_10 : decode cX7_put 10 = .ok (.getfield 53, 3) := by decide +kernel
theorem dX7_put_13 : decode cX7_put 13 = .ok (.iload_n 1, 1) := by decide +kernel
theorem dX7_put_14 : decode cX7_put 14 = .ok (.aaload, 1) := by decide +kernel
theorem dX7_put_15 : decode cX7_put 15 = .ok (.astore 4, 2) := by decide +kernel
theorem dX7_put_17 : decode cX7_put 17 = .ok (.aload 4, 2) := by decide +kernel
theorem dX7_put_19 : decode cX7_put 19 = .ok (.getfield 209, 3) := by decide +kernel
theorem dX7_put_22 : decode cX7_put 22 = .ok (.iconst (-1), 1) := by decide +kernel
theorem dX7_put_23 : decode cX7_put 23 = .ok (.if_icmp .ne 6, 3) := by decide +kernel
theorem dX7_put_26 : decode cX7_put 26 = .ok (.bipush (-11), 2) := by decide +kernel
theorem dX7_put_28 : decode cX7_put 28 = .ok (.ireturn, 1) := by decide +kernel
theorem dX7_put_29 : decode cX7_put 29 = .ok (.iload_n 2, 1) := by decide +kernel
theorem dX7_put_30 : decode cX7_put 30 = .ok (.iconst 0, 1) := by decide +kernel
theorem dX7_put_31 : decode cX7_put 31 = .ok (.aload 4, 2) := by decide +kernel
theorem dX7_put_33 : decode cX7_put 33 = .ok (.getfield 212, 3) := by decide +kernel
theorem dX7_put_36 : decode cX7_put 36 = .ok (.iconst 1, 1) := by decide +kernel
theorem dX7_put_37 : decode cX7_put 37 = .ok (.isub, 1) := by decide +kernel
theorem dX7_put_38 : decode cX7_put 38 = .ok (.invokestatic 72, 3) := by decide +kernel
theorem dX7_put_41 : decode cX7_put 41 = .ok (.ifCond .ne 6, 3) := by decide +kernel
theorem dX7_put_44 : decode cX7_put 44 = .ok (.bipush (-12), 2) := by decide +kernel
theorem dX7_put_46 : decode cX7_put 46 = .ok (.ireturn, 1) := by decide +kernel
theorem dX7_put_47 : decode cX7_put 47 = .ok (.aload 4, 2) := by decide +kernel
theorem dX7_put_49 : decode cX7_put 49 = .ok (.getfield 215, 3) := by decide +kernel
theorem dX7_put_52 : decode cX7_put 52 = .ok (.iload_n 2, 1) := by decide +kernel
theorem dX7_put_53 : decode cX7_put 53 = .ok (.aload 4, 2) := by decide +kernel
theorem dX7_put_55 : decode cX7_put 55 = .ok (.iload_n 3, 1) := by decide +kernel
theorem dX7_put_56 : decode cX7_put 56 = .ok (.invokevirtual 224, 3) := by decide +kernel
theorem dX7_put_59 : decode cX7_put 59 = .ok (.iastore, 1) := by decide +kernel
theorem dX7_put_60 : decode cX7_put 60 = .ok (.iconst 1, 1) := by decide +kernel
theorem dX7_put_61 : decode cX7_put 61 = .ok (.ireturn, 1) := by decide +kernel
theorem dX7_item_0 : decode cX7_item 0 = .ok (.iload_n 1, 1) := by decide +kernel
theorem dX7_item_1 : decode cX7_item 1 = .ok (.invokestatic 206, 3) := by decide +kernel
theorem dX7_item_4 : decode cX7_item 4 = .ok (.ifCond .eq 12, 3) := by decide +kernel
theorem dX7_item_7 : decode cX7_item 7 = .ok (.iload_n 2, 1) := by decide +kernel
theorem dX7_item_8 : decode cX7_item 8 = .ok (.iconst 0, 1) := by decide +kernel
theorem dX7_item_9 : decode cX7_item 9 = .ok (.iconst 3, 1) := by decide +kernel
theorem dX7_item_10 : decode cX7_item 10 = .ok (.invokestatic 72, 3) := by decide +kernel
theorem dX7_item_13 : decode cX7_item 13 = .ok (.ifCond .ne 5, 3) := by decide +kernel
theorem dX7_item_16 : decode cX7_item 16 = .ok (.iconst (-1), 1) := by decide +kernel
theorem dX7_item_17 : decode cX7_item 17 = .ok (.ireturn, 1) := by decide +kernel
theorem dX7_item_18 : decode cX7_item 18 = .ok (.aload_n 0, 1) := by decide +kernel
theorem dX7_item_19 : decode cX7_item 19 = .ok (.getfield 53, 3) := by decide +kernel
theorem dX7_item_22 : decode cX7_item 22 = .ok (.iload_n 1, 1) := by decide +kernel
theorem dX7_item_23 : decode cX7_item 23 = .ok (.aaload, 1) := by decide +kernel
theorem dX7_item_24 : decode cX7_item 24 = .ok (.astore 4, 2) := by decide +kernel
theorem dX7_item_26 : decode cX7_item 26 = .ok (.aload 4, 2) := by decide +kernel
theorem dX7_item_28 : decode cX7_item 28 = .ok (.getfield 209, 3) := by decide +kernel
theorem dX7_item_31 : decode cX7_item 31 = .ok (.iconst (-1), 1) := by decide +kernel
theorem dX7_item_32 : decode cX7_item 32 = .ok (.if_icmp .ne 6, 3) := by decide +kernel
theorem dX7_item_35 : decode cX7_item 35 = .ok (.bipush (-11), 2) := by decide +kernel
theorem dX7_item_37 : decode cX7_item 37 = .ok (.ireturn, 1) := by decide +kernel
theorem dX7_item_38 : decode cX7_item 38 = .ok (.aload 4, 2) := by decide +kernel
theorem dX7_item_40 : decode cX7_item 40 = .ok (.getfield 209, 3) := by decide +kernel
theorem dX7_item_43 : decode cX7_item 43 = .ok (.iload_n 2, 1) := by decide +kernel
theorem dX7_item_44 : decode cX7_item 44 = .ok (.if_icmp .eq 6, 3) := by decide +kernel
theorem dX7_item_47 : decode cX7_item 47 = .ok (.bipush (-13), 2) := by decide +kernel
theorem dX7_item_49 : decode cX7_item 49 = .ok (.ireturn, 1) := by decide +kernel
theorem dX7_item_50 : decode cX7_item 50 = .ok (.iload_n 3, 1) := by decide +kernel
theorem dX7_item_51 : decode cX7_item 51 = .ok (.iconst 0, 1) := by decide +kernel
theorem dX7_item_52 : decode cX7_item 52 = .ok (.aload 4, 2) := by decide +kernel
theorem dX7_item_54 : decode cX7_item 54 = .ok (.getfield 212, 3) := by decide +kernel
theorem dX7_item_57 : decode cX7_item 57 = .ok (.iconst 1, 1) := by decide +kernel
theorem dX7_item_58 : decode cX7_item 58 = .ok (.isub, 1) := by decide +kernel
theorem dX7_item_59 : decode cX7_item 59 = .ok (.invokestatic 72, 3) := by decide +kernel
theorem dX7_item_62 : decode cX7_item 62 = .ok (.ifCond .eq 13, 3) := by decide +kernel
theorem dX7_item_65 : decode cX7_item 65 = .ok (.aload 4, 2) := by decide +kernel
theorem dX7_item_67 : decode cX7_item 67 = .ok (.getfield 215, 3) := by decide +kernel
theorem dX7_item_70 : decode cX7_item 70 = .ok (.iload_n 3, 1) := by decide +kernel
theorem dX7_item_71 : decode cX7_item 71 = .ok (.iaload, 1) := by decide +kernel
theorem dX7_item_72 : decode cX7_item 72 = .ok (.goto 5, 3) := by decide +kernel
theorem dX7_item_75 : decode cX7_item 75 = .ok (.bipush (-12), 2) := by decide +kernel
theorem dX7_item_77 : decode cX7_item 77 = .ok (.ireturn, 1) := by decide +kernel
theorem dX7_shelf_0 : decode cX7_shelf 0 = .ok (.iload_n 1, 1) := by decide +kernel
theorem dX7_shelf_1 : decode cX7_shelf 1 = .ok (.invokestatic 227, 3) := by decide +kernel
theorem dX7_shelf_4 : decode cX7_shelf 4 = .ok (.ifCond .ne 5, 3) := by decide +kernel
theorem dX7_shelf_7 : decode cX7_shelf 7 = .ok (.iconst (-1), 1) := by decide +kernel
theorem dX7_shelf_8 : decode cX7_shelf 8 = .ok (.ireturn, 1) := by decide +kernel
theorem dX7_shelf_9 : decode cX7_shelf 9 = .ok (.iload_n 2, 1) := by decide +kernel
theorem dX7_shelf_10 : decode cX7_shelf 10 = .ok (.tableswitch 89 0 2 #[26, 51, 77], 26) := by decide +kernel
theorem dX7_shelf_36 : decode cX7_shelf 36 = .ok (.aload_n 0, 1) := by decide +kernel
theorem dX7_shelf_37 : decode cX7_shelf 37 = .ok (.getfield 10, 3) := by decide +kernel
theorem dX7_shelf_40 : decode cX7_shelf 40 = .ok (.iload_n 3, 1) := by decide +kernel
theorem dX7_shelf_41 : decode cX7_shelf 41 = .ok (.invokevirtual 115, 3) := by decide +kernel
theorem dX7_shelf_44 : decode cX7_shelf 44 = .ok (.ifCond .ne 5, 3) := by decide +kernel
theorem dX7_shelf_47 : decode cX7_shelf 47 = .ok (.iconst (-1), 1) := by decide +kernel
theorem dX7_shelf_48 : decode cX7_shelf 48 = .ok (.ireturn, 1) := by decide +kernel
theorem dX7_shelf_49 : decode cX7_shelf 49 = .ok (.aload_n 0, 1) := by decide +kernel
theorem dX7_shelf_50 : decode cX7_shelf 50 = .ok (.getfield 59, 3) := by decide +kernel
theorem dX7_shelf_53 : decode cX7_shelf 53 = .ok (.iload_n 1, 1) := by decide +kernel
theorem dX7_shelf_54 : decode cX7_shelf 54 = .ok (.aaload, 1) := by decide +kernel
theorem dX7_shelf_55 : decode cX7_shelf 55 = .ok (.iload_n 3, 1) := by decide +kernel
theorem dX7_shelf_56 : decode cX7_shelf 56 = .ok (.invokevirtual 230, 3) := by decide +kernel
theorem dX7_shelf_59 : decode cX7_shelf 59 = .ok (.iconst 1, 1) := by decide +kernel
theorem dX7_shelf_60 : decode cX7_shelf 60 = .ok (.ireturn, 1) := by decide +kernel
theorem dX7_shelf_61 : decode cX7_shelf 61 = .ok (.iload_n 3, 1) := by decide +kernel
theorem dX7_shelf_62 : decode cX7_shelf 62 = .ok (.invokestatic 206, 3) := by decide +kernel
theorem dX7_shelf_65 : decode cX7_shelf 65 = .ok (.ifCond .ne 5, 3) := by decide +kernel
theorem dX7_shelf_68 : decode cX7_shelf 68 = .ok (.iconst (-1), 1) := by decide +kernel
theorem dX7_shelf_69 : decode cX7_shelf 69 = .ok (.ireturn, 1) := by decide +kernel
theorem dX7_shelf_70 : decode cX7_shelf 70 = .ok (.aload_n 0, 1) := by decide +kernel
theorem dX7_shelf_71 : decode cX7_shelf 71 = .ok (.getfield 59, 3) := by decide +kernel
theorem dX7_shelf_74 : decode cX7_shelf 74 = .ok (.iload_n 1, 1) := by decide +kernel
theorem dX7_shelf_75 : decode cX7_shelf 75 = .ok (.aaload, 1) := by decide +kernel
theorem dX7_shelf_76 : decode cX7_shelf 76 = .ok (.aload_n 0, 1) := by decide +kernel
theorem dX7_shelf_77 : decode cX7_shelf 77 = .ok (.getfield 53, 3) := by decide +kernel
theorem dX7_shelf_80 : decode cX7_shelf 80 = .ok (.iload_n 3, 1) := by decide +kernel
theorem dX7_shelf_81 : decode cX7_shelf 81 = .ok (.aaload, 1) := by decide +kernel
theorem dX7_shelf_82 : decode cX7_shelf 82 = .ok (.invokevirtual 234, 3) := by decide +kernel
theorem dX7_shelf_85 : decode cX7_shelf 85 = .ok (.iconst 1, 1) := by decide +kernel
theorem dX7_shelf_86 : decode cX7_shelf 86 = .ok (.ireturn, 1) := by decide +kernel
theorem dX7_shelf_87 : decode cX7_shelf 87 = .ok (.aload_n 0, 1) := by decide +kernel
theorem dX7_shelf_88 : decode cX7_shelf 88 = .ok (.getfield 59, 3) := by decide +kernel
theorem dX7_shelf_91 : decode cX7_shelf 91 = .ok (.iload_n 1, 1) := by decide +kernel
theorem dX7_shelf_92 : decode cX7_shelf 92 = .ok (.aaload, 1) := by decide +kernel
theorem dX7_shelf_93 : decode cX7_shelf 93 = .ok (.iconst 2, 1) := by decide +kernel
theorem dX7_shelf_94 : decode cX7_shelf 94 = .ok (.putfield 238, 3) := by decide +kernel
theorem dX7_shelf_97 : decode cX7_shelf 97 = .ok (.iconst 1, 1) := by decide +kernel
theorem dX7_shelf_98 : decode cX7_shelf 98 = .ok (.ireturn, 1) := by decide +kernel
theorem dX7_shelf_99 : decode cX7_shelf 99 = .ok (.iconst (-1), 1) := by decide +kernel
theorem dX7_shelf_100 : decode cX7_shelf 100 = .ok (.ireturn, 1) := by decide +kernel
theorem dX7_taken_0 : decode cX7_taken 0 = .ok (.iload_n 2, 1) := by decide +kernel
theorem dX7_taken_1 : decode cX7_taken 1 = .ok (.iconst 0, 1) := by decide +kernel
theorem dX7_taken_2 : decode cX7_taken 2 = .ok (.iconst 5, 1) := by decide +kernel
theorem dX7_taken_3 : decode cX7_taken 3 = .ok (.invokestatic 72, 3) := by decide +kernel
theorem dX7_taken_6 : decode cX7_taken 6 = .ok (.istore_n 3, 1) := by decide +kernel
theorem dX7_taken_7 : decode cX7_taken 7 = .ok (.iload_n 1, 1) := by decide +kernel
theorem dX7_taken_8 : decode cX7_taken 8 = .ok (.invokestatic 227, 3) := by decide +kernel
theorem dX7_taken_11 : decode cX7_taken 11 = .ok (.ifCond .eq 19, 3) := by decide +kernel
theorem dX7_taken_14 : decode cX7_taken 14 = .ok (.iload_n 3, 1) := by decide +kernel
theorem dX7_taken_15 : decode cX7_taken 15 = .ok (.ifCond .ne 17, 3) := by decide +kernel
theorem dX7_taken_18 : decode cX7_taken 18 = .ok (.iload_n 2, 1) := by decide +kernel
theorem dX7_taken_19 : decode cX7_taken 19 = .ok (.bipush 10, 2) := by decide +kernel
theorem dX7_taken_21 : decode cX7_taken 21 = .ok (.isub, 1) := by decide +kernel
theorem dX7_taken_22 : decode cX7_taken 22 = .ok (.iconst 0, 1) := by decide +kernel
theorem dX7_taken_23 : decode cX7_taken 23 = .ok (.iconst 3, 1) := by decide +kernel
theorem dX7_taken_24 : decode cX7_taken 24 = .ok (.invokestatic 72, 3) := by decide +kernel
theorem dX7_taken_27 : decode cX7_taken 27 = .ok (.ifCond .ne 5, 3) := by decide +kernel
theorem dX7_taken_30 : decode cX7_taken 30 = .ok (.iconst (-1), 1) := by decide +kernel
theorem dX7_taken_31 : decode cX7_taken 31 = .ok (.ireturn, 1) := by decide +kernel
theorem dX7_taken_32 : decode cX7_taken 32 = .ok (.aload_n 0, 1) := by decide +kernel
theorem dX7_taken_33 : decode cX7_taken 33 = .ok (.getfield 59, 3) := by decide +kernel
theorem dX7_taken_36 : decode cX7_taken 36 = .ok (.iload_n 1, 1) := by decide +kernel
theorem dX7_taken_37 : decode cX7_taken 37 = .ok (.aaload, 1) := by decide +kernel
theorem dX7_taken_38 : decode cX7_taken 38 = .ok (.astore 4, 2) := by decide +kernel
theorem dX7_taken_40 : decode cX7_taken 40 = .ok (.aload_n 0, 1) := by decide +kernel
theorem dX7_taken_41 : decode cX7_taken 41 = .ok (.aload 4, 2) := by decide +kernel
theorem dX7_taken_43 : decode cX7_taken 43 = .ok (.invokevirtual 241, 3) := by decide +kernel
theorem dX7_taken_46 : decode cX7_taken 46 = .ok (.istore 5, 2) := by decide +kernel
theorem dX7_taken_48 : decode cX7_taken 48 = .ok (.iload 5, 2) := by decide +kernel
theorem dX7_taken_50 : decode cX7_taken 50 = .ok (.ifCond .ne 15, 3) := by decide +kernel
theorem dX7_taken_53 : decode cX7_taken 53 = .ok (.aload 4, 2) := by decide +kernel
theorem dX7_taken_55 : decode cX7_taken 55 = .ok (.getfield 238, 3) := by decide +kernel
theorem dX7_taken_58 : decode cX7_taken 58 = .ok (.iconst 1, 1) := by decide +kernel
theorem dX7_taken_59 : decode cX7_taken 59 = .ok (.if_icmp .eq 6, 3) := by decide +kernel
theorem dX7_taken_62 : decode cX7_taken 62 = .ok (.bipush (-11), 2) := by decide +kernel
theorem dX7_taken_64 : decode cX7_taken 64 = .ok (.ireturn, 1) := by decide +kernel
theorem dX7_taken_65 : decode cX7_taken 65 = .ok (.iload_n 3, 1) := by decide +kernel
theorem dX7_taken_66 : decode cX7_taken 66 = .ok (.ifCond .eq 56, 3) := by decide +kernel
theorem dX7_taken_69 : decode cX7_taken 69 = .ok (.iload 5, 2) := by decide +kernel
theorem dX7_taken_71 : decode cX7_taken 71 = .ok (.ifCond .eq 32, 3) := by decide +kernel
theorem dX7_taken_74 : decode cX7_taken 74 = .ok (.aload_n 0, 1) := by decide +kernel
theorem dX7_taken_75 : decode cX7_taken 75 = .ok (.getfield 10, 3) := by decide +kernel
theorem dX7_taken_78 : decode cX7_taken 78 = .ok (.getfield 118, 3) := by decide +kernel
theorem dX7_taken_81 : decode cX7_taken 81 = .ok (.aload 4, 2) := by decide +kernel
theorem dX7_taken_83 : decode cX7_taken 83 = .ok (.getfield 245, 3) := by decide +kernel
theorem dX7_taken_86 : decode cX7_taken 86 = .ok (.aaload, 1) := by decide +kernel
theorem dX7_taken_87 : decode cX7_taken 87 = .ok (.getfield 138, 3) := by decide +kernel
theorem dX7_taken_90 : decode cX7_taken 90 = .ok (.iconst 0, 1) := by decide +kernel
theorem dX7_taken_91 : decode cX7_taken 91 = .ok (.iaload, 1) := by decide +kernel
theorem dX7_taken_92 : decode cX7_taken 92 = .ok (.iload_n 2, 1) := by decide +kernel
theorem dX7_taken_93 : decode cX7_taken 93 = .ok (.invokestatic 248, 3) := by decide +kernel
theorem dX7_taken_96 : decode cX7_taken 96 = .ok (.ifCond .eq 7, 3) := by decide +kernel
theorem dX7_taken_99 : decode cX7_taken 99 = .ok (.iconst 1, 1) := by decide +kernel
theorem dX7_taken_100 : decode cX7_taken 100 = .ok (.goto 4, 3) := by decide +kernel
theorem dX7_taken_103 : decode cX7_taken 103 = .ok (.iconst 0, 1) := by decide +kernel
theorem dX7_taken_104 : decode cX7_taken 104 = .ok (.istore 6, 2) := by decide +kernel
theorem dX7_taken_106 : decode cX7_taken 106 = .ok (.iload 6, 2) := by decide +kernel
theorem dX7_taken_108 : decode cX7_taken 108 = .ok (.ifCond .eq 11, 3) := by decide +kernel
theorem dX7_taken_111 : decode cX7_taken 111 = .ok (.aload 4, 2) := by decide +kernel
theorem dX7_taken_113 : decode cX7_taken 113 = .ok (.getfield 245, 3) := by decide +kernel
theorem dX7_taken_116 : decode cX7_taken 116 = .ok (.goto 5, 3) := by decide +kernel
theorem dX7_taken_119 : decode cX7_taken 119 = .ok (.bipush (-13), 2) := by decide +kernel
theorem dX7_taken_121 : decode cX7_taken 121 = .ok (.ireturn, 1) := by decide +kernel
theorem dX7_taken_122 : decode cX7_taken 122 = .ok (.aload 4, 2) := by decide +kernel
theorem dX7_taken_124 : decode cX7_taken 124 = .ok (.getfield 238, 3) := by decide +kernel
theorem dX7_taken_127 : decode cX7_taken 127 = .ok (.iconst 1, 1) := by decide +kernel
theorem dX7_taken_128 : decode cX7_taken 128 = .ok (.if_icmp .ne 19, 3) := by decide +kernel
theorem dX7_taken_131 : decode cX7_taken 131 = .ok (.aload 4, 2) := by decide +kernel
theorem dX7_taken_133 : decode cX7_taken 133 = .ok (.getfield 251, 3) := by decide +kernel
theorem dX7_taken_136 : decode cX7_taken 136 = .ok (.iload_n 2, 1) := by decide +kernel
theorem dX7_taken_137 : decode cX7_taken 137 = .ok (.bipush 10, 2) := by decide +kernel
theorem dX7_taken_139 : decode cX7_taken 139 = .ok (.isub, 1) := by decide +kernel
theorem dX7_taken_140 : decode cX7_taken 140 = .ok (.if_icmp .ne 7, 3) := by decide +kernel
theorem dX7_taken_143 : decode cX7_taken 143 = .ok (.iconst 1, 1) := by decide +kernel
theorem dX7_taken_144 : decode cX7_taken 144 = .ok (.goto 4, 3) := by decide +kernel
theorem dX7_taken_147 : decode cX7_taken 147 = .ok (.iconst 0, 1) := by decide +kernel
theorem dX7_taken_148 : decode cX7_taken 148 = .ok (.istore 6, 2) := by decide +kernel
theorem dX7_taken_150 : decode cX7_taken 150 = .ok (.iload 6, 2) := by decide +kernel
theorem dX7_taken_152 : decode cX7_taken 152 = .ok (.ifCond .eq 11, 3) := by decide +kernel
theorem dX7_taken_155 : decode cX7_taken 155 = .ok (.aload 4, 2) := by decide +kernel
theorem dX7_taken_157 : decode cX7_taken 157 = .ok (.getfield 252, 3) := by decide +kernel
theorem dX7_taken_160 : decode cX7_taken 160 = .ok (.goto 5, 3) := by decide +kernel
theorem dX7_taken_163 : decode cX7_taken 163 = .ok (.bipush (-13), 2) := by decide +kernel
theorem dX7_taken_165 : decode cX7_taken 165 = .ok (.ireturn, 1) := by decide +kernel
theorem dX7_act_0 : decode cX7_act 0 = .ok (.aload_n 0, 1) := by decide +kernel
theorem dX7_act_1 : decode cX7_act 1 = .ok (.getfield 66, 3) := by decide +kernel
theorem dX7_act_4 : decode cX7_act 4 = .ok (.invokevirtual 253, 3) := by decide +kernel
theorem dX7_act_7 : decode cX7_act 7 = .ok (.iload_n 1, 1) := by decide +kernel
theorem dX7_act_8 : decode cX7_act 8 = .ok (.invokestatic 227, 3) := by decide +kernel
theorem dX7_act_11 : decode cX7_act 11 = .ok (.ifCond .eq 25, 3) := by decide +kernel
theorem dX7_act_14 : decode cX7_act 14 = .ok (.iload_n 2, 1) := by decide +kernel
theorem dX7_act_15 : decode cX7_act 15 = .ok (.iconst 0, 1) := by decide +kernel
theorem dX7_act_16 : decode cX7_act 16 = .ok (.iconst 3, 1) := by decide +kernel
theorem dX7_act_17 : decode cX7_act 17 = .ok (.invokestatic 72, 3) := by decide +kernel
theorem dX7_act_20 : decode cX7_act 20 = .ok (.ifCond .eq 16, 3) := by decide +kernel
theorem dX7_act_23 : decode cX7_act 23 = .ok (.aload_n 0, 1) := by decide +kernel
theorem dX7_act_24 : decode cX7_act 24 = .ok (.aload_n 0, 1) := by decide +kernel
theorem dX7_act_25 : decode cX7_act 25 = .ok (.getfield 59, 3) := by decide +kernel
theorem dX7_act_28 : decode cX7_act 28 = .ok (.iload_n 1, 1) := by decide +kernel
theorem dX7_act_29 : decode cX7_act 29 = .ok (.aaload, 1) := by decide +kernel
theorem dX7_act_30 : decode cX7_act 30 = .ok (.invokevirtual 241, 3) := by decide +kernel
theorem dX7_act_33 : decode cX7_act 33 = .ok (.ifCond .ne 5, 3) := by decide +kernel
theorem dX7_act_36 : decode cX7_act 36 = .ok (.iconst 0, 1) := by decide +kernel
theorem dX7_act_37 : decode cX7_act 37 = .ok (.ireturn, 1) := by decide +kernel
theorem dX7_act_38 : decode cX7_act 38 = .ok (.aload_n 0, 1) := by decide +kernel
theorem dX7_act_39 : decode cX7_act 39 = .ok (.getfield 59, 3) := by decide +kernel
theorem dX7_act_42 : decode cX7_act 42 = .ok (.iload_n 1, 1) := by decide +kernel
theorem dX7_act_43 : decode cX7_act 43 = .ok (.aaload, 1) := by decide +kernel
theorem dX7_act_44 : decode cX7_act 44 = .ok (.getfield 245, 3) := by decide +kernel
theorem dX7_act_47 : decode cX7_act 47 = .ok (.istore 4, 2) := by decide +kernel
theorem dX7_act_49 : decode cX7_act 49 = .ok (.aload_n 0, 1) := by decide +kernel
theorem dX7_act_50 : decode cX7_act 50 = .ok (.getfield 66, 3) := by decide +kernel
theorem dX7_act_53 : decode cX7_act 53 = .ok (.aload_n 0, 1) := by decide +kernel
theorem dX7_act_54 : decode cX7_act 54 = .ok (.getfield 10, 3) := by decide +kernel
theorem dX7_act_57 : decode cX7_act 57 = .ok (.getfield 118, 3) := by decide +kernel
theorem dX7_act_60 : decode cX7_act 60 = .ok (.iload 4, 2) := by decide +kernel
theorem dX7_act_62 : decode cX7_act 62 = .ok (.aaload, 1) := by decide +kernel
theorem dX7_act_63 : decode cX7_act 63 = .ok (.iload 4, 2) := by decide +kernel
theorem dX7_act_65 : decode cX7_act 65 = .ok (.iload_n 2, 1) := by decide +kernel
theorem dX7_act_66 : decode cX7_act 66 = .ok (.iload_n 3, 1) := by decide +kernel
theorem dX7_act_67 : decode cX7_act 67 = .ok (.invokevirtual 256, 3) := by decide +kernel
theorem dX7_act_70 : decode cX7_act 70 = .ok (.ireturn, 1) := by decide +kernel
theorem dX7_trace_0 : decode cX7_trace 0 = .ok (.iload_n 1, 1) := by decide +kernel
theorem dX7_trace_1 : decode cX7_trace 1 = .ok (.iconst 0, 1) := by decide +kernel
theorem dX7_trace_2 : decode cX7_trace 2 = .ok (.aload_n 0, 1) := by decide +kernel
theorem dX7_trace_3 : decode cX7_trace 3 = .ok (.getfield 66, 3) := by decide +kernel
theorem dX7_trace_6 : decode cX7_trace 6 = .ok (.getfield 260, 3) := by decide +kernel
theorem dX7_trace_9 : decode cX7_trace 9 = .ok (.iconst 1, 1) := by decide +kernel
theorem dX7_trace_10 : decode cX7_trace 10 = .ok (.isub, 1) := by decide +kernel
theorem dX7_trace_11 : decode cX7_trace 11 = .ok (.invokestatic 72, 3) := by decide +kernel
theorem dX7_trace_14 : decode cX7_trace 14 = .ok (.ifCond .eq 15, 3) := by decide +kernel
theorem dX7_trace_17 : decode cX7_trace 17 = .ok (.aload_n 0, 1) := by decide +kernel
theorem dX7_trace_18 : decode cX7_trace 18 = .ok (.getfield 66, 3) := by decide +kernel
theorem dX7_trace_21 : decode cX7_trace 21 = .ok (.getfield 263, 3) := by decide +kernel
theorem dX7_trace_24 : decode cX7_trace 24 = .ok (.iload_n 1, 1) := by decide +kernel
theorem dX7_trace_25 : decode cX7_trace 25 = .ok (.iaload, 1) := by decide +kernel
theorem dX7_trace_26 : decode cX7_trace 26 = .ok (.goto 5, 3) := by decide +kernel
theorem dX7_trace_29 : decode cX7_trace 29 = .ok (.bipush (-3), 2) := by decide +kernel
theorem dX7_trace_31 : decode cX7_trace 31 = .ok (.ireturn, 1) := by decide +kernel
theorem dX7_many_0 : decode cX7_many 0 = .ok (.iload_n 1, 1) := by decide +kernel
theorem dX7_many_1 : decode cX7_many 1 = .ok (.tableswitch 84 0 5 #[39, 47, 55, 63, 68, 76], 39) := by decide +kernel
theorem dX7_many_40 : decode cX7_many 40 = .ok (.aload_n 0, 1) := by decide +kernel
theorem dX7_many_41 : decode cX7_many 41 = .ok (.getfield 10, 3) := by decide +kernel
theorem dX7_many_44 : decode cX7_many 44 = .ok (.getfield 93, 3) := by decide +kernel
theorem dX7_many_47 : decode cX7_many 47 = .ok (.ireturn, 1) := by decide +kernel
theorem dX7_many_48 : decode cX7_many 48 = .ok (.aload_n 0, 1) := by decide +kernel
theorem dX7_many_49 : decode cX7_many 49 = .ok (.getfield 10, 3) := by decide +kernel
theorem dX7_many_52 : decode cX7_many 52 = .ok (.invokevirtual 266, 3) := by decide +kernel
theorem dX7_many_55 : decode cX7_many 55 = .ok (.ireturn, 1) := by decide +kernel
theorem dX7_many_56 : decode cX7_many 56 = .ok (.aload_n 0, 1) := by decide +kernel
theorem dX7_many_57 : decode cX7_many 57 = .ok (.getfield 10, 3) := by decide +kernel
theorem dX7_many_60 : decode cX7_many 60 = .ok (.getfield 157, 3) := by decide +kernel
theorem dX7_many_63 : decode cX7_many 63 = .ok (.ireturn, 1) := by decide +kernel
theorem dX7_many_64 : decode cX7_many 64 = .ok (.aload_n 0, 1) := by decide +kernel
theorem dX7_many_65 : decode cX7_many 65 = .ok (.getfield 47, 3) := by decide +kernel
theorem dX7_many_68 : decode cX7_many 68 = .ok (.ireturn, 1) := by decide +kernel
theorem dX7_many_69 : decode cX7_many 69 = .ok (.aload_n 0, 1) := by decide +kernel
theorem dX7_many_70 : decode cX7_many 70 = .ok (.getfield 29, 3) := by decide +kernel
theorem dX7_many_73 : decode cX7_many 73 = .ok (.getfield 76, 3) := by decide +kernel
theorem dX7_many_76 : decode cX7_many 76 = .ok (.ireturn, 1) := by decide +kernel
theorem dX7_many_77 : decode cX7_many 77 = .ok (.aload_n 0, 1) := by decide +kernel
theorem dX7_many_78 : decode cX7_many 78 = .ok (.getfield 66, 3) := by decide +kernel
theorem dX7_many_81 : decode cX7_many 81 = .ok (.getfield 260, 3) := by decide +kernel
theorem dX7_many_84 : decode cX7_many 84 = .ok (.ireturn, 1) := by decide +kernel
theorem dX7_many_85 : decode cX7_many 85 = .ok (.iconst (-1), 1) := by decide +kernel
theorem dX7_many_86 : decode cX7_many 86 = .ok (.ireturn, 1) := by decide +kernel
theorem dX7_keep_0 : decode cX7_keep 0 = .ok (.aload_n 0, 1) := by decide +kernel
theorem dX7_keep_1 : decode cX7_keep 1 = .ok (.getfield 16, 3) := by decide +kernel
theorem dX7_keep_4 : decode cX7_keep 4 = .ok (.aload_n 0, 1) := by decide +kernel
theorem dX7_keep_5 : decode cX7_keep 5 = .ok (.getfield 10, 3) := by decide +kernel
theorem dX7_keep_8 : decode cX7_keep 8 = .ok (.invokevirtual 90, 3) := by decide +kernel
theorem dX7_keep_11 : decode cX7_keep 11 = .ok (.aload_n 0, 1) := by decide +kernel
theorem dX7_keep_12 : decode cX7_keep 12 = .ok (.iconst 1, 1) := by decide +kernel
theorem dX7_keep_13 : decode cX7_keep 13 = .ok (.putfield 19, 3) := by decide +kernel
theorem dX7_keep_16 : decode cX7_keep 16 = .ok (.iconst 1, 1) := by decide +kernel
theorem dX7_keep_17 : decode cX7_keep 17 = .ok (.ireturn, 1) := by decide +kernel
theorem dX7_again_0 : decode cX7_again 0 = .ok (.aload_n 0, 1) := by decide +kernel
theorem dX7_again_1 : decode cX7_again 1 = .ok (.getfield 19, 3) := by decide +kernel
theorem dX7_again_4 : decode cX7_again 4 = .ok (.ifCond .ne 6, 3) := by decide +kernel
theorem dX7_again_7 : decode cX7_again 7 = .ok (.bipush (-3), 2) := by decide +kernel
theorem dX7_again_9 : decode cX7_again 9 = .ok (.ireturn, 1) := by decide +kernel
theorem dX7_again_10 : decode cX7_again 10 = .ok (.aload_n 0, 1) := by decide +kernel
theorem dX7_again_11 : decode cX7_again 11 = .ok (.getfield 10, 3) := by decide +kernel
theorem dX7_again_14 : decode cX7_again 14 = .ok (.aload_n 0, 1) := by decide +kernel
theorem dX7_again_15 : decode cX7_again 15 = .ok (.getfield 16, 3) := by decide +kernel
theorem dX7_again_18 : decode cX7_again 18 = .ok (.invokevirtual 90, 3) := by decide +kernel
theorem dX7_again_21 : decode cX7_again 21 = .ok (.aload_n 0, 1) := by decide +kernel
theorem dX7_again_22 : decode cX7_again 22 = .ok (.getfield 10, 3) := by decide +kernel
theorem dX7_again_25 : decode cX7_again 25 = .ok (.getfield 157, 3) := by decide +kernel
theorem dX7_again_28 : decode cX7_again 28 = .ok (.ireturn, 1) := by decide +kernel
theorem dX7_within_0 : decode cX7_within 0 = .ok (.iload_n 0, 1) := by decide +kernel
theorem dX7_within_1 : decode cX7_within 1 = .ok (.iload_n 1, 1) := by decide +kernel
theorem dX7_within_2 : decode cX7_within 2 = .ok (.if_icmp .lt 12, 3) := by decide +kernel
theorem dX7_within_5 : decode cX7_within 5 = .ok (.iload_n 0, 1) := by decide +kernel
theorem dX7_within_6 : decode cX7_within 6 = .ok (.iload_n 2, 1) := by decide +kernel
theorem dX7_within_7 : decode cX7_within 7 = .ok (.if_icmp .gt 7, 3) := by decide +kernel
theorem dX7_within_10 : decode cX7_within 10 = .ok (.iconst 1, 1) := by decide +kernel
theorem dX7_within_11 : decode cX7_within 11 = .ok (.goto 4, 3) := by decide +kernel
theorem dX7_within_14 : decode cX7_within 14 = .ok (.iconst 0, 1) := by decide +kernel
theorem dX7_within_15 : decode cX7_within 15 = .ok (.ireturn, 1) := by decide +kernel
theorem dX7_held_0 : decode cX7_held 0 = .ok (.iload_n 0, 1) := by decide +kernel
theorem dX7_held_1 : decode cX7_held 1 = .ok (.iload_n 1, 1) := by decide +kernel
theorem dX7_held_2 : decode cX7_held 2 = .ok (.if_icmp .ge 7, 3) := by decide +kernel
theorem dX7_held_5 : decode cX7_held 5 = .ok (.iload_n 1, 1) := by decide +kernel
theorem dX7_held_6 : decode cX7_held 6 = .ok (.goto 13, 3) := by decide +kernel
theorem dX7_held_9 : decode cX7_held 9 = .ok (.iload_n 0, 1) := by decide +kernel
theorem dX7_held_10 : decode cX7_held 10 = .ok (.iload_n 2, 1) := by decide +kernel
theorem dX7_held_11 : decode cX7_held 11 = .ok (.if_icmp .le 7, 3) := by decide +kernel
theorem dX7_held_14 : decode cX7_held 14 = .ok (.iload_n 2, 1) := by decide +kernel
theorem dX7_held_15 : decode cX7_held 15 = .ok (.goto 4, 3) := by decide +kernel
theorem dX7_held_18 : decode cX7_held 18 = .ok (.iload_n 0, 1) := by decide +kernel
theorem dX7_held_19 : decode cX7_held 19 = .ok (.ireturn, 1) := by decide +kernel
theorem dX7_fits_0 : decode cX7_fits 0 = .ok (.iload_n 1, 1) := by decide +kernel
theorem dX7_fits_1 : decode cX7_fits 1 = .ok (.getstatic 182, 3) := by decide +kernel
theorem dX7_fits_4 : decode cX7_fits 4 = .ok (.iload_n 0, 1) := by decide +kernel
theorem dX7_fits_5 : decode cX7_fits 5 = .ok (.iaload, 1) := by decide +kernel
theorem dX7_fits_6 : decode cX7_fits 6 = .ok (.getstatic 141, 3) := by decide +kernel
theorem dX7_fits_9 : decode cX7_fits 9 = .ok (.iload_n 0, 1) := by decide +kernel
theorem dX7_fits_10 : decode cX7_fits 10 = .ok (.iaload, 1) := by decide +kernel
theorem dX7_fits_11 : decode cX7_fits 11 = .ok (.invokestatic 72, 3) := by decide +kernel
theorem dX7_fits_14 : decode cX7_fits 14 = .ok (.ireturn, 1) := by decide +kernel
theorem dX7_isHour_0 : decode cX7_isHour 0 = .ok (.iload_n 0, 1) := by decide +kernel
theorem dX7_isHour_1 : decode cX7_isHour 1 = .ok (.iconst 0, 1) := by decide +kernel
theorem dX7_isHour_2 : decode cX7_isHour 2 = .ok (.bipush 23, 2) := by decide +kernel
theorem dX7_isHour_4 : decode cX7_isHour 4 = .ok (.invokestatic 72, 3) := by decide +kernel
theorem dX7_isHour_7 : decode cX7_isHour 7 = .ok (.ireturn, 1) := by decide +kernel
theorem dX7_isSheet_0 : decode cX7_isSheet 0 = .ok (.iload_n 0, 1) := by decide +kernel
theorem dX7_isSheet_1 : decode cX7_isSheet 1 = .ok (.iconst 0, 1) := by decide +kernel
theorem dX7_isSheet_2 : decode cX7_isSheet 2 = .ok (.iconst 3, 1) := by decide +kernel
theorem dX7_isSheet_3 : decode cX7_isSheet 3 = .ok (.invokestatic 72, 3) := by decide +kernel
theorem dX7_isSheet_6 : decode cX7_isSheet 6 = .ok (.ireturn, 1) := by decide +kernel
theorem dX7_isShelf_0 : decode cX7_isShelf 0 = .ok (.iload_n 0, 1) := by decide +kernel
theorem dX7_isShelf_1 : decode cX7_isShelf 1 = .ok (.iconst 0, 1) := by decide +kernel
theorem dX7_isShelf_2 : decode cX7_isShelf 2 = .ok (.iconst 3, 1) := by decide +kernel
theorem dX7_isShelf_3 : decode cX7_isShelf 3 = .ok (.invokestatic 72, 3) := by decide +kernel
theorem dX7_isShelf_6 : decode cX7_isShelf 6 = .ok (.ireturn, 1) := by decide +kernel
theorem dX7_isUnder_0 : decode cX7_isUnder 0 = .ok (.iload_n 0, 1) := by decide +kernel
theorem dX7_isUnder_1 : decode cX7_isUnder 1 = .ok (.istore_n 2, 1) := by decide +kernel
theorem dX7_isUnder_2 : decode cX7_isUnder 2 = .ok (.iconst 0, 1) := by decide +kernel
theorem dX7_isUnder_3 : decode cX7_isUnder 3 = .ok (.istore_n 3, 1) := by decide +kernel
theorem dX7_isUnder_4 : decode cX7_isUnder 4 = .ok (.iload_n 3, 1) := by decide +kernel
theorem dX7_isUnder_5 : decode cX7_isUnder 5 = .ok (.bipush 6, 2) := by decide +kernel
theorem dX7_isUnder_7 : decode cX7_isUnder 7 = .ok (.if_icmp .ge 26, 3) := by decide +kernel
theorem dX7_isUnder_10 : decode cX7_isUnder 10 = .ok (.iload_n 2, 1) := by decide +kernel
theorem dX7_isUnder_11 : decode cX7_isUnder 11 = .ok (.ifCond .lt 22, 3) := by decide +kernel
theorem dX7_isUnder_14 : decode cX7_isUnder 14 = .ok (.iload_n 2, 1) := by decide +kernel
theorem dX7_isUnder_15 : decode cX7_isUnder 15 = .ok (.iload_n 1, 1) := by decide +kernel
theorem dX7_isUnder_16 : decode cX7_isUnder 16 = .ok (.if_icmp .ne 5, 3) := by decide +kernel
theorem dX7_isUnder_19 : decode cX7_isUnder 19 = .ok (.iconst 1, 1) := by decide +kernel
theorem dX7_isUnder_20 : decode cX7_isUnder 20 = .ok (.ireturn, 1) := by decide +kernel
theorem dX7_isUnder_21 : decode cX7_isUnder 21 = .ok (.getstatic 269, 3) := by decide +kernel
theorem dX7_isUnder_24 : decode cX7_isUnder 24 = .ok (.iload_n 2, 1) := by decide +kernel
theorem dX7_isUnder_25 : decode cX7_isUnder 25 = .ok (.iaload, 1) := by decide +kernel
theorem dX7_isUnder_26 : decode cX7_isUnder 26 = .ok (.istore_n 2, 1) := by decide +kernel
theorem dX7_isUnder_27 : decode cX7_isUnder 27 = .ok (.iinc 3 1, 3) := by decide +kernel
theorem dX7_isUnder_30 : decode cX7_isUnder 30 = .ok (.goto (-26), 3) := by decide +kernel
theorem dX7_isUnder_33 : decode cX7_isUnder 33 = .ok (.iconst 0, 1) := by decide +kernel
theorem dX7_isUnder_34 : decode cX7_isUnder 34 = .ok (.ireturn, 1) := by decide +kernel
theorem dX7_isRowPart_0 : decode cX7_isRowPart 0 = .ok (.iload_n 1, 1) := by decide +kernel
theorem dX7_isRowPart_1 : decode cX7_isRowPart 1 = .ok (.iconst 0, 1) := by decide +kernel
theorem dX7_isRowPart_2 : decode cX7_isRowPart 2 = .ok (.aload_n 0, 1) := by decide +kernel
theorem dX7_isRowPart_3 : decode cX7_isRowPart 3 = .ok (.getfield 47, 3) := by decide +kernel
theorem dX7_isRowPart_6 : decode cX7_isRowPart 6 = .ok (.iconst 1, 1) := by decide +kernel
theorem dX7_isRowPart_7 : decode cX7_isRowPart 7 = .ok (.isub, 1) := by decide +kernel
theorem dX7_isRowPart_8 : decode cX7_isRowPart 8 = .ok (.invokestatic 72, 3) := by decide +kernel
theorem dX7_isRowPart_11 : decode cX7_isRowPart 11 = .ok (.ifCond .eq 16, 3) := by decide +kernel
theorem dX7_isRowPart_14 : decode cX7_isRowPart 14 = .ok (.iload_n 2, 1) := by decide +kernel
theorem dX7_isRowPart_15 : decode cX7_isRowPart 15 = .ok (.iconst 0, 1) := by decide +kernel
theorem dX7_isRowPart_16 : decode cX7_isRowPart 16 = .ok (.iconst 2, 1) := by decide +kernel
theorem dX7_isRowPart_17 : decode cX7_isRowPart 17 = .ok (.invokestatic 72, 3) := by decide +kernel
theorem dX7_isRowPart_20 : decode cX7_isRowPart 20 = .ok (.ifCond .eq 7, 3) := by decide +kernel
theorem dX7_isRowPart_23 : decode cX7_isRowPart 23 = .ok (.iconst 1, 1) := by decide +kernel
theorem dX7_isRowPart_24 : decode cX7_isRowPart 24 = .ok (.goto 4, 3) := by decide +kernel
theorem dX7_isRowPart_27 : decode cX7_isRowPart 27 = .ok (.iconst 0, 1) := by decide +kernel
theorem dX7_isRowPart_28 : decode cX7_isRowPart 28 = .ok (.ireturn, 1) := by decide +kernel
theorem dX7_isRowRight_0 : decode cX7_isRowRight 0 = .ok (.iconst 0, 1) := by decide +kernel
theorem dX7_isRowRight_1 : decode cX7_isRowRight 1 = .ok (.istore_n 3, 1) := by decide +kernel
theorem dX7_isRowRight_2 : decode cX7_isRowRight 2 = .ok (.iload_n 3, 1) := by decide +kernel
theorem dX7_isRowRight_3 : decode cX7_isRowRight 3 = .ok (.iconst 3, 1) := by decide +kernel
theorem dX7_isRowRight_4 : decode cX7_isRowRight 4 = .ok (.if_icmp .ge 34, 3) := by decide +kernel
theorem dX7_isRowRight_7 : decode cX7_isRowRight 7 = .ok (.aload_n 0, 1) := by decide +kernel
theorem dX7_isRowRight_8 : decode cX7_isRowRight 8 = .ok (.getfield 44, 3) := by decide +kernel
theorem dX7_isRowRight_11 : decode cX7_isRowRight 11 = .ok (.iload_n 2, 1) := by decide +kernel
theorem dX7_isRowRight_12 : decode cX7_isRowRight 12 = .ok (.aaload, 1) := by decide +kernel
theorem dX7_isRowRight_13 : decode cX7_isRowRight 13 = .ok (.iload_n 3, 1) := by decide +kernel
theorem dX7_isRowRight_14 : decode cX7_isRowRight 14 = .ok (.iaload, 1) := by decide +kernel
theorem dX7_isRowRight_15 : decode cX7_isRowRight 15 = .ok (.aload_n 0, 1) := by decide +kernel
theorem dX7_isRowRight_16 : decode cX7_isRowRight 16 = .ok (.getfield 38, 3) := by decide +kernel
theorem dX7_isRowRight_19 : decode cX7_isRowRight 19 = .ok (.iload_n 1, 1) := by decide +kernel
theorem dX7_isRowRight_20 : decode cX7_isRowRight 20 = .ok (.iload_n 2, 1) := by decide +kernel
theorem dX7_isRowRight_21 : decode cX7_isRowRight 21 = .ok (.iconst 1, 1) := by decide +kernel
theorem dX7_isRowRight_22 : decode cX7_isRowRight 22 = .ok (.iadd, 1) := by decide +kernel
theorem dX7_isRowRight_23 : decode cX7_isRowRight 23 = .ok (.iload_n 3, 1) := by decide +kernel
theorem dX7_isRowRight_24 : decode cX7_isRowRight 24 = .ok (.invokevirtual 197, 3) := by decide +kernel
theorem dX7_isRowRight_27 : decode cX7_isRowRight 27 = .ok (.if_icmp .eq 5, 3) := by decide +kernel
theorem dX7_isRowRight_30 : decode cX7_isRowRight 30 = .ok (.iconst 0, 1) := by decide +kernel
theorem dX7_isRowRight_31 : decode cX7_isRowRight 31 = .ok (.ireturn, 1) := by decide +kernel
theorem dX7_isRowRight_32 : decode cX7_isRowRight 32 = .ok (.iinc 3 1, 3) := by decide +kernel
theorem dX7_isRowRight_35 : decode cX7_isRowRight 35 = .ok (.goto (-33), 3) := by decide +kernel
theorem dX7_isRowRight_38 : decode cX7_isRowRight 38 = .ok (.iconst 1, 1) := by decide +kernel
theorem dX7_isRowRight_39 : decode cX7_isRowRight 39 = .ok (.ireturn, 1) := by decide +kernel
theorem dX7_holdsBalloon_0 : decode cX7_holdsBalloon 0 = .ok (.aload_n 1, 1) := by decide +kernel
theorem dX7_holdsBalloon_1 : decode cX7_holdsBalloon 1 = .ok (.getfield 238, 3) := by decide +kernel
theorem dX7_holdsBalloon_4 : decode cX7_holdsBalloon 4 = .ok (.ifCond .ne 21, 3) := by decide +kernel
theorem dX7_holdsBalloon_7 : decode cX7_holdsBalloon 7 = .ok (.aload_n 0, 1) := by decide +kernel
theorem dX7_holdsBalloon_8 : decode cX7_holdsBalloon 8 = .ok (.getfield 10, 3) := by decide +kernel
theorem dX7_holdsBalloon_11 : decode cX7_holdsBalloon 11 = .ok (.aload_n 1, 1) := by decide +kernel
theorem dX7_holdsBalloon_12 : decode cX7_holdsBalloon 12 = .ok (.getfield 245, 3) := by decide +kernel
theorem dX7_holdsBalloon_15 : decode cX7_holdsBalloon 15 = .ok (.invokevirtual 115, 3) := by decide +kernel
theorem dX7_holdsBalloon_18 : decode cX7_holdsBalloon 18 = .ok (.ifCond .eq 7, 3) := by decide +kernel
theorem dX7_holdsBalloon_21 : decode cX7_holdsBalloon 21 = .ok (.iconst 1, 1) := by decide +kernel
theorem dX7_holdsBalloon_22 : decode cX7_holdsBalloon 22 = .ok (.goto 4, 3) := by decide +kernel
theorem dX7_holdsBalloon_25 : decode cX7_holdsBalloon 25 = .ok (.iconst 0, 1) := by decide +kernel
theorem dX7_holdsBalloon_26 : decode cX7_holdsBalloon 26 = .ok (.ireturn, 1) := by decide +kernel
theorem dX8_init_0 : decode cX8_init 0 = .ok (.aload_n 0, 1) := by decide +kernel
theorem dX8_init_1 : decode cX8_init 1 = .ok (.invokespecial 1, 3) := by decide +kernel
theorem dX8_init_4 : decode cX8_init 4 = .ok (.aload_n 0, 1) := by decide +kernel
theorem dX8_init_5 : decode cX8_init 5 = .ok (.bipush 24, 2) := by decide +kernel
theorem dX8_init_7 : decode cX8_init 7 = .ok (.newarray .int, 2) := by decide +kernel
theorem dX8_init_9 : decode cX8_init 9 = .ok (.putfield 7, 3) := by decide +kernel
theorem dX8_init_12 : decode cX8_init 12 = .ok (.aload_n 0, 1) := by decide +kernel
theorem dX8_init_13 : decode cX8_init 13 = .ok (.iconst 3, 1) := by decide +kernel
theorem dX8_init_14 : decode cX8_init 14 = .ok (.putfield 13, 3) := by decide +kernel
theorem dX8_init_17 : decode cX8_init 17 = .ok (.aload_n 0, 1) := by decide +kernel
theorem dX8_init_18 : decode cX8_init 18 = .ok (.bipush 6, 2) := by decide +kernel
theorem dX8_init_20 : decode cX8_init 20 = .ok (.newarray .int, 2) := by decide +kernel
theorem dX8_init_22 : decode cX8_init 22 = .ok (.putfield 17, 3) := by decide +kernel
theorem dX8_init_25 : decode cX8_init 25 = .ok (.aload_n 0, 1) := by decide +kernel
theorem dX8_init_26 : decode cX8_init 26 = .ok (.bipush 6, 2) := by decide +kernel
theorem dX8_init_28 : decode cX8_init 28 = .ok (.newarray .int, 2) := by decide +kernel
theorem dX8_init_30 : decode cX8_init 30 = .ok (.putfield 20, 3) := by decide +kernel
theorem dX8_init_33 : decode cX8_init 33 = .ok (.aload_n 0, 1) := by decide +kernel
theorem dX8_init_34 : decode cX8_init 34 = .ok (.bipush 86, 2) := by decide +kernel
theorem dX8_init_36 : decode cX8_init 36 = .ok (.newarray .int, 2) := by decide +kernel
theorem dX8_init_38 : decode cX8_init 38 = .ok (.putfield 23, 3) := by decide +kernel
theorem dX8_init_41 : decode cX8_init 41 = .ok (.aload_n 0, 1) := by decide +kernel
theorem dX8_init_42 : decode cX8_init 42 = .ok (.iconst 1, 1) := by decide +kernel
theorem dX8_init_43 : decode cX8_init 43 = .ok (.putfield 26, 3) := by decide +kernel
theorem dX8_init_46 : decode cX8_init 46 = .ok (.aload_n 0, 1) := by decide +kernel
theorem dX8_init_47 : decode cX8_init 47 = .ok (.sipush 240, 3) := by decide +kernel
theorem dX8_init_50 : decode cX8_init 50 = .ok (.newarray .int, 2) := by decide +kernel
theorem dX8_init_52 : decode cX8_init 52 = .ok (.putfield 29, 3) := by decide +kernel
theorem dX8_init_55 : decode cX8_init 55 = .ok (.aload_n 0, 1) := by decide +kernel
theorem dX8_init_56 : decode cX8_init 56 = .ok (.bipush 6, 2) := by decide +kernel
theorem dX8_init_58 : decode cX8_init 58 = .ok (.newarray .int, 2) := by decide +kernel
theorem dX8_init_60 : decode cX8_init 60 = .ok (.putfield 32, 3) := by decide +kernel
theorem dX8_init_63 : decode cX8_init 63 = .ok (.aload_n 0, 1) := by decide +kernel
theorem dX8_init_64 : decode cX8_init 64 = .ok (.bipush 6, 2) := by decide +kernel
theorem dX8_init_66 : decode cX8_init 66 = .ok (.newarray .int, 2) := by decide +kernel
theorem dX8_init_68 : decode cX8_init 68 = .ok (.putfield 35, 3) := by decide +kernel
theorem dX8_init_71 : decode cX8_init 71 = .ok (.aload_n 0, 1) := by decide +kernel
theorem dX8_init_72 : decode cX8_init 72 = .ok (.bipush 43, 2) := by decide +kernel
theorem dX8_init_74 : decode cX8_init 74 = .ok (.newarray .int, 2) := by decide +kernel
theorem dX8_init_76 : decode cX8_init 76 = .ok (.putfield 38, 3) := by decide +kernel
theorem dX8_init_79 : decode cX8_init 79 = .ok (.aload_n 0, 1) := by decide +kernel
theorem dX8_init_80 : decode cX8_init 80 = .ok (.bipush 24, 2) := by decide +kernel
theorem dX8_init_82 : decode cX8_init 82 = .ok (.newarray .int, 2) := by decide +kernel
theorem dX8_init_84 : decode cX8_init 84 = .ok (.putfield 41, 3) := by decide +kernel
theorem dX8_init_87 : decode cX8_init 87 = .ok (.aload_n 0, 1) := by decide +kernel
theorem dX8_init_88 : decode cX8_init 88 = .ok (.bipush 60, 2) := by decide +kernel
theorem dX8_init_90 : decode cX8_init 90 = .ok (.newarray .int, 2) := by decide +kernel
theorem dX8_init_92 : decode cX8_init 92 = .ok (.putfield 44, 3) := by decide +kernel
theorem dX8_init_95 : decode cX8_init 95 = .ok (.aload_n 0, 1) := by decide +kernel
theorem dX8_init_96 : decode cX8_init 96 = .ok (.bipush 60, 2) := by decide +kernel
theorem dX8_init_98 : decode cX8_init 98 = .ok (.newarray .int, 2) := by decide +kernel
theorem dX8_init_100 : decode cX8_init 100 = .ok (.putfield 47, 3) := by decide +kernel
theorem dX8_init_103 : decode cX8_init 103 = .ok (.aload_n 0, 1) := by decide +kernel
theorem dX8_init_104 : decode cX8_init 104 = .ok (.iconst 4, 1) := by decide +kernel
theorem dX8_init_105 : decode cX8_init 105 = .ok (.newarray .int, 2) := by decide +kernel
theorem dX8_init_107 : decode cX8_init 107 = .ok (.dup, 1) := by decide +kernel
theorem dX8_init_108 : decode cX8_init 108 = .ok (.iconst 0, 1) := by decide +kernel
theorem dX8_init_109 : decode cX8_init 109 = .ok (.iconst (-1), 1) := by decide +kernel
theorem dX8_init_110 : decode cX8_init 110 = .ok (.iastore, 1) := by decide +kernel
theorem dX8_init_111 : decode cX8_init 111 = .ok (.dup, 1) := by decide +kernel
theorem dX8_init_112 : decode cX8_init 112 = .ok (.iconst 1, 1) := by decide +kernel
theorem dX8_init_113 : decode cX8_init 113 = .ok (.iconst (-1), 1) := by decide +kernel
theorem dX8_init_114 : decode cX8_init 114 = .ok (.iastore, 1) := by decide +kernel
theorem dX8_init_115 : decode cX8_init 115 = .ok (.dup, 1) := by decide +kernel
theorem dX8_init_116 : decode cX8_init 116 = .ok (.iconst 2, 1) := by decide +kernel
theorem dX8_init_117 : decode cX8_init 117 = .ok (.iconst (-1), 1) := by decide +kernel
theorem dX8_init_118 : decode cX8_init 118 = .ok (.iastore, 1) := by decide +kernel
theorem dX8_init_119 : decode cX8_init 119 = .ok (.dup, 1) := by decide +kernel
theorem dX8_init_120 : decode cX8_init 120 = .ok (.iconst 3, 1) := by decide +kernel
theorem dX8_init_121 : decode cX8_init 121 = .ok (.iconst (-1), 1) := by decide +kernel
theorem dX8_init_122 : decode cX8_init 122 = .ok (.iastore, 1) := by decide +kernel
theorem dX8_init_123 : decode cX8_init 123 = .ok (.putfield 50, 3) := by decide +kernel
theorem dX8_init_126 : decode cX8_init 126 = .ok (.aload_n 0, 1) := by decide +kernel
theorem dX8_init_127 : decode cX8_init 127 = .ok (.iconst 4, 1) := by decide +kernel
theorem dX8_init_128 : decode cX8_init 128 = .ok (.newarray .int, 2) := by decide +kernel
theorem dX8_init_130 : decode cX8_init 130 = .ok (.putfield 53, 3) := by decide +kernel
theorem dX8_init_133 : decode cX8_init 133 = .ok (.aload_n 0, 1) := by decide +kernel
theorem dX8_init_134 : decode cX8_init 134 = .ok (.sipush 160, 3) := by decide +kernel
theorem dX8_init_137 : decode cX8_init 137 = .ok (.newarray .long, 2) := by decide +kernel
theorem dX8_init_139 : decode cX8_init 139 = .ok (.putfield 56, 3) := by decide +kernel
theorem dX8_init_142 : decode cX8_init 142 = .ok (.aload_n 0, 1) := by decide +kernel
theorem dX8_init_143 : decode cX8_init 143 = .ok (.iconst 4, 1) := by decide +kernel
theorem dX8_init_144 : decode cX8_init 144 = .ok (.newarray .int, 2) := by decide +kernel
theorem dX8_init_146 : decode cX8_init 146 = .ok (.dup, 1) := by decide +kernel
theorem dX8_init_147 : decode cX8_init 147 = .ok (.iconst 0, 1) := by decide +kernel
theorem dX8_init_148 : decode cX8_init 148 = .ok (.iconst (-1), 1) := by decide +kernel
theorem dX8_init_149 : decode cX8_init 149 = .ok (.iastore, 1) := by decide +kernel
theorem dX8_init_150 : decode cX8_init 150 = .ok (.dup, 1) := by decide +kernel
theorem dX8_init_151 : decode cX8_init 151 = .ok (.iconst 1, 1) := by decide +kernel
theorem dX8_init_152 : decode cX8_init 152 = .ok (.iconst (-1), 1) := by decide +kernel
theorem dX8_init_153 : decode cX8_init 153 = .ok (.iastore, 1) := by decide +kernel
theorem dX8_init_154 : decode cX8_init 154 = .ok (.dup, 1) := by decide +kernel
theorem dX8_init_155 : decode cX8_init 155 = .ok (.iconst 2, 1) := by decide +kernel
theorem dX8_init_156 : decode cX8_init 156 = .ok (.iconst (-1), 1) := by decide +kernel
theorem dX8_init_157 : decode cX8_init 157 = .ok (.iastore, 1) := by decide +kernel
theorem dX8_init_158 : decode cX8_init 158 = .ok (.dup, 1) := by decide +kernel
theorem dX8_init_159 : decode cX8_init 159 = .ok (.iconst 3, 1) := by decide +kernel
theorem dX8_init_160 : decode cX8_init 160 = .ok (.iconst (-1), 1) := by decide +kernel
theorem dX8_init_161 : decode cX8_init 161 = .ok (.iastore, 1) := by decide +kernel
theorem dX8_init_162 : decode cX8_init 162 = .ok (.putfield 60, 3) := by decide +kernel
theorem dX8_init_165 : decode cX8_init 165 = .ok (.aload_n 0, 1) := by decide +kernel
theorem dX8_init_166 : decode cX8_init 166 = .ok (.iconst 4, 1) := by decide +kernel
theorem dX8_init_167 : decode cX8_init 167 = .ok (.newarray .int, 2) := by decide +kernel
theorem dX8_init_169 : decode cX8_init 169 = .ok (.putfield 63, 3) := by decide +kernel
theorem dX8_init_172 : decode cX8_init 172 = .ok (.aload_n 0, 1) := by decide +kernel
theorem dX8_init_173 : decode cX8_init 173 = .ok (.iconst 4, 1) := by decide +kernel
theorem dX8_init_174 : decode cX8_init 174 = .ok (.newarray .int, 2) := by decide +kernel
theorem dX8_init_176 : decode cX8_init 176 = .ok (.putfield 66, 3) := by decide +kernel
theorem dX8_init_179 : decode cX8_init 179 = .ok (.aload_n 0, 1) := by decide +kernel
theorem dX8_init_180 : decode cX8_init 180 = .ok (.bipush 30, 2) := by decide +kernel
theorem dX8_init_182 : decode cX8_init 182 = .ok (.newarray .int, 2) := by decide +kernel
theorem dX8_init_184 : decode cX8_init 184 = .ok (.putfield 69, 3) := by decide +kernel
theorem dX8_init_187 : decode cX8_init 187 = .ok (.aload_n 0, 1) := by decide +kernel
theorem dX8_init_188 : decode cX8_init 188 = .ok (.bipush 90, 2) := by decide +kernel
theorem dX8_init_190 : decode cX8_init 190 = .ok (.newarray .int, 2) := by decide +kernel
theorem dX8_init_192 : decode cX8_init 192 = .ok (.putfield 72, 3) := by decide +kernel
theorem dX8_init_195 : decode cX8_init 195 = .ok (.aload_n 0, 1) := by decide +kernel
theorem dX8_init_196 : decode cX8_init 196 = .ok (.iconst 3, 1) := by decide +kernel
theorem dX8_init_197 : decode cX8_init 197 = .ok (.newarray .int, 2) := by decide +kernel
theorem dX8_init_199 : decode cX8_init 199 = .ok (.putfield 75, 3) := by decide +kernel
theorem dX8_init_202 : decode cX8_init 202 = .ok (.return_, 1) := by decide +kernel
theorem dX8_in_0 : decode cX8_in 0 = .ok (.iload_n 0, 1) := by decide +kernel
theorem dX8_in_1 : decode cX8_in 1 = .ok (.iload_n 1, 1) := by decide +kernel
theorem dX8_in_2 : decode cX8_in 2 = .ok (.if_icmp .lt 12, 3) := by decide +kernel
theorem dX8_in_5 : decode cX8_in 5 = .ok (.iload_n 0, 1) := by decide +kernel
theorem dX8_in_6 : decode cX8_in 6 = .ok (.iload_n 2, 1) := by decide +kernel
theorem dX8_in_7 : decode cX8_in 7 = .ok (.if_icmp .gt 7, 3) := by decide +kernel
theorem dX8_in_10 : decode cX8_in 10 = .ok (.iconst 1, 1) := by decide +kernel
theorem dX8_in_11 : decode cX8_in 11 = .ok (.goto 4, 3) := by decide +kernel
theorem dX8_in_14 : decode cX8_in 14 = .ok (.iconst 0, 1) := by decide +kernel
theorem dX8_in_15 : decode cX8_in 15 = .ok (.ireturn, 1) := by decide +kernel
theorem dX8_isHour_0 : decode cX8_isHour 0 = .ok (.iload_n 0, 1) := by decide +kernel
theorem dX8_isHour_1 : decode cX8_isHour 1 = .ok (.iconst 0, 1) := by decide +kernel
theorem dX8_isHour_2 : decode cX8_isHour 2 = .ok (.bipush 23, 2) := by decide +kernel
theorem dX8_isHour_4 : decode cX8_isHour 4 = .ok (.invokestatic 78, 3) := by decide +kernel
theorem dX8_isHour_7 : decode cX8_isHour 7 = .ok (.ireturn, 1) := by decide +kernel
theorem dX8_isBalloon_0 : decode cX8_isBalloon 0 = .ok (.iload_n 1, 1) := by decide +kernel
theorem dX8_isBalloon_1 : decode cX8_isBalloon 1 = .ok (.iconst 0, 1) := by decide +kernel
theorem dX8_isBalloon_2 : decode cX8_isBalloon 2 = .ok (.aload_n 0, 1) := by decide +kernel
theorem dX8_isBalloon_3 : decode cX8_isBalloon 3 = .ok (.getfield 82, 3) := by decide +kernel
theorem dX8_isBalloon_6 : decode cX8_isBalloon 6 = .ok (.iconst 1, 1) := by decide +kernel
theorem dX8_isBalloon_7 : decode cX8_isBalloon 7 = .ok (.isub, 1) := by decide +kernel
theorem dX8_isBalloon_8 : decode cX8_isBalloon 8 = .ok (.invokestatic 78, 3) := by decide +kernel
theorem dX8_isBalloon_11 : decode cX8_isBalloon 11 = .ok (.ireturn, 1) := by decide +kernel
theorem dX8_isKind_0 : decode cX8_isKind 0 = .ok (.iload_n 0, 1) := by decide +kernel
theorem dX8_isKind_1 : decode cX8_isKind 1 = .ok (.iconst 0, 1) := by decide +kernel
theorem dX8_isKind_2 : decode cX8_isKind 2 = .ok (.iconst 5, 1) := by decide +kernel
theorem dX8_isKind_3 : decode cX8_isKind 3 = .ok (.invokestatic 78, 3) := by decide +kernel
theorem dX8_isKind_6 : decode cX8_isKind 6 = .ok (.ifCond .eq 17, 3) := by decide +kernel
theorem dX8_isKind_9 : decode cX8_isKind 9 = .ok (.iload_n 1, 1) := by decide +kernel
theorem dX8_isKind_10 : decode cX8_isKind 10 = .ok (.iconst 0, 1) := by decide +kernel
theorem dX8_isKind_11 : decode cX8_isKind 11 = .ok (.bipush 9, 2) := by decide +kernel
theorem dX8_isKind_13 : decode cX8_isKind 13 = .ok (.invokestatic 78, 3) := by decide +kernel
theorem dX8_isKind_16 : decode cX8_isKind 16 = .ok (.ifCond .eq 7, 3) := by decide +kernel
theorem dX8_isKind_19 : decode cX8_isKind 19 = .ok (.iconst 1, 1) := by decide +kernel
theorem dX8_isKind_20 : decode cX8_isKind 20 = .ok (.goto 4, 3) := by decide +kernel
theorem dX8_isKind_23 : decode cX8_isKind 23 = .ok (.iconst 0, 1) := by decide +kernel
theorem dX8_isKind_24 : decode cX8_isKind 24 = .ok (.ireturn, 1) := by decide +kernel
theorem dX8_isPart_0 : decode cX8_isPart 0 = .ok (.iload_n 0, 1) := by decide +kernel
theorem dX8_isPart_1 : decode cX8_isPart 1 = .ok (.tableswitch 83 2 8 #[43, 50, 58, 66, 66, 50, 75], 43) := by decide +kernel
theorem dX8_isPart_44 : decode cX8_isPart 44 = .ok (.iload_n 1, 1) := by decide +kernel
theorem dX8_isPart_45 : decode cX8_isPart 45 = .ok (.iconst 0, 1) := by decide +kernel
theorem dX8_isPart_46 : decode cX8_isPart 46 = .ok (.iconst 5, 1) := by decide +kernel
theorem dX8_isPart_47 : decode cX8_isPart 47 = .ok (.invokestatic 78, 3) := by decide +kernel
theorem dX8_isPart_50 : decode cX8_isPart 50 = .ok (.ireturn, 1) := by decide +kernel
theorem dX8_isPart_51 : decode cX8_isPart 51 = .ok (.iload_n 1, 1) := by decide +kernel
theorem dX8_isPart_52 : decode cX8_isPart 52 = .ok (.iconst 0, 1) := by decide +kernel
theorem dX8_isPart_53 : decode cX8_isPart 53 = .ok (.bipush 99, 2) := by decide +kernel
theorem dX8_isPart_55 : decode cX8_isPart 55 = .ok (.invokestatic 78, 3) := by decide +kernel
theorem dX8_isPart_58 : decode cX8_isPart 58 = .ok (.ireturn, 1) := by decide +kernel
theorem dX8_isPart_59 : decode cX8_isPart 59 = .ok (.iload_n 1, 1) := by decide +kernel
theorem dX8_isPart_60 : decode cX8_isPart 60 = .ok (.iconst 1, 1) := by decide +kernel
theorem dX8_isPart_61 : decode cX8_isPart 61 = .ok (.bipush 99, 2) := by decide +kernel
theorem dX8_isPart_63 : decode cX8_isPart 63 = .ok (.invokestatic 78, 3) := by decide +kernel
theorem dX8_isPart_66 : decode cX8_isPart 66 = .ok (.ireturn, 1) := by decide +kernel
theorem dX8_isPart_67 : decode cX8_isPart 67 = .ok (.iload_n 1, 1) := by decide +kernel
theorem dX8_isPart_68 : decode cX8_isPart 68 = .ok (.iconst 0, 1) := by decide +kernel
theorem dX8_isPart_69 : decode cX8_isPart 69 = .ok (.sipush 999, 3) := by decide +kernel
theorem dX8_isPart_72 : decode cX8_isPart 72 = .ok (.invokestatic 78, 3) := by decide +kernel
theorem dX8_isPart_75 : decode cX8_isPart 75 = .ok (.ireturn, 1) := by decide +kernel
theorem dX8_isPart_76 : decode cX8_isPart 76 = .ok (.iload_n 1, 1) := by decide +kernel
theorem dX8_isPart_77 : decode cX8_isPart 77 = .ok (.iconst 0, 1) := by decide +kernel
theorem dX8_isPart_78 : decode cX8_isPart 78 = .ok (.bipush 9, 2) := by decide +kernel
theorem dX8_isPart_80 : decode cX8_isPart 80 = .ok (.invokestatic 78, 3) := by decide +kernel
theorem dX8_isPart_83 : decode cX8_isPart 83 = .ok (.ireturn, 1) := by decide +kernel
theorem dX8_isPart_84 : decode cX8_isPart 84 = .ok (.iconst 0, 1) := by decide +kernel
theorem dX8_isPart_85 : decode cX8_isPart 85 = .ok (.ireturn, 1) := by decide +kernel
theorem dX8_its_0 : decode cX8_its 0 = .ok (.aload_n 0, 1) := by decide +kernel
theorem dX8_its_1 : decode cX8_its 1 = .ok (.getfield 23, 3) := by decide +kernel
theorem dX8_its_4 : decode cX8_its 4 = .ok (.aload_n 0, 1) := by decide +kernel
theorem dX8_its_5 : decode cX8_its 5 = .ok (.getfield 85, 3) := by decide +kernel
theorem dX8_its_8 : decode cX8_its 8 = .ok (.bipush 7, 2) := by decide +kernel
theorem dX8_its_10 : decode cX8_its 10 = .ok (.iload_n 1, 1) := by decide +kernel
theorem dX8_its_11 : decode cX8_its 11 = .ok (.imul, 1) := by decide +kernel
theorem dX8_its_12 : decode cX8_its 12 = .ok (.iadd, 1) := by decide +kernel
theorem dX8_its_13 : decode cX8_its 13 = .ok (.iload_n 2, 1) := by decide +kernel
theorem dX8_its_14 : decode cX8_its 14 = .ok (.iadd, 1) := by decide +kernel
theorem dX8_its_15 : decode cX8_its 15 = .ok (.iaload, 1) := by decide +kernel
theorem dX8_its_16 : decode cX8_its 16 = .ok (.ireturn, 1) := by decide +kernel
theorem dX8_sets_0 : decode cX8_sets 0 = .ok (.aload_n 0, 1) := by decide +kernel
theorem dX8_sets_1 : decode cX8_sets 1 = .ok (.getfield 23, 3) := by decide +kernel
theorem dX8_sets_4 : decode cX8_sets 4 = .ok (.aload_n 0, 1) := by decide +kernel
theorem dX8_sets_5 : decode cX8_sets 5 = .ok (.getfield 85, 3) := by decide +kernel
theorem dX8_sets_8 : decode cX8_sets 8 = .ok (.bipush 7, 2) := by decide +kernel
theorem dX8_sets_10 : decode cX8_sets 10 = .ok (.iload_n 1, 1) := by decide +kernel
theorem dX8_sets_11 : decode cX8_sets 11 = .ok (.imul, 1) := by decide +kernel
theorem dX8_sets_12 : decode cX8_sets 12 = .ok (.iadd, 1) := by decide +kernel
theorem dX8_sets_13 : decode cX8_sets 13 = .ok (.iload_n 2, 1) := by decide +kernel
theorem dX8_sets_14 : decode cX8_sets 14 = .ok (.iadd, 1) := by decide +kernel
theorem dX8_sets_15 : decode cX8_sets 15 = .ok (.iload_n 3, 1) := by decide +kernel
theorem dX8_sets_16 : decode cX8_sets 16 = .ok (.iastore, 1) := by decide +kernel
theorem dX8_sets_17 : decode cX8_sets 17 = .ok (.return_, 1) := by decide +kernel
theorem dX8_feed_0 : decode cX8_feed 0 = .ok (.iload_n 3, 1) := by decide +kernel
theorem dX8_feed_1 : decode cX8_feed 1 = .ok (.iconst 1, 1) := by decide +kernel
theorem dX8_feed_2 : decode cX8_feed 2 = .ok (.bipush 8, 2) := by decide +kernel
theorem dX8_feed_4 : decode cX8_feed 4 = .ok (.invokestatic 78, 3) := by decide +kernel
theorem dX8_feed_7 : decode cX8_feed 7 = .ok (.ifCond .ne 5, 3) := by decide +kernel
theorem dX8_feed_10 : decode cX8_feed 10 = .ok (.iconst (-1), 1) := by decide +kernel
theorem dX8_feed_11 : decode cX8_feed 11 = .ok (.ireturn, 1) := by decide +kernel
theorem dX8_feed_12 : decode cX8_feed 12 = .ok (.aload_n 0, 1) := by decide +kernel
theorem dX8_feed_13 : decode cX8_feed 13 = .ok (.getfield 88, 3) := by decide +kernel
theorem dX8_feed_16 : decode cX8_feed 16 = .ok (.iload_n 3, 1) := by decide +kernel
theorem dX8_feed_17 : decode cX8_feed 17 = .ok (.iadd, 1) := by decide +kernel
theorem dX8_feed_18 : decode cX8_feed 18 = .ok (.sipush 240, 3) := by decide +kernel
theorem dX8_feed_21 : decode cX8_feed 21 = .ok (.if_icmp .le 6, 3) := by decide +kernel
theorem dX8_feed_24 : decode cX8_feed 24 = .ok (.bipush (-2), 2) := by decide +kernel
theorem dX8_feed_26 : decode cX8_feed 26 = .ok (.ireturn, 1) := by decide +kernel
theorem dX8_feed_27 : decode cX8_feed 27 = .ok (.iconst 0, 1) := by decide +kernel
theorem dX8_feed_28 : decode cX8_feed 28 = .ok (.istore 4, 2) := by decide +kernel
theorem dX8_feed_30 : decode cX8_feed 30 = .ok (.iload 4, 2) := by decide +kernel
theorem dX8_feed_32 : decode cX8_feed 32 = .ok (.iload_n 3, 1) := by decide +kernel
theorem dX8_feed_33 : decode cX8_feed 33 = .ok (.if_icmp .ge 40, 3) := by decide +kernel
theorem dX8_feed_36 : decode cX8_feed 36 = .ok (.aload_n 0, 1) := by decide +kernel
theorem dX8_feed_37 : decode cX8_feed 37 = .ok (.getfield 29, 3) := by decide +kernel
theorem dX8_feed_40 : decode cX8_feed 40 = .ok (.aload_n 0, 1) := by decide +kernel
theorem dX8_feed_41 : decode cX8_feed 41 = .ok (.getfield 88, 3) := by decide +kernel
theorem dX8_feed_44 : decode cX8_feed 44 = .ok (.lload_n 1, 1) := by decide +kernel
theorem dX8_feed_45 : decode cX8_feed 45 = .ok (.bipush 8, 2) := by decide +kernel
theorem dX8_feed_47 : decode cX8_feed 47 = .ok (.iload 4, 2) := by decide +kernel
theorem dX8_feed_49 : decode cX8_feed 49 = .ok (.imul, 1) := by decide +kernel
theorem dX8_feed_50 : decode cX8_feed 50 = .ok (.lshr, 1) := by decide +kernel
theorem dX8_feed_51 : decode cX8_feed 51 = .ok (.ldc2_w 91, 3) := by decide +kernel
theorem dX8_feed_54 : decode cX8_feed 54 = .ok (.land, 1) := by decide +kernel
theorem dX8_feed_55 : decode cX8_feed 55 = .ok (.l2i, 1) := by decide +kernel
theorem dX8_feed_56 : decode cX8_feed 56 = .ok (.iastore, 1) := by decide +kernel
theorem dX8_feed_57 : decode cX8_feed 57 = .ok (.aload_n 0, 1) := by decide +kernel
theorem dX8_feed_58 : decode cX8_feed 58 = .ok (.dup, 1) := by decide +kernel
theorem dX8_feed_59 : decode cX8_feed 59 = .ok (.getfield 88, 3) := by decide +kernel
theorem dX8_feed_62 : decode cX8_feed 62 = .ok (.iconst 1, 1) := by decide +kernel
theorem dX8_feed_63 : decode cX8_feed 63 = .ok (.iadd, 1) := by decide +kernel
theorem dX8_feed_64 : decode cX8_feed 64 = .ok (.putfield 88, 3) := by decide +kernel
theorem dX8_feed_67 : decode cX8_feed 67 = .ok (.iinc 4 1, 3) := by decide +kernel
theorem dX8_feed_70 : decode cX8_feed 70 = .ok (.goto (-40), 3) := by decide +kernel
theorem dX8_feed_73 : decode cX8_feed 73 = .ok (.aload_n 0, 1) := by decide +kernel
theorem dX8_feed_74 : decode cX8_feed 74 = .ok (.getfield 88, 3) := by decide +kernel
theorem dX8_feed_77 : decode cX8_feed 77 = .ok (.ireturn, 1) := by decide +kernel
theorem dX8_byteAt_0 : decode cX8_byteAt 0 = .ok (.iload_n 1, 1) := by decide +kernel
theorem dX8_byteAt_1 : decode cX8_byteAt 1 = .ok (.aload_n 0, 1) := by decide +kernel
theorem dX8_byteAt_2 : decode cX8_byteAt 2 = .ok (.getfield 88, 3) := by decide +kernel
theorem dX8_byteAt_5 : decode cX8_byteAt 5 = .ok (.if_icmp .ge 12, 3) := by decide +kernel
theorem dX8_byteAt_8 : decode cX8_byteAt 8 = .ok (.aload_n 0, 1) := by decide +kernel
theorem dX8_byteAt_9 : decode cX8_byteAt 9 = .ok (.getfield 29, 3) := by decide +kernel
theorem dX8_byteAt_12 : decode cX8_byteAt 12 = .ok (.iload_n 1, 1) := by decide +kernel
theorem dX8_byteAt_13 : decode cX8_byteAt 13 = .ok (.iaload, 1) := by decide +kernel
theorem dX8_byteAt_14 : decode cX8_byteAt 14 = .ok (.goto 4, 3) := by decide +kernel
theorem dX8_byteAt_17 : decode cX8_byteAt 17 = .ok (.iconst (-1), 1) := by decide +kernel
theorem dX8_byteAt_18 : decode cX8_byteAt 18 = .ok (.ireturn, 1) := by decide +kernel
theorem dX8_isLetter_0 : decode cX8_isLetter 0 = .ok (.iload_n 0, 1) := by decide +kernel
theorem dX8_isLetter_1 : decode cX8_isLetter 1 = .ok (.bipush 97, 2) := by decide +kernel
theorem dX8_isLetter_3 : decode cX8_isLetter 3 = .ok (.bipush 122, 2) := by decide +kernel
theorem dX8_isLetter_5 : decode cX8_isLetter 5 = .ok (.invokestatic 78, 3) := by decide +kernel
theorem dX8_isLetter_8 : decode cX8_isLetter 8 = .ok (.ireturn, 1) := by decide +kernel
theorem dX8_isDigit_0 : decode cX8_isDigit 0 = .ok (.iload_n 0, 1) := by decide +kernel
theorem dX8_isDigit_1 : decode cX8_isDigit 1 = .ok (.bipush 48, 2) := by decide +kernel
theorem dX8_isDigit_3 : decode cX8_isDigit 3 = .ok (.bipush 57, 2) := by decide +kernel
theorem dX8_isDigit_5 : decode cX8_isDigit 5 = .ok (.invokestatic 78, 3) := by decide +kernel
theorem dX8_isDigit_8 : decode cX8_isDigit 8 = .ok (.ireturn, 1) := by decide +kernel
theorem dX8_advance_0 : decode cX8_advance 0 = .ok (.aload_n 0, 1) := by decide +kernel
theorem dX8_advance_1 : decode cX8_advance 1 = .ok (.aload_n 0, 1) := by decide +kernel
theorem dX8_advance_2 : decode cX8_advance 2 = .ok (.getfield 93, 3) := by decide +kernel
theorem dX8_advance_5 : decode cX8_advance 5 = .ok (.putfield 96, 3) := by decide +kernel
theorem dX8_advance_8 : decode cX8_advance 8 = .ok (.aload_n 0, 1) := by decide +kernel
theorem dX8_advance_9 : decode cX8_advance 9 = .ok (.aload_n 0, 1) := by decide +kernel
theorem dX8_advance_10 : decode cX8_advance 10 = .ok (.getfield 96, 3) := by decide +kernel
theorem dX8_advance_13 : decode cX8_advance 13 = .ok (.invokevirtual 99, 3) := by decide +kernel
theorem dX8_advance_16 : decode cX8_advance 16 = .ok (.bipush 32, 2) := by decide +kernel
theorem dX8_advance_18 : decode cX8_advance 18 = .ok (.if_icmp .ne 16, 3) := by decide +kernel
theorem dX8_advance_21 : decode cX8_advance 21 = .ok (.aload_n 0, 1) := by decide +kernel
theorem dX8_advance_22 : decode cX8_advance 22 = .ok (.dup, 1) := by decide +kernel
theorem dX8_advance_23 : decode cX8_advance 23 = .ok (.getfield 96, 3) := by decide +kernel
theorem dX8_advance_26 : decode cX8_advance 26 = .ok (.iconst 1, 1) := by decide +kernel
theorem dX8_advance_27 : decode cX8_advance 27 = .ok (.iadd, 1) := by decide +kernel
theorem dX8_advance_28 : decode cX8_advance 28 = .ok (.putfield 96, 3) := by decide +kernel
theorem dX8_advance_31 : decode cX8_advance 31 = .ok (.goto (-23), 3) := by decide +kernel
theorem dX8_advance_34 : decode cX8_advance 34 = .ok (.aload_n 0, 1) := by decide +kernel
theorem dX8_advance_35 : decode cX8_advance 35 = .ok (.aload_n 0, 1) := by decide +kernel
theorem dX8_advance_36 : decode cX8_advance 36 = .ok (.getfield 96, 3) := by decide +kernel
theorem dX8_advance_39 : decode cX8_advance 39 = .ok (.putfield 93, 3) := by decide +kernel
theorem dX8_advance_42 : decode cX8_advance 42 = .ok (.aload_n 0, 1) := by decide +kernel
theorem dX8_advance_43 : decode cX8_advance 43 = .ok (.aload_n 0, 1) := by decide +kernel
theorem dX8_advance_44 : decode cX8_advance 44 = .ok (.getfield 96, 3) := by decide +kernel
theorem dX8_advance_47 : decode cX8_advance 47 = .ok (.invokevirtual 99, 3) := by decide +kernel
theorem dX8_advance_50 : decode cX8_advance 50 = .ok (.istore_n 1, 1) := by decide +kernel
theorem dX8_advance_51 : decode cX8_advance 51 = .ok (.aload_n 0, 1) := by decide +kernel
theorem dX8_advance_52 : decode cX8_advance 52 = .ok (.iload_n 1, 1) := by decide +kernel
theorem dX8_advance_53 : decode cX8_advance 53 = .ok (.ifCond .ge 7, 3) := by decide +kernel
theorem dX8_advance_56 : decode cX8_advance 56 = .ok (.iconst 0, 1) := by decide +kernel
theorem dX8_advance_57 : decode cX8_advance 57 = .ok (.goto 26, 3) := by decide +kernel
theorem dX8_advance_60 : decode cX8_advance 60 = .ok (.iload_n 1, 1) := by decide +kernel
theorem dX8_advance_61 : decode cX8_advance 61 = .ok (.invokestatic 103, 3) := by decide +kernel
theorem dX8_advance_64 : decode cX8_advance 64 = .ok (.ifCond .eq 7, 3) := by decide +kernel
theorem dX8_advance_67 : decode cX8_advance 67 = .ok (.iconst 1, 1) := by decide +kernel
theorem dX8_advance_68 : decode cX8_advance 68 = .ok (.goto 15, 3) := by decide +kernel
theorem dX8_advance_71 : decode cX8_advance 71 = .ok (.iload_n 1, 1) := by decide +kernel
theorem dX8_advance_72 : decode cX8_advance 72 = .ok (.invokestatic 107, 3) := by decide +kernel
theorem dX8_advance_75 : decode cX8_advance 75 = .ok (.ifCond .eq 7, 3) := by decide +kernel
theorem dX8_advance_78 : decode cX8_advance 78 = .ok (.iconst 2, 1) := by decide +kernel
theorem dX8_advance_79 : decode cX8_advance 79 = .ok (.goto 4, 3) := by decide +kernel
theorem dX8_advance_82 : decode cX8_advance 82 = .ok (.iconst 3, 1) := by decide +kernel
theorem dX8_advance_83 : decode cX8_advance 83 = .ok (.putfield 110, 3) := by decide +kernel
theorem dX8_advance_86 : decode cX8_advance 86 = .ok (.aload_n 0, 1) := by decide +kernel
theorem dX8_advance_87 : decode cX8_advance 87 = .ok (.lconst 0, 1) := by decide +kernel
theorem dX8_advance_88 : decode cX8_advance 88 = .ok (.putfield 113, 3) := by decide +kernel
theorem dX8_advance_91 : decode cX8_advance 91 = .ok (.aload_n 0, 1) := by decide +kernel
theorem dX8_advance_92 : decode cX8_advance 92 = .ok (.aload_n 0, 1) := by decide +kernel
theorem dX8_advance_93 : decode cX8_advance 93 = .ok (.getfield 110, 3) := by decide +kernel
theorem dX8_advance_96 : decode cX8_advance 96 = .ok (.iconst 2, 1) := by decide +kernel
theorem dX8_advance_97 : decode cX8_advance 97 = .ok (.if_icmp .ne 7, 3) := by decide +kernel
theorem dX8_advance_100 : decode cX8_advance 100 = .ok (.iconst 0, 1) := by decide +kernel
theorem dX8_advance_101 : decode cX8_advance 101 = .ok (.goto 4, 3) := by decide +kernel
theorem dX8_advance_104 : decode cX8_advance 104 = .ok (.iload_n 1, 1) := by decide +kernel
theorem dX8_advance_105 : decode cX8_advance 105 = .ok (.putfield 117, 3) := by decide +kernel
theorem dX8_advance_108 : decode cX8_advance 108 = .ok (.aload_n 0, 1) := by decide +kernel
theorem dX8_advance_109 : decode cX8_advance 109 = .ok (.getfield 110, 3) := by decide +kernel
theorem dX8_advance_112 : decode cX8_advance 112 = .ok (.iconst 3, 1) := by decide +kernel
theorem dX8_advance_113 : decode cX8_advance 113 = .ok (.if_icmp .ne 13, 3) := by decide +kernel
theorem dX8_advance_116 : decode cX8_advance 116 = .ok (.aload_n 0, 1) := by decide +kernel
theorem dX8_advance_117 : decode cX8_advance 117 = .ok (.dup, 1) := by decide +kernel
theorem dX8_advance_118 : decode cX8_advance 118 = .ok (.getfield 93, 3) := by decide +kernel
theorem dX8_advance_121 : decode cX8_advance 121 = .ok (.iconst 1, 1) := by decide +kernel
theorem dX8_advance_122 : decode cX8_advance 122 = .ok (.iadd, 1) := by decide +kernel
theorem dX8_advance_123 : decode cX8_advance 123 = .ok (.putfield 93, 3) := by decide +kernel
theorem dX8_advance_126 : decode cX8_advance 126 = .ok (.aload_n 0, 1) := by decide +kernel
theorem dX8_advance_127 : decode cX8_advance 127 = .ok (.getfield 110, 3) := by decide +kernel
theorem dX8_advance_130 : decode cX8_advance 130 = .ok (.iconst 1, 1) := by decide +kernel
theorem dX8_advance_131 : decode cX8_advance 131 = .ok (.if_icmp .ne 76, 3) := by decide +kernel
theorem dX8_advance_134 : decode cX8_advance 134 = .ok (.aload_n 0, 1) := by decide +kernel
theorem dX8_advance_135 : decode cX8_advance 135 = .ok (.aload_n 0, 1) := by decide +kernel
theorem dX8_advance_136 : decode cX8_advance 136 = .ok (.getfield 93, 3) := by decide +kernel
theorem dX8_advance_139 : decode cX8_advance 139 = .ok (.invokevirtual 99, 3) := by decide +kernel
theorem dX8_advance_142 : decode cX8_advance 142 = .ok (.invokestatic 103, 3) := by decide +kernel
theorem dX8_advance_145 : decode cX8_advance 145 = .ok (.ifCond .eq 62, 3) := by decide +kernel
theorem dX8_advance_148 : decode cX8_advance 148 = .ok (.aload_n 0, 1) := by decide +kernel
theorem dX8_advance_149 : decode cX8_advance 149 = .ok (.aload_n 0, 1) := by decide +kernel
theorem dX8_advance_150 : decode cX8_advance 150 = .ok (.getfield 93, 3) := by decide +kernel
theorem dX8_advance_153 : decode cX8_advance 153 = .ok (.aload_n 0, 1) := by decide +kernel
theorem dX8_advance_154 : decode cX8_advance 154 = .ok (.getfield 96, 3) := by decide +kernel
theorem dX8_advance_157 : decode cX8_advance 157 = .ok (.isub, 1) := by decide +kernel
theorem dX8_advance_158 : decode cX8_advance 158 = .ok (.bipush 8, 2) := by decide +kernel
theorem dX8_advance_160 : decode cX8_advance 160 = .ok (.if_icmp .ge 28, 3) := by decide +kernel
theorem dX8_advance_163 : decode cX8_advance 163 = .ok (.ldc2_w 120, 3) := by decide +kernel
theorem dX8_advance_166 : decode cX8_advance 166 = .ok (.aload_n 0, 1) := by decide +kernel
theorem dX8_advance_167 : decode cX8_advance 167 = .ok (.getfield 113, 3) := by decide +kernel
theorem dX8_advance_170 : decode cX8_advance 170 = .ok (.lmul, 1) := by decide +kernel
theorem dX8_advance_171 : decode cX8_advance 171 = .ok (.aload_n 0, 1) := by decide +kernel
theorem dX8_advance_172 : decode cX8_advance 172 = .ok (.aload_n 0, 1) := by decide +kernel
theorem dX8_advance_173 : decode cX8_advance 173 = .ok (.getfield 93, 3) := by decide +kernel
theorem dX8_advance_176 : decode cX8_advance 176 = .ok (.invokevirtual 99, 3) := by decide +kernel
theorem dX8_advance_179 : decode cX8_advance 179 = .ok (.i2l, 1) := by decide +kernel
theorem dX8_advance_180 : decode cX8_advance 180 = .ok (.ladd, 1) := by decide +kernel
theorem dX8_advance_181 : decode cX8_advance 181 = .ok (.ldc2_w 122, 3) := by decide +kernel
theorem dX8_advance_184 : decode cX8_advance 184 = .ok (.lsub, 1) := by decide +kernel
theorem dX8_advance_185 : decode cX8_advance 185 = .ok (.goto 6, 3) := by decide +kernel
theorem dX8_advance_188 : decode cX8_advance 188 = .ok (.ldc2_w 124, 3) := by decide +kernel
theorem dX8_advance_191 : decode cX8_advance 191 = .ok (.putfield 113, 3) := by decide +kernel
theorem dX8_advance_194 : decode cX8_advance 194 = .ok (.aload_n 0, 1) := by decide +kernel
theorem dX8_advance_195 : decode cX8_advance 195 = .ok (.dup, 1) := by decide +kernel
theorem dX8_advance_196 : decode cX8_advance 196 = .ok (.getfield 93, 3) := by decide +kernel
theorem dX8_advance_199 : decode cX8_advance 199 = .ok (.iconst 1, 1) := by decide +kernel
theorem dX8_advance_200 : decode cX8_advance 200 = .ok (.iadd, 1) := by decide +kernel
theorem dX8_advance_201 : decode cX8_advance 201 = .ok (.putfield 93, 3) := by decide +kernel
theorem dX8_advance_204 : decode cX8_advance 204 = .ok (.goto (-78), 3) := by decide +kernel
theorem dX8_advance_207 : decode cX8_advance 207 = .ok (.aload_n 0, 1) := by decide +kernel
theorem dX8_advance_208 : decode cX8_advance 208 = .ok (.getfield 110, 3) := by decide +kernel
theorem dX8_advance_211 : decode cX8_advance 211 = .ok (.iconst 2, 1) := by decide +kernel
theorem dX8_advance_212 : decode cX8_advance 212 = .ok (.if_icmp .ne 70, 3) := by decide +kernel
theorem dX8_advance_215 : decode cX8_advance 215 = .ok (.aload_n 0, 1) := by decide +kernel
theorem dX8_advance_216 : decode cX8_advance 216 = .ok (.aload_n 0, 1) := by decide +kernel
theorem dX8_advance_217 : decode cX8_advance 217 = .ok (.getfield 93, 3) := by decide +kernel
theorem dX8_advance_220 : decode cX8_advance 220 = .ok (.invokevirtual 99, 3) := by decide +kernel
theorem dX8_advance_223 : decode cX8_advance 223 = .ok (.invokestatic 107, 3) := by decide +kernel
theorem dX8_advance_226 : decode cX8_advance 226 = .ok (.ifCond .eq 56, 3) := by decide +kernel
theorem dX8_advance_229 : decode cX8_advance 229 = .ok (.aload_n 0, 1) := by decide +kernel
theorem dX8_advance_230 : decode cX8_advance 230 = .ok (.aload_n 0, 1) := by decide +kernel
theorem dX8_advance_231 : decode cX8_advance 231 = .ok (.getfield 93, 3) := by decide +kernel
theorem dX8_advance_234 : decode cX8_advance 234 = .ok (.aload_n 0, 1) := by decide +kernel
theorem dX8_advance_235 : decode cX8_advance 235 = .ok (.getfield 96, 3) := by decide +kernel
theorem dX8_advance_238 : decode cX8_advance 238 = .ok (.isub, 1) := by decide +kernel
theorem dX8_advance_239 : decode cX8_advance 239 = .ok (.iconst 3, 1) := by decide +kernel
theorem dX8_advance_240 : decode cX8_advance 240 = .ok (.if_icmp .ge 25, 3) := by decide +kernel
theorem dX8_advance_243 : decode cX8_advance 243 = .ok (.bipush 10, 2) := by decide +kernel
theorem dX8_advance_245 : decode cX8_advance 245 = .ok (.aload_n 0, 1) := by decide +kernel
theorem dX8_advance_246 : decode cX8_advance 246 = .ok (.getfield 117, 3) := by decide +kernel
theorem dX8_advance_249 : decode cX8_advance 249 = .ok (.imul, 1) := by decide +kernel
theorem dX8_advance_250 : decode cX8_advance 250 = .ok (.aload_n 0, 1) := by decide +kernel
theorem dX8_advance_251 : decode cX8_advance 251 = .ok (.aload_n 0, 1) := by decide +kernel
theorem dX8_advance_252 : decode cX8_advance 252 = .ok (.getfield 93, 3) := by decide +kernel
theorem dX8_advance_255 : decode cX8_advance 255 = .ok (.invokevirtual 99, 3) := by decide +kernel
theorem dX8_advance_258 : decode cX8_advance 258 = .ok (.iadd, 1) := by decide +kernel
theorem dX8_advance_259 : decode cX8_advance 259 = .ok (.bipush 48, 2) := by decide +kernel
theorem dX8_advance_261 : decode cX8_advance 261 = .ok (.isub, 1) := by decide +kernel
theorem dX8_advance_262 : decode cX8_advance 262 = .ok (.goto 4, 3) := by decide +kernel
theorem dX8_advance_265 : decode cX8_advance 265 = .ok (.iconst (-1), 1) := by decide +kernel
theorem dX8_advance_266 : decode cX8_advance 266 = .ok (.putfield 117, 3) := by decide +kernel
theorem dX8_advance_269 : decode cX8_advance 269 = .ok (.aload_n 0, 1) := by decide +kernel
theorem dX8_advance_270 : decode cX8_advance 270 = .ok (.dup, 1) := by decide +kernel
theorem dX8_advance_271 : decode cX8_advance 271 = .ok (.getfield 93, 3) := by decide +kernel
theorem dX8_advance_274 : decode cX8_advance 274 = .ok (.iconst 1, 1) := by decide +kernel
theorem dX8_advance_275 : decode cX8_advance 275 = .ok (.iadd, 1) := by decide +kernel
theorem dX8_advance_276 : decode cX8_advance 276 = .ok (.putfield 93, 3) := by decide +kernel
theorem dX8_advance_279 : decode cX8_advance 279 = .ok (.goto (-72), 3) := by decide +kernel
theorem dX8_advance_282 : decode cX8_advance 282 = .ok (.return_, 1) := by decide +kernel
theorem dX8_isWord_0 : decode cX8_isWord 0 = .ok (.aload_n 0, 1) := by decide +kernel
theorem dX8_isWord_1 : decode cX8_isWord 1 = .ok (.getfield 110, 3) := by decide +kernel
theorem dX8_isWord_4 : decode cX8_isWord 4 = .ok (.iconst 1, 1) := by decide +kernel
theorem dX8_isWord_5 : decode cX8_isWord 5 = .ok (.if_icmp .ne 16, 3) := by decide +kernel
theorem dX8_isWord_8 : decode cX8_isWord 8 = .ok (.aload_n 0, 1) := by decide +kernel
theorem dX8_isWord_9 : decode cX8_isWord 9 = .ok (.getfield 113, 3) := by decide +kernel
theorem dX8_isWord_12 : decode cX8_isWord 12 = .ok (.lload_n 1, 1) := by decide +kernel
theorem dX8_isWord_13 : decode cX8_isWord 13 = .ok (.lcmp, 1) := by decide +kernel
theorem dX8_isWord_14 : decode cX8_isWord 14 = .ok (.ifCond .ne 7, 3) := by decide +kernel
theorem dX8_isWord_17 : decode cX8_isWord 17 = .ok (.iconst 1, 1) := by decide +kernel
theorem dX8_isWord_18 : decode cX8_isWord 18 = .ok (.goto 4, 3) := by decide +kernel
theorem dX8_isWord_21 : decode cX8_isWord 21 = .ok (.iconst 0, 1) := by decide +kernel
theorem dX8_isWord_22 : decode cX8_isWord 22 = .ok (.ireturn, 1) := by decide +kernel
theorem dX8_isMark_0 : decode cX8_isMark 0 = .ok (.aload_n 0, 1) := by decide +kernel
theorem dX8_isMark_1 : decode cX8_isMark 1 = .ok (.getfield 110, 3) := by decide +kernel
theorem dX8_isMark_4 : decode cX8_isMark 4 = .ok (.iconst 3, 1) := by decide +kernel
theorem dX8_isMark_5 : decode cX8_isMark 5 = .ok (.if_icmp .ne 15, 3) := by decide +kernel
theorem dX8_isMark_8 : decode cX8_isMark 8 = .ok (.aload_n 0, 1) := by decide +kernel
theorem dX8_isMark_9 : decode cX8_isMark 9 = .ok (.getfield 117, 3) := by decide +kernel
theorem dX8_isMark_12 : decode cX8_isMark 12 = .ok (.iload_n 1, 1) := by decide +kernel
theorem dX8_isMark_13 : decode cX8_isMark 13 = .ok (.if_icmp .ne 7, 3) := by decide +kernel
theorem dX8_isMark_16 : decode cX8_isMark 16 = .ok (.iconst 1, 1) := by decide +kernel
theorem dX8_isMark_17 : decode cX8_isMark 17 = .ok (.goto 4, 3) := by decide +kernel
theorem dX8_isMark_20 : decode cX8_isMark 20 = .ok (.iconst 0, 1) := by decide +kernel
theorem dX8_isMark_21 : decode cX8_isMark 21 = .ok (.ireturn, 1) := by decide +kernel
theorem dX8_kindHere_0 : decode cX8_kindHere 0 = .ok (.aload_n 0, 1) := by decide +kernel
theorem dX8_kindHere_1 : decode cX8_kindHere 1 = .ok (.ldc2_w 126, 3) := by decide +kernel
theorem dX8_kindHere_4 : decode cX8_kindHere 4 = .ok (.invokevirtual 128, 3) := by decide +kernel
theorem dX8_kindHere_7 : decode cX8_kindHere 7 = .ok (.ifCond .eq 7, 3) := by decide +kernel
theorem dX8_kindHere_10 : decode cX8_kindHere 10 = .ok (.iconst 0, 1) := by decide +kernel
theorem dX8_kindHere_11 : decode cX8_kindHere 11 = .ok (.goto 74, 3) := by decide +kernel
theorem dX8_kindHere_14 : decode cX8_kindHere 14 = .ok (.aload_n 0, 1) := by decide +kernel
theorem dX8_kindHere_15 : decode cX8_kindHere 15 = .ok (.ldc2_w 132, 3) := by decide +kernel
theorem dX8_kindHere_18 : decode cX8_kindHere 18 = .ok (.invokevirtual 128, 3) := by decide +kernel
theorem dX8_kindHere_21 : decode cX8_kindHere 21 = .ok (.ifCond .eq 7, 3) := by decide +kernel
theorem dX8_kindHere_24 : decode cX8_kindHere 24 = .ok (.iconst 1, 1) := by decide +kernel
theorem dX8_kindHere_25 : decode cX8_kindHere 25 = .ok (.goto 60, 3) := by decide +kernel
theorem dX8_kindHere_28 : decode cX8_kindHere 28 = .ok (.aload_n 0, 1) := by decide +kernel
theorem dX8_kindHere_29 : decode cX8_kindHere 29 = .ok (.ldc2_w 134, 3) := by decide +kernel
theorem dX8_kindHere_32 : decode cX8_kindHere 32 = .ok (.invokevirtual 128, 3) := by decide +kernel
theorem dX8_kindHere_35 : decode cX8_kindHere 35 = .ok (.ifCond .eq 7, 3) := by decide +kernel
theorem dX8_kindHere_38 : decode cX8_kindHere 38 = .ok (.iconst 2, 1) := by decide +kernel
theorem dX8_kindHere_39 : decode cX8_kindHere 39 = .ok (.goto 46, 3) := by decide +kernel
theorem dX8_kindHere_42 : decode cX8_kindHere 42 = .ok (.aload_n 0, 1) := by decide +kernel
theorem dX8_kindHere_43 : decode cX8_kindHere 43 = .ok (.ldc2_w 136, 3) := by decide +kernel
theorem dX8_kindHere_46 : decode cX8_kindHere 46 = .ok (.invokevirtual 128, 3) := by decide +kernel
theorem dX8_kindHere_49 : decode cX8_kindHere 49 = .ok (.ifCond .eq 7, 3) := by decide +kernel
theorem dX8_kindHere_52 : decode cX8_kindHere 52 = .ok (.iconst 3, 1) := by decide +kernel
theorem dX8_kindHere_53 : decode cX8_kindHere 53 = .ok (.goto 32, 3) := by decide +kernel
theorem dX8_kindHere_56 : decode cX8_kindHere 56 = .ok (.aload_n 0, 1) := by decide +kernel
theorem dX8_kindHere_57 : decode cX8_kindHere 57 = .ok (.ldc2_w 138, 3) := by decide +kernel
theorem dX8_kindHere_60 : decode cX8_kindHere 60 = .ok (.invokevirtual 128, 3) := by decide +kernel
theorem dX8_kindHere_63 : decode cX8_kindHere 63 = .ok (.ifCond .eq 7, 3) := by decide +kernel
theorem dX8_kindHere_66 : decode cX8_kindHere 66 = .ok (.iconst 4, 1) := by decide +kernel
theorem dX8_kindHere_67 : decode cX8_kindHere 67 = .ok (.goto 18, 3) := by decide +kernel
theorem dX8_kindHere_70 : decode cX8_kindHere 70 = .ok (.aload_n 0, 1) := by decide +kernel
theorem dX8_kindHere_71 : decode cX8_kindHere 71 = .ok (.ldc2_w 140, 3) := by decide +kernel
theorem dX8_kindHere_74 : decode cX8_kindHere 74 = .ok (.invokevirtual 128, 3) := by decide +kernel
theorem dX8_kindHere_77 : decode cX8_kindHere 77 = .ok (.ifCond .eq 7, 3) := by decide +kernel
theorem dX8_kindHere_80 : decode cX8_kindHere 80 = .ok (.iconst 5, 1) := by decide +kernel
theorem dX8_kindHere_81 : decode cX8_kindHere 81 = .ok (.goto 4, 3) := by decide +kernel
theorem dX8_kindHere_84 : decode cX8_kindHere 84 = .ok (.iconst (-1), 1) := by decide +kernel
theorem dX8_kindHere_85 : decode cX8_kindHere 85 = .ok (.ireturn, 1) := by decide +kernel
theorem dX8_wantNumber_0 : decode cX8_wantNumber 0 = .ok (.aload_n 0, 1) := by decide +kernel
theorem dX8_wantNumber_1 : decode cX8_wantNumber 1 = .ok (.getfield 117, 3) := by decide +kernel
theorem dX8_wantNumber_4 : decode cX8_wantNumber 4 = .ok (.istore_n 3, 1) := by decide +kernel
theorem dX8_wantNumber_5 : decode cX8_wantNumber 5 = .ok (.aload_n 0, 1) := by decide +kernel
theorem dX8_wantNumber_6 : decode cX8_wantNumber 6 = .ok (.aload_n 0, 1) := by decide +kernel
theorem dX8_wantNumber_7 : decode cX8_wantNumber 7 = .ok (.getfield 142, 3) := by decide +kernel
theorem dX8_wantNumber_10 : decode cX8_wantNumber 10 = .ok (.ifCond .eq 24, 3) := by decide +kernel
theorem dX8_wantNumber_13 : decode cX8_wantNumber 13 = .ok (.aload_n 0, 1) := by decide +kernel
theorem dX8_wantNumber_14 : decode cX8_wantNumber 14 = .ok (.getfield 110, 3) := by decide +kernel
theorem dX8_wantNumber_17 : decode cX8_wantNumber 17 = .ok (.iconst 2, 1) := by decide +kernel
theorem dX8_wantNumber_18 : decode cX8_wantNumber 18 = .ok (.if_icmp .ne 16, 3) := by decide +kernel
theorem dX8_wantNumber_21 : decode cX8_wantNumber 21 = .ok (.iload_n 3, 1) := by decide +kernel
theorem dX8_wantNumber_22 : decode cX8_wantNumber 22 = .ok (.iload_n 1, 1) := by decide +kernel
theorem dX8_wantNumber_23 : decode cX8_wantNumber 23 = .ok (.iload_n 2, 1) := by decide +kernel
theorem dX8_wantNumber_24 : decode cX8_wantNumber 24 = .ok (.invokestatic 78, 3) := by decide +kernel
theorem dX8_wantNumber_27 : decode cX8_wantNumber 27 = .ok (.ifCond .eq 7, 3) := by decide +kernel
theorem dX8_wantNumber_30 : decode cX8_wantNumber 30 = .ok (.iconst 1, 1) := by decide +kernel
theorem dX8_wantNumber_31 : decode cX8_wantNumber 31 = .ok (.goto 4, 3) := by decide +kernel
theorem dX8_wantNumber_34 : decode cX8_wantNumber 34 = .ok (.iconst 0, 1) := by decide +kernel
theorem dX8_wantNumber_35 : decode cX8_wantNumber 35 = .ok (.putfield 142, 3) := by decide +kernel
theorem dX8_wantNumber_38 : decode cX8_wantNumber 38 = .ok (.aload_n 0, 1) := by decide +kernel
theorem dX8_wantNumber_39 : decode cX8_wantNumber 39 = .ok (.getfield 142, 3) := by decide +kernel
theorem dX8_wantNumber_42 : decode cX8_wantNumber 42 = .ok (.ifCond .eq 7, 3) := by decide +kernel
theorem dX8_wantNumber_45 : decode cX8_wantNumber 45 = .ok (.aload_n 0, 1) := by decide +kernel
theorem dX8_wantNumber_46 : decode cX8_wantNumber 46 = .ok (.invokevirtual 146, 3) := by decide +kernel
theorem dX8_wantNumber_49 : decode cX8_wantNumber 49 = .ok (.iload_n 3, 1) := by decide +kernel
theorem dX8_wantNumber_50 : decode cX8_wantNumber 50 = .ok (.ireturn, 1) := by decide +kernel
theorem dX8_wantEnd_0 : decode cX8_wantEnd 0 = .ok (.aload_n 0, 1) := by decide +kernel
theorem dX8_wantEnd_1 : decode cX8_wantEnd 1 = .ok (.aload_n 0, 1) := by decide +kernel
theorem dX8_wantEnd_2 : decode cX8_wantEnd 2 = .ok (.getfield 142, 3) := by decide +kernel
theorem dX8_wantEnd_5 : decode cX8_wantEnd 5 = .ok (.ifCond .eq 16, 3) := by decide +kernel
theorem dX8_wantEnd_8 : decode cX8_wantEnd 8 = .ok (.aload_n 0, 1) := by decide +kernel
theorem dX8_wantEnd_9 : decode cX8_wantEnd 9 = .ok (.bipush 59, 2) := by decide +kernel
theorem dX8_wantEnd_11 : decode cX8_wantEnd 11 = .ok (.invokevirtual 149, 3) := by decide +kernel
theorem dX8_wantEnd_14 : decode cX8_wantEnd 14 = .ok (.ifCond .eq 7, 3) := by decide +kernel
theorem dX8_wantEnd_17 : decode cX8_wantEnd 17 = .ok (.iconst 1, 1) := by decide +kernel
theorem dX8_wantEnd_18 : decode cX8_wantEnd 18 = .ok (.goto 4, 3) := by decide +kernel
theorem dX8_wantEnd_21 : decode cX8_wantEnd 21 = .ok (.iconst 0, 1) := by decide +kernel
theorem dX8_wantEnd_22 : decode cX8_wantEnd 22 = .ok (.putfield 142, 3) := by decide +kernel
theorem dX8_wantEnd_25 : decode cX8_wantEnd 25 = .ok (.aload_n 0, 1) := by decide +kernel
theorem dX8_wantEnd_26 : decode cX8_wantEnd 26 = .ok (.getfield 142, 3) := by decide +kernel
theorem dX8_wantEnd_29 : decode cX8_wantEnd 29 = .ok (.ifCond .eq 7, 3) := by decide +kernel
theorem dX8_wantEnd_32 : decode cX8_wantEnd 32 = .ok (.aload_n 0, 1) := by decide +kernel
theorem dX8_wantEnd_33 : decode cX8_wantEnd 33 = .ok (.invokevirtual 146, 3) := by decide +kernel
theorem dX8_wantEnd_36 : decode cX8_wantEnd 36 = .ok (.return_, 1) := by decide +kernel
theorem dX8_mayWant_0 : decode cX8_mayWant 0 = .ok (.aload_n 0, 1) := by decide +kernel
theorem dX8_mayWant_1 : decode cX8_mayWant 1 = .ok (.getfield 142, 3) := by decide +kernel
theorem dX8_mayWant_4 : decode cX8_mayWant 4 = .ok (.ifCond .eq 11, 3) := by decide +kernel
theorem dX8_mayWant_7 : decode cX8_mayWant 7 = .ok (.aload_n 0, 1) := by decide +kernel
theorem dX8_mayWant_8 : decode cX8_mayWant 8 = .ok (.lload_n 1, 1) := by decide +kernel
theorem dX8_mayWant_9 : decode cX8_mayWant 9 = .ok (.invokevirtual 128, 3) := by decide +kernel
theorem dX8_mayWant_12 : decode cX8_mayWant 12 = .ok (.ifCond .ne 6, 3) := by decide +kernel
theorem dX8_mayWant_15 : decode cX8_mayWant 15 = .ok (.iload 5, 2) := by decide +kernel
theorem dX8_mayWant_17 : decode cX8_mayWant 17 = .ok (.ireturn, 1) := by decide +kernel
theorem dX8_mayWant_18 : decode cX8_mayWant 18 = .ok (.aload_n 0, 1) := by decide +kernel
theorem dX8_mayWant_19 : decode cX8_mayWant 19 = .ok (.invokevirtual 146, 3) := by decide +kernel
theorem dX8_mayWant_22 : decode cX8_mayWant 22 = .ok (.aload_n 0, 1) := by decide +kernel
theorem dX8_mayWant_23 : decode cX8_mayWant 23 = .ok (.iload_n 3, 1) := by decide +kernel
theorem dX8_mayWant_24 : decode cX8_mayWant 24 = .ok (.iload 4, 2) := by decide +kernel
theorem dX8_mayWant_26 : decode cX8_mayWant 26 = .ok (.invokevirtual 152, 3) := by decide +kernel
theorem dX8_mayWant_29 : decode cX8_mayWant 29 = .ok (.ireturn, 1) := by decide +kernel
theorem dX8_wantBalloon_0 : decode cX8_wantBalloon 0 = .ok (.aload_n 0, 1) := by decide +kernel
theorem dX8_wantBalloon_1 : decode cX8_wantBalloon 1 = .ok (.aload_n 0, 1) := by decide +kernel
theorem dX8_wantBalloon_2 : decode cX8_wantBalloon 2 = .ok (.getfield 156, 3) := by decide +kernel
theorem dX8_wantBalloon_5 : decode cX8_wantBalloon 5 = .ok (.bipush 6, 2) := by decide +kernel
theorem dX8_wantBalloon_7 : decode cX8_wantBalloon 7 = .ok (.if_icmp .ge 7, 3) := by decide +kernel
theorem dX8_wantBalloon_10 : decode cX8_wantBalloon 10 = .ok (.iconst 1, 1) := by decide +kernel
theorem dX8_wantBalloon_11 : decode cX8_wantBalloon 11 = .ok (.goto 4, 3) := by decide +kernel
theorem dX8_wantBalloon_14 : decode cX8_wantBalloon 14 = .ok (.iconst 0, 1) := by decide +kernel
theorem dX8_wantBalloon_15 : decode cX8_wantBalloon 15 = .ok (.putfield 142, 3) := by decide +kernel
theorem dX8_wantBalloon_18 : decode cX8_wantBalloon 18 = .ok (.aload_n 0, 1) := by decide +kernel
theorem dX8_wantBalloon_19 : decode cX8_wantBalloon 19 = .ok (.getfield 142, 3) := by decide +kernel
theorem dX8_wantBalloon_22 : decode cX8_wantBalloon 22 = .ok (.ifCond .eq 7, 3) := by decide +kernel
theorem dX8_wantBalloon_25 : decode cX8_wantBalloon 25 = .ok (.aload_n 0, 1) := by decide +kernel
theorem dX8_wantBalloon_26 : decode cX8_wantBalloon 26 = .ok (.invokevirtual 146, 3) := by decide +kernel
theorem dX8_wantBalloon_29 : decode cX8_wantBalloon 29 = .ok (.aload_n 0, 1) := by decide +kernel
theorem dX8_wantBalloon_30 : decode cX8_wantBalloon 30 = .ok (.iconst 0, 1) := by decide +kernel
theorem dX8_wantBalloon_31 : decode cX8_wantBalloon 31 = .ok (.bipush 9, 2) := by decide +kernel
theorem dX8_wantBalloon_33 : decode cX8_wantBalloon 33 = .ok (.invokevirtual 152, 3) := by decide +kernel
theorem dX8_wantBalloon_36 : decode cX8_wantBalloon 36 = .ok (.istore_n 2, 1) := by decide +kernel
theorem dX8_wantBalloon_37 : decode cX8_wantBalloon 37 = .ok (.aload_n 0, 1) := by decide +kernel
theorem dX8_wantBalloon_38 : decode cX8_wantBalloon 38 = .ok (.aload_n 0, 1) := by decide +kernel
theorem dX8_wantBalloon_39 : decode cX8_wantBalloon 39 = .ok (.getfield 142, 3) := by decide +kernel
theorem dX8_wantBalloon_42 : decode cX8_wantBalloon 42 = .ok (.ifCond .eq 17, 3) := by decide +kernel
theorem dX8_wantBalloon_45 : decode cX8_wantBalloon 45 = .ok (.aload_n 0, 1) := by decide +kernel
theorem dX8_wantBalloon_46 : decode cX8_wantBalloon 46 = .ok (.ldc2_w 159, 3) := by decide +kernel
theorem dX8_wantBalloon_49 : decode cX8_wantBalloon 49 = .ok (.invokevirtual 128, 3) := by decide +kernel
theorem dX8_wantBalloon_52 : decode cX8_wantBalloon 52 = .ok (.ifCond .eq 7, 3) := by decide +kernel
theorem dX8_wantBalloon_55 : decode cX8_wantBalloon 55 = .ok (.iconst 1, 1) := by decide +kernel
theorem dX8_wantBalloon_56 : decode cX8_wantBalloon 56 = .ok (.goto 4, 3) := by decide +kernel
theorem dX8_wantBalloon_59 : decode cX8_wantBalloon 59 = .ok (.iconst 0, 1) := by decide +kernel
theorem dX8_wantBalloon_60 : decode cX8_wantBalloon 60 = .ok (.putfield 142, 3) := by decide +kernel
theorem dX8_wantBalloon_63 : decode cX8_wantBalloon 63 = .ok (.aload_n 0, 1) := by decide +kernel
theorem dX8_wantBalloon_64 : decode cX8_wantBalloon 64 = .ok (.getfield 142, 3) := by decide +kernel
theorem dX8_wantBalloon_67 : decode cX8_wantBalloon 67 = .ok (.ifCond .eq 7, 3) := by decide +kernel
theorem dX8_wantBalloon_70 : decode cX8_wantBalloon 70 = .ok (.aload_n 0, 1) := by decide +kernel
theorem dX8_wantBalloon_71 : decode cX8_wantBalloon 71 = .ok (.invokevirtual 146, 3) := by decide +kernel
theorem dX8_wantBalloon_74 : decode cX8_wantBalloon 74 = .ok (.aload_n 0, 1) := by decide +kernel
theorem dX8_wantBalloon_75 : decode cX8_wantBalloon 75 = .ok (.iconst 0, 1) := by decide +kernel
theorem dX8_wantBalloon_76 : decode cX8_wantBalloon 76 = .ok (.iconst 5, 1) := by decide +kernel
theorem dX8_wantBalloon_77 : decode cX8_wantBalloon 77 = .ok (.invokevirtual 152, 3) := by decide +kernel
theorem dX8_wantBalloon_80 : decode cX8_wantBalloon 80 = .ok (.istore_n 3, 1) := by decide +kernel
theorem dX8_wantBalloon_81 : decode cX8_wantBalloon 81 = .ok (.aload_n 0, 1) := by decide +kernel
theorem dX8_wantBalloon_82 : decode cX8_wantBalloon 82 = .ok (.ldc2_w 161, 3) := by decide +kernel
theorem dX8_wantBalloon_85 : decode cX8_wantBalloon 85 = .ok (.iconst 0, 1) := by decide +kernel
theorem dX8_wantBalloon_86 : decode cX8_wantBalloon 86 = .ok (.sipush 999, 3) := by decide +kernel
theorem dX8_wantBalloon_89 : decode cX8_wantBalloon 89 = .ok (.bipush 100, 2) := by decide +kernel
theorem dX8_wantBalloon_91 : decode cX8_wantBalloon 91 = .ok (.invokevirtual 163, 3) := by decide +kernel
theorem dX8_wantBalloon_94 : decode cX8_wantBalloon 94 = .ok (.istore 4, 2) := by decide +kernel
theorem dX8_wantBalloon_96 : decode cX8_wantBalloon 96 = .ok (.aload_n 0, 1) := by decide +kernel
theorem dX8_wantBalloon_97 : decode cX8_wantBalloon 97 = .ok (.ldc2_w 167, 3) := by decide +kernel
theorem dX8_wantBalloon_100 : decode cX8_wantBalloon 100 = .ok (.iconst 0, 1) := by decide +kernel
theorem dX8_wantBalloon_101 : decode cX8_wantBalloon 101 = .ok (.sipush 999, 3) := by decide +kernel
theorem dX8_wantBalloon_104 : decode cX8_wantBalloon 104 = .ok (.bipush 50, 2) := by decide +kernel
theorem dX8_wantBalloon_106 : decode cX8_wantBalloon 106 = .ok (.invokevirtual 163, 3) := by decide +kernel
theorem dX8_wantBalloon_109 : decode cX8_wantBalloon 109 = .ok (.istore 5, 2) := by decide +kernel
theorem dX8_wantBalloon_111 : decode cX8_wantBalloon 111 = .ok (.aload_n 0, 1) := by decide +kernel
theorem dX8_wantBalloon_112 : decode cX8_wantBalloon 112 = .ok (.ldc2_w 169, 3) := by decide +kernel
theorem dX8_wantBalloon_115 : decode cX8_wantBalloon 115 = .ok (.iconst 1, 1) := by decide +kernel
theorem dX8_wantBalloon_116 : decode cX8_wantBalloon 116 = .ok (.bipush 99, 2) := by decide +kernel
theorem dX8_wantBalloon_118 : decode cX8_wantBalloon 118 = .ok (.bipush 50, 2) := by decide +kernel
theorem dX8_wantBalloon_120 : decode cX8_wantBalloon 120 = .ok (.invokevirtual 163, 3) := by decide +kernel
theorem dX8_wantBalloon_123 : decode cX8_wantBalloon 123 = .ok (.istore 6, 2) := by decide +kernel
theorem dX8_wantBalloon_125 : decode cX8_wantBalloon 125 = .ok (.aload_n 0, 1) := by decide +kernel
theorem dX8_wantBalloon_126 : decode cX8_wantBalloon 126 = .ok (.ldc2_w 171, 3) := by decide +kernel
theorem dX8_wantBalloon_129 : decode cX8_wantBalloon 129 = .ok (.iconst 0, 1) := by decide +kernel
theorem dX8_wantBalloon_130 : decode cX8_wantBalloon 130 = .ok (.bipush 99, 2) := by decide +kernel
theorem dX8_wantBalloon_132 : decode cX8_wantBalloon 132 = .ok (.bipush 20, 2) := by decide +kernel
theorem dX8_wantBalloon_134 : decode cX8_wantBalloon 134 = .ok (.invokevirtual 163, 3) := by decide +kernel
theorem dX8_wantBalloon_137 : decode cX8_wantBalloon 137 = .ok (.istore 7, 2) := by decide +kernel
theorem dX8_wantBalloon_139 : decode cX8_wantBalloon 139 = .ok (.aload_n 0, 1) := by decide +kernel
theorem dX8_wantBalloon_140 : decode cX8_wantBalloon 140 = .ok (.ldc2_w 173, 3) := by decide +kernel
theorem dX8_wantBalloon_143 : decode cX8_wantBalloon 143 = .ok (.iconst 0, 1) := by decide +kernel
theorem dX8_wantBalloon_144 : decode cX8_wantBalloon 144 = .ok (.bipush 9, 2) := by decide +kernel
theorem dX8_wantBalloon_146 : decode cX8_wantBalloon 146 = .ok (.iconst 1, 1) := by decide +kernel
theorem dX8_wantBalloon_147 : decode cX8_wantBalloon 147 = .ok (.invokevirtual 163, 3) := by decide +kernel
theorem dX8_wantBalloon_150 : decode cX8_wantBalloon 150 = .ok (.istore 8, 2) := by decide +kernel
theorem dX8_wantBalloon_152 : decode cX8_wantBalloon 152 = .ok (.aload_n 0, 1) := by decide +kernel
theorem dX8_wantBalloon_153 : decode cX8_wantBalloon 153 = .ok (.invokevirtual 175, 3) := by decide +kernel
theorem dX8_wantBalloon_156 : decode cX8_wantBalloon 156 = .ok (.aload_n 0, 1) := by decide +kernel
theorem dX8_wantBalloon_157 : decode cX8_wantBalloon 157 = .ok (.getfield 142, 3) := by decide +kernel
theorem dX8_wantBalloon_160 : decode cX8_wantBalloon 160 = .ok (.ifCond .eq 119, 3) := by decide +kernel
theorem dX8_wantBalloon_163 : decode cX8_wantBalloon 163 = .ok (.aload_n 0, 1) := by decide +kernel
theorem dX8_wantBalloon_164 : decode cX8_wantBalloon 164 = .ok (.getfield 32, 3) := by decide +kernel
theorem dX8_wantBalloon_167 : decode cX8_wantBalloon 167 = .ok (.aload_n 0, 1) := by decide +kernel
theorem dX8_wantBalloon_168 : decode cX8_wantBalloon 168 = .ok (.getfield 156, 3) := by decide +kernel
theorem dX8_wantBalloon_171 : decode cX8_wantBalloon 171 = .ok (.iload_n 1, 1) := by decide +kernel
theorem dX8_wantBalloon_172 : decode cX8_wantBalloon 172 = .ok (.iastore, 1) := by decide +kernel
theorem dX8_wantBalloon_173 : decode cX8_wantBalloon 173 = .ok (.aload_n 0, 1) := by decide +kernel
theorem dX8_wantBalloon_174 : decode cX8_wantBalloon 174 = .ok (.getfield 35, 3) := by decide +kernel
theorem dX8_wantBalloon_177 : decode cX8_wantBalloon 177 = .ok (.aload_n 0, 1) := by decide +kernel
theorem dX8_wantBalloon_178 : decode cX8_wantBalloon 178 = .ok (.getfield 156, 3) := by decide +kernel
theorem dX8_wantBalloon_181 : decode cX8_wantBalloon 181 = .ok (.iload_n 2, 1) := by decide +kernel
theorem dX8_wantBalloon_182 : decode cX8_wantBalloon 182 = .ok (.iastore, 1) := by decide +kernel
theorem dX8_wantBalloon_183 : decode cX8_wantBalloon 183 = .ok (.bipush 7, 2) := by decide +kernel
theorem dX8_wantBalloon_185 : decode cX8_wantBalloon 185 = .ok (.aload_n 0, 1) := by decide +kernel
theorem dX8_wantBalloon_186 : decode cX8_wantBalloon 186 = .ok (.getfield 156, 3) := by decide +kernel
theorem dX8_wantBalloon_189 : decode cX8_wantBalloon 189 = .ok (.imul, 1) := by decide +kernel
theorem dX8_wantBalloon_190 : decode cX8_wantBalloon 190 = .ok (.istore 9, 2) := by decide +kernel
theorem dX8_wantBalloon_192 : decode cX8_wantBalloon 192 = .ok (.aload_n 0, 1) := by decide +kernel
