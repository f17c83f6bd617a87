theorem dX0_init_0 : decode cX0_init 0 = .ok (.aload_n 0, 1) := by decide +kernel
theorem dX0_init_1 : decode cX0_init 1 = .ok (.invokespecial 3, 3) := by decide +kernel
theorem dX0_init_4 : decode cX0_init 4 = .ok (.aload_n 0, 1) := by decide +kernel
theorem dX0_init_5 : decode cX0_init 5 = .ok (.bipush 6, 2) := by decide +kernel
theorem dX0_init_7 : decode cX0_init 7 = .ok (.bipush 6, 2) := by decide +kernel
theorem dX0_init_9 : decode cX0_init 9 = .ok (.multianewarray 9 2, 4) := by decide +kernel
theorem dX0_init_13 : decode cX0_init 13 = .ok (.putfield 11, 3) := by decide +kernel
theorem dX0_init_16 : decode cX0_init 16 = .ok (.aload_n 0, 1) := by decide +kernel
theorem dX0_init_17 : decode cX0_init 17 = .ok (.bipush 64, 2) := by decide +kernel
theorem dX0_init_19 : decode cX0_init 19 = .ok (.newarray .int, 2) := by decide +kernel
theorem dX0_init_21 : decode cX0_init 21 = .ok (.putfield 16, 3) := by decide +kernel
theorem dX0_init_24 : decode cX0_init 24 = .ok (.aload_n 0, 1) := by decide +kernel
theorem dX0_init_25 : decode cX0_init 25 = .ok (.aload_n 1, 1) := by decide +kernel
theorem dX0_init_26 : decode cX0_init 26 = .ok (.putfield 20, 3) := by decide +kernel
theorem dX0_init_29 : decode cX0_init 29 = .ok (.aload_n 0, 1) := by decide +kernel
theorem dX0_init_30 : decode cX0_init 30 = .ok (.aload_n 1, 1) := by decide +kernel
theorem dX0_init_31 : decode cX0_init 31 = .ok (.getfield 24, 3) := by decide +kernel
theorem dX0_init_34 : decode cX0_init 34 = .ok (.putfield 30, 3) := by decide +kernel
theorem dX0_init_37 : decode cX0_init 37 = .ok (.aload_n 0, 1) := by decide +kernel
theorem dX0_init_38 : decode cX0_init 38 = .ok (.aload_n 1, 1) := by decide +kernel
theorem dX0_init_39 : decode cX0_init 39 = .ok (.getfield 31, 3) := by decide +kernel
theorem dX0_init_42 : decode cX0_init 42 = .ok (.putfield 35, 3) := by decide +kernel
theorem dX0_init_45 : decode cX0_init 45 = .ok (.return_, 1) := by decide +kernel
theorem dX0_worthOf_0 : decode cX0_worthOf 0 = .ok (.aload_n 0, 1) := by decide +kernel
theorem dX0_worthOf_1 : decode cX0_worthOf 1 = .ok (.getfield 30, 3) := by decide +kernel
theorem dX0_worthOf_4 : decode cX0_worthOf 4 = .ok (.iload_n 1, 1) := by decide +kernel
theorem dX0_worthOf_5 : decode cX0_worthOf 5 = .ok (.invokevirtual 36, 3) := by decide +kernel
theorem dX0_worthOf_8 : decode cX0_worthOf 8 = .ok (.ifCond .eq 14, 3) := by decide +kernel
theorem dX0_worthOf_11 : decode cX0_worthOf 11 = .ok (.aload_n 0, 1) := by decide +kernel
theorem dX0_worthOf_12 : decode cX0_worthOf 12 = .ok (.getfield 30, 3) := by decide +kernel
theorem dX0_worthOf_15 : decode cX0_worthOf 15 = .ok (.iload_n 2, 1) := by decide +kernel
theorem dX0_worthOf_16 : decode cX0_worthOf 16 = .ok (.invokevirtual 36, 3) := by decide +kernel
theorem dX0_worthOf_19 : decode cX0_worthOf 19 = .ok (.ifCond .ne 5, 3) := by decide +kernel
theorem dX0_worthOf_22 : decode cX0_worthOf 22 = .ok (.iconst 0, 1) := by decide +kernel
theorem dX0_worthOf_23 : decode cX0_worthOf 23 = .ok (.ireturn, 1) := by decide +kernel
theorem dX0_worthOf_24 : decode cX0_worthOf 24 = .ok (.iload_n 1, 1) := by decide +kernel
theorem dX0_worthOf_25 : decode cX0_worthOf 25 = .ok (.iload_n 2, 1) := by decide +kernel
theorem dX0_worthOf_26 : decode cX0_worthOf 26 = .ok (.invokestatic 42, 3) := by decide +kernel
theorem dX0_worthOf_29 : decode cX0_worthOf 29 = .ok (.istore_n 3, 1) := by decide +kernel
theorem dX0_worthOf_30 : decode cX0_worthOf 30 = .ok (.iload_n 1, 1) := by decide +kernel
theorem dX0_worthOf_31 : decode cX0_worthOf 31 = .ok (.iload_n 2, 1) := by decide +kernel
theorem dX0_worthOf_32 : decode cX0_worthOf 32 = .ok (.invokestatic 48, 3) := by decide +kernel
theorem dX0_worthOf_35 : decode cX0_worthOf 35 = .ok (.istore 4, 2) := by decide +kernel
theorem dX0_worthOf_37 : decode cX0_worthOf 37 = .ok (.aload_n 0, 1) := by decide +kernel
theorem dX0_worthOf_38 : decode cX0_worthOf 38 = .ok (.getfield 20, 3) := by decide +kernel
theorem dX0_worthOf_41 : decode cX0_worthOf 41 = .ok (.iload_n 1, 1) := by decide +kernel
theorem dX0_worthOf_42 : decode cX0_worthOf 42 = .ok (.invokevirtual 51, 3) := by decide +kernel
theorem dX0_worthOf_45 : decode cX0_worthOf 45 = .ok (.aload_n 0, 1) := by decide +kernel
theorem dX0_worthOf_46 : decode cX0_worthOf 46 = .ok (.getfield 20, 3) := by decide +kernel
theorem dX0_worthOf_49 : decode cX0_worthOf 49 = .ok (.iload_n 2, 1) := by decide +kernel
theorem dX0_worthOf_50 : decode cX0_worthOf 50 = .ok (.invokevirtual 51, 3) := by decide +kernel
theorem dX0_worthOf_53 : decode cX0_worthOf 53 = .ok (.invokestatic 48, 3) := by decide +kernel
theorem dX0_worthOf_56 : decode cX0_worthOf 56 = .ok (.istore 5, 2) := by decide +kernel
theorem dX0_worthOf_58 : decode cX0_worthOf 58 = .ok (.aload_n 0, 1) := by decide +kernel
theorem dX0_worthOf_59 : decode cX0_worthOf 59 = .ok (.getfield 20, 3) := by decide +kernel
theorem dX0_worthOf_62 : decode cX0_worthOf 62 = .ok (.iload_n 3, 1) := by decide +kernel
theorem dX0_worthOf_63 : decode cX0_worthOf 63 = .ok (.aload_n 0, 1) := by decide +kernel
theorem dX0_worthOf_64 : decode cX0_worthOf 64 = .ok (.getfield 35, 3) := by decide +kernel
theorem dX0_worthOf_67 : decode cX0_worthOf 67 = .ok (.getfield 55, 3) := by decide +kernel
theorem dX0_worthOf_70 : decode cX0_worthOf 70 = .ok (.iload_n 3, 1) := by decide +kernel
theorem dX0_worthOf_71 : decode cX0_worthOf 71 = .ok (.iaload, 1) := by decide +kernel
theorem dX0_worthOf_72 : decode cX0_worthOf 72 = .ok (.iload 5, 2) := by decide +kernel
theorem dX0_worthOf_74 : decode cX0_worthOf 74 = .ok (.iload 4, 2) := by decide +kernel
theorem dX0_worthOf_76 : decode cX0_worthOf 76 = .ok (.invokevirtual 60, 3) := by decide +kernel
theorem dX0_worthOf_79 : decode cX0_worthOf 79 = .ok (.istore 6, 2) := by decide +kernel
theorem dX0_worthOf_81 : decode cX0_worthOf 81 = .ok (.aload_n 0, 1) := by decide +kernel
theorem dX0_worthOf_82 : decode cX0_worthOf 82 = .ok (.getfield 20, 3) := by decide +kernel
theorem dX0_worthOf_85 : decode cX0_worthOf 85 = .ok (.iload_n 3, 1) := by decide +kernel
theorem dX0_worthOf_86 : decode cX0_worthOf 86 = .ok (.aload_n 0, 1) := by decide +kernel
theorem dX0_worthOf_87 : decode cX0_worthOf 87 = .ok (.getfield 35, 3) := by decide +kernel
theorem dX0_worthOf_90 : decode cX0_worthOf 90 = .ok (.getfield 55, 3) := by decide +kernel
theorem dX0_worthOf_93 : decode cX0_worthOf 93 = .ok (.iload 4, 2) := by decide +kernel
theorem dX0_worthOf_95 : decode cX0_worthOf 95 = .ok (.iaload, 1) := by decide +kernel
theorem dX0_worthOf_96 : decode cX0_worthOf 96 = .ok (.iload 5, 2) := by decide +kernel
theorem dX0_worthOf_98 : decode cX0_worthOf 98 = .ok (.iload 4, 2) := by decide +kernel
theorem dX0_worthOf_100 : decode cX0_worthOf 100 = .ok (.invokevirtual 60, 3) := by decide +kernel
theorem dX0_worthOf_103 : decode cX0_worthOf 103 = .ok (.istore 7, 2) := by decide +kernel
theorem dX0_worthOf_105 : decode cX0_worthOf 105 = .ok (.aload_n 0, 1) := by decide +kernel
theorem dX0_worthOf_106 : decode cX0_worthOf 106 = .ok (.getfield 20, 3) := by decide +kernel
theorem dX0_worthOf_109 : decode cX0_worthOf 109 = .ok (.iload_n 1, 1) := by decide +kernel
theorem dX0_worthOf_110 : decode cX0_worthOf 110 = .ok (.invokevirtual 64, 3) := by decide +kernel
theorem dX0_worthOf_113 : decode cX0_worthOf 113 = .ok (.aload_n 0, 1) := by decide +kernel
theorem dX0_worthOf_114 : decode cX0_worthOf 114 = .ok (.getfield 20, 3) := by decide +kernel
theorem dX0_worthOf_117 : decode cX0_worthOf 117 = .ok (.iload_n 2, 1) := by decide +kernel
theorem dX0_worthOf_118 : decode cX0_worthOf 118 = .ok (.invokevirtual 64, 3) := by decide +kernel
theorem dX0_worthOf_121 : decode cX0_worthOf 121 = .ok (.iadd, 1) := by decide +kernel
theorem dX0_worthOf_122 : decode cX0_worthOf 122 = .ok (.iload 6, 2) := by decide +kernel
theorem dX0_worthOf_124 : decode cX0_worthOf 124 = .ok (.iload 7, 2) := by decide +kernel
theorem dX0_worthOf_126 : decode cX0_worthOf 126 = .ok (.invokestatic 42, 3) := by decide +kernel
theorem dX0_worthOf_129 : decode cX0_worthOf 129 = .ok (.isub, 1) := by decide +kernel
theorem dX0_worthOf_130 : decode cX0_worthOf 130 = .ok (.ireturn, 1) := by decide +kernel
theorem dX0_weighAll_0 : decode cX0_weighAll 0 = .ok (.iconst 0, 1) := by decide +kernel
theorem dX0_weighAll_1 : decode cX0_weighAll 1 = .ok (.istore_n 1, 1) := by decide +kernel
theorem dX0_weighAll_2 : decode cX0_weighAll 2 = .ok (.iload_n 1, 1) := by decide +kernel
theorem dX0_weighAll_3 : decode cX0_weighAll 3 = .ok (.aload_n 0, 1) := by decide +kernel
theorem dX0_weighAll_4 : decode cX0_weighAll 4 = .ok (.getfield 30, 3) := by decide +kernel
theorem dX0_weighAll_7 : decode cX0_weighAll 7 = .ok (.getfield 67, 3) := by decide +kernel
theorem dX0_weighAll_10 : decode cX0_weighAll 10 = .ok (.if_icmp .ge 44, 3) := by decide +kernel
theorem dX0_weighAll_13 : decode cX0_weighAll 13 = .ok (.iload_n 1, 1) := by decide +kernel
theorem dX0_weighAll_14 : decode cX0_weighAll 14 = .ok (.iconst 1, 1) := by decide +kernel
theorem dX0_weighAll_15 : decode cX0_weighAll 15 = .ok (.iadd, 1) := by decide +kernel
theorem dX0_weighAll_16 : decode cX0_weighAll 16 = .ok (.istore_n 2, 1) := by decide +kernel
theorem dX0_weighAll_17 : decode cX0_weighAll 17 = .ok (.iload_n 2, 1) := by decide +kernel
theorem dX0_weighAll_18 : decode cX0_weighAll 18 = .ok (.aload_n 0, 1) := by decide +kernel
theorem dX0_weighAll_19 : decode cX0_weighAll 19 = .ok (.getfield 30, 3) := by decide +kernel
theorem dX0_weighAll_22 : decode cX0_weighAll 22 = .ok (.getfield 67, 3) := by decide +kernel
theorem dX0_weighAll_25 : decode cX0_weighAll 25 = .ok (.if_icmp .ge 23, 3) := by decide +kernel
theorem dX0_weighAll_28 : decode cX0_weighAll 28 = .ok (.aload_n 0, 1) := by decide +kernel
theorem dX0_weighAll_29 : decode cX0_weighAll 29 = .ok (.getfield 11, 3) := by decide +kernel
theorem dX0_weighAll_32 : decode cX0_weighAll 32 = .ok (.iload_n 1, 1) := by decide +kernel
theorem dX0_weighAll_33 : decode cX0_weighAll 33 = .ok (.aaload, 1) := by decide +kernel
theorem dX0_weighAll_34 : decode cX0_weighAll 34 = .ok (.iload_n 2, 1) := by decide +kernel
theorem dX0_weighAll_35 : decode cX0_weighAll 35 = .ok (.aload_n 0, 1) := by decide +kernel
theorem dX0_weighAll_36 : decode cX0_weighAll 36 = .ok (.iload_n 1, 1) := by decide +kernel
theorem dX0_weighAll_37 : decode cX0_weighAll 37 = .ok (.iload_n 2, 1) := by decide +kernel
theorem dX0_weighAll_38 : decode cX0_weighAll 38 = .ok (.invokevirtual 71, 3) := by decide +kernel
theorem dX0_weighAll_41 : decode cX0_weighAll 41 = .ok (.iastore, 1) := by decide +kernel
theorem dX0_weighAll_42 : decode cX0_weighAll 42 = .ok (.iinc 2 1, 3) := by decide +kernel
theorem dX0_weighAll_45 : decode cX0_weighAll 45 = .ok (.goto (-28), 3) := by decide +kernel
theorem dX0_weighAll_48 : decode cX0_weighAll 48 = .ok (.iinc 1 1, 3) := by decide +kernel
theorem dX0_weighAll_51 : decode cX0_weighAll 51 = .ok (.goto (-49), 3) := by decide +kernel
theorem dX0_weighAll_54 : decode cX0_weighAll 54 = .ok (.iconst 1, 1) := by decide +kernel
theorem dX0_weighAll_55 : decode cX0_weighAll 55 = .ok (.istore_n 1, 1) := by decide +kernel
theorem dX0_weighAll_56 : decode cX0_weighAll 56 = .ok (.iload_n 1, 1) := by decide +kernel
theorem dX0_weighAll_57 : decode cX0_weighAll 57 = .ok (.iconst 1, 1) := by decide +kernel
theorem dX0_weighAll_58 : decode cX0_weighAll 58 = .ok (.aload_n 0, 1) := by decide +kernel
theorem dX0_weighAll_59 : decode cX0_weighAll 59 = .ok (.getfield 30, 3) := by decide +kernel
theorem dX0_weighAll_62 : decode cX0_weighAll 62 = .ok (.getfield 67, 3) := by decide +kernel
theorem dX0_weighAll_65 : decode cX0_weighAll 65 = .ok (.ishl, 1) := by decide +kernel
theorem dX0_weighAll_66 : decode cX0_weighAll 66 = .ok (.if_icmp .ge 33, 3) := by decide +kernel
theorem dX0_weighAll_69 : decode cX0_weighAll 69 = .ok (.aload_n 0, 1) := by decide +kernel
theorem dX0_weighAll_70 : decode cX0_weighAll 70 = .ok (.iload_n 1, 1) := by decide +kernel
theorem dX0_weighAll_71 : decode cX0_weighAll 71 = .ok (.invokevirtual 74, 3) := by decide +kernel
theorem dX0_weighAll_74 : decode cX0_weighAll 74 = .ok (.istore_n 2, 1) := by decide +kernel
theorem dX0_weighAll_75 : decode cX0_weighAll 75 = .ok (.aload_n 0, 1) := by decide +kernel
theorem dX0_weighAll_76 : decode cX0_weighAll 76 = .ok (.getfield 16, 3) := by decide +kernel
theorem dX0_weighAll_79 : decode cX0_weighAll 79 = .ok (.iload_n 1, 1) := by decide +kernel
theorem dX0_weighAll_80 : decode cX0_weighAll 80 = .ok (.aload_n 0, 1) := by decide +kernel
theorem dX0_weighAll_81 : decode cX0_weighAll 81 = .ok (.iload_n 1, 1) := by decide +kernel
theorem dX0_weighAll_82 : decode cX0_weighAll 82 = .ok (.iload_n 2, 1) := by decide +kernel
theorem dX0_weighAll_83 : decode cX0_weighAll 83 = .ok (.aload_n 0, 1) := by decide +kernel
theorem dX0_weighAll_84 : decode cX0_weighAll 84 = .ok (.iload_n 1, 1) := by decide +kernel
theorem dX0_weighAll_85 : decode cX0_weighAll 85 = .ok (.iload_n 2, 1) := by decide +kernel
theorem dX0_weighAll_86 : decode cX0_weighAll 86 = .ok (.invokevirtual 77, 3) := by decide +kernel
theorem dX0_weighAll_89 : decode cX0_weighAll 89 = .ok (.invokevirtual 80, 3) := by decide +kernel
theorem dX0_weighAll_92 : decode cX0_weighAll 92 = .ok (.iastore, 1) := by decide +kernel
theorem dX0_weighAll_93 : decode cX0_weighAll 93 = .ok (.iinc 1 1, 3) := by decide +kernel
theorem dX0_weighAll_96 : decode cX0_weighAll 96 = .ok (.goto (-40), 3) := by decide +kernel
theorem dX0_weighAll_99 : decode cX0_weighAll 99 = .ok (.return_, 1) := by decide +kernel
theorem dX0_lowestOf_0 : decode cX0_lowestOf 0 = .ok (.iconst 0, 1) := by decide +kernel
theorem dX0_lowestOf_1 : decode cX0_lowestOf 1 = .ok (.istore_n 2, 1) := by decide +kernel
theorem dX0_lowestOf_2 : decode cX0_lowestOf 2 = .ok (.iload_n 2, 1) := by decide +kernel
theorem dX0_lowestOf_3 : decode cX0_lowestOf 3 = .ok (.aload_n 0, 1) := by decide +kernel
theorem dX0_lowestOf_4 : decode cX0_lowestOf 4 = .ok (.getfield 30, 3) := by decide +kernel
theorem dX0_lowestOf_7 : decode cX0_lowestOf 7 = .ok (.getfield 67, 3) := by decide +kernel
theorem dX0_lowestOf_10 : decode cX0_lowestOf 10 = .ok (.if_icmp .ge 19, 3) := by decide +kernel
theorem dX0_lowestOf_13 : decode cX0_lowestOf 13 = .ok (.iload_n 1, 1) := by decide +kernel
theorem dX0_lowestOf_14 : decode cX0_lowestOf 14 = .ok (.iload_n 2, 1) := by decide +kernel
theorem dX0_lowestOf_15 : decode cX0_lowestOf 15 = .ok (.ishr, 1) := by decide +kernel
theorem dX0_lowestOf_16 : decode cX0_lowestOf 16 = .ok (.iconst 1, 1) := by decide +kernel
theorem dX0_lowestOf_17 : decode cX0_lowestOf 17 = .ok (.iand, 1) := by decide +kernel
theorem dX0_lowestOf_18 : decode cX0_lowestOf 18 = .ok (.ifCond .eq 5, 3) := by decide +kernel
theorem dX0_lowestOf_21 : decode cX0_lowestOf 21 = .ok (.iload_n 2, 1) := by decide +kernel
theorem dX0_lowestOf_22 : decode cX0_lowestOf 22 = .ok (.ireturn, 1) := by decide +kernel
theorem dX0_lowestOf_23 : decode cX0_lowestOf 23 = .ok (.iinc 2 1, 3) := by decide +kernel
theorem dX0_lowestOf_26 : decode cX0_lowestOf 26 = .ok (.goto (-24), 3) := by decide +kernel
theorem dX0_lowestOf_29 : decode cX0_lowestOf 29 = .ok (.iconst (-1), 1) := by decide +kernel
theorem dX0_lowestOf_30 : decode cX0_lowestOf 30 = .ok (.ireturn, 1) := by decide +kernel
theorem dX0_sumWith_0 : decode cX0_sumWith 0 = .ok (.aload_n 0, 1) := by decide +kernel
theorem dX0_sumWith_1 : decode cX0_sumWith 1 = .ok (.getfield 30, 3) := by decide +kernel
theorem dX0_sumWith_4 : decode cX0_sumWith 4 = .ok (.iload_n 2, 1) := by decide +kernel
theorem dX0_sumWith_5 : decode cX0_sumWith 5 = .ok (.invokevirtual 36, 3) := by decide +kernel
theorem dX0_sumWith_8 : decode cX0_sumWith 8 = .ok (.ifCond .ne 5, 3) := by decide +kernel
theorem dX0_sumWith_11 : decode cX0_sumWith 11 = .ok (.iconst 0, 1) := by decide +kernel
theorem dX0_sumWith_12 : decode cX0_sumWith 12 = .ok (.ireturn, 1) := by decide +kernel
theorem dX0_sumWith_13 : decode cX0_sumWith 13 = .ok (.iload_n 1, 1) := by decide +kernel
theorem dX0_sumWith_14 : decode cX0_sumWith 14 = .ok (.iconst 1, 1) := by decide +kernel
theorem dX0_sumWith_15 : decode cX0_sumWith 15 = .ok (.iload_n 2, 1) := by decide +kernel
theorem dX0_sumWith_16 : decode cX0_sumWith 16 = .ok (.ishl, 1) := by decide +kernel
theorem dX0_sumWith_17 : decode cX0_sumWith 17 = .ok (.iconst (-1), 1) := by decide +kernel
theorem dX0_sumWith_18 : decode cX0_sumWith 18 = .ok (.ixor, 1) := by decide +kernel
theorem dX0_sumWith_19 : decode cX0_sumWith 19 = .ok (.iand, 1) := by decide +kernel
theorem dX0_sumWith_20 : decode cX0_sumWith 20 = .ok (.istore 4, 2) := by decide +kernel
theorem dX0_sumWith_22 : decode cX0_sumWith 22 = .ok (.aload_n 0, 1) := by decide +kernel
theorem dX0_sumWith_23 : decode cX0_sumWith 23 = .ok (.getfield 30, 3) := by decide +kernel
theorem dX0_sumWith_26 : decode cX0_sumWith 26 = .ok (.iload_n 3, 1) := by decide +kernel
theorem dX0_sumWith_27 : decode cX0_sumWith 27 = .ok (.invokevirtual 36, 3) := by decide +kernel
theorem dX0_sumWith_30 : decode cX0_sumWith 30 = .ok (.ifCond .ne 11, 3) := by decide +kernel
theorem dX0_sumWith_33 : decode cX0_sumWith 33 = .ok (.aload_n 0, 1) := by decide +kernel
theorem dX0_sumWith_34 : decode cX0_sumWith 34 = .ok (.getfield 16, 3) := by decide +kernel
theorem dX0_sumWith_37 : decode cX0_sumWith 37 = .ok (.iload 4, 2) := by decide +kernel
theorem dX0_sumWith_39 : decode cX0_sumWith 39 = .ok (.iaload, 1) := by decide +kernel
theorem dX0_sumWith_40 : decode cX0_sumWith 40 = .ok (.ireturn, 1) := by decide +kernel
theorem dX0_sumWith_41 : decode cX0_sumWith 41 = .ok (.aload_n 0, 1) := by decide +kernel
theorem dX0_sumWith_42 : decode cX0_sumWith 42 = .ok (.getfield 11, 3) := by decide +kernel
theorem dX0_sumWith_45 : decode cX0_sumWith 45 = .ok (.iload_n 2, 1) := by decide +kernel
theorem dX0_sumWith_46 : decode cX0_sumWith 46 = .ok (.aaload, 1) := by decide +kernel
theorem dX0_sumWith_47 : decode cX0_sumWith 47 = .ok (.iload_n 3, 1) := by decide +kernel
theorem dX0_sumWith_48 : decode cX0_sumWith 48 = .ok (.iaload, 1) := by decide +kernel
theorem dX0_sumWith_49 : decode cX0_sumWith 49 = .ok (.aload_n 0, 1) := by decide +kernel
theorem dX0_sumWith_50 : decode cX0_sumWith 50 = .ok (.getfield 16, 3) := by decide +kernel
theorem dX0_sumWith_53 : decode cX0_sumWith 53 = .ok (.iload 4, 2) := by decide +kernel
theorem dX0_sumWith_55 : decode cX0_sumWith 55 = .ok (.iconst 1, 1) := by decide +kernel
theorem dX0_sumWith_56 : decode cX0_sumWith 56 = .ok (.iload_n 3, 1) := by decide +kernel
theorem dX0_sumWith_57 : decode cX0_sumWith 57 = .ok (.ishl, 1) := by decide +kernel
theorem dX0_sumWith_58 : decode cX0_sumWith 58 = .ok (.iconst (-1), 1) := by decide +kernel
theorem dX0_sumWith_59 : decode cX0_sumWith 59 = .ok (.ixor, 1) := by decide +kernel
theorem dX0_sumWith_60 : decode cX0_sumWith 60 = .ok (.iand, 1) := by decide +kernel
theorem dX0_sumWith_61 : decode cX0_sumWith 61 = .ok (.iaload, 1) := by decide +kernel
theorem dX0_sumWith_62 : decode cX0_sumWith 62 = .ok (.iadd, 1) := by decide +kernel
theorem dX0_sumWith_63 : decode cX0_sumWith 63 = .ok (.ireturn, 1) := by decide +kernel
theorem dX0_choice_0 : decode cX0_choice 0 = .ok (.iconst (-1), 1) := by decide +kernel
theorem dX0_choice_1 : decode cX0_choice 1 = .ok (.istore_n 3, 1) := by decide +kernel
theorem dX0_choice_2 : decode cX0_choice 2 = .ok (.aload_n 0, 1) := by decide +kernel
theorem dX0_choice_3 : decode cX0_choice 3 = .ok (.iload_n 1, 1) := by decide +kernel
theorem dX0_choice_4 : decode cX0_choice 4 = .ok (.iload_n 2, 1) := by decide +kernel
theorem dX0_choice_5 : decode cX0_choice 5 = .ok (.iconst (-1), 1) := by decide +kernel
theorem dX0_choice_6 : decode cX0_choice 6 = .ok (.invokevirtual 80, 3) := by decide +kernel
theorem dX0_choice_9 : decode cX0_choice 9 = .ok (.istore 4, 2) := by decide +kernel
theorem dX0_choice_11 : decode cX0_choice 11 = .ok (.iload_n 2, 1) := by decide +kernel
theorem dX0_choice_12 : decode cX0_choice 12 = .ok (.iconst 1, 1) := by decide +kernel
theorem dX0_choice_13 : decode cX0_choice 13 = .ok (.iadd, 1) := by decide +kernel
theorem dX0_choice_14 : decode cX0_choice 14 = .ok (.istore 5, 2) := by decide +kernel
theorem dX0_choice_16 : decode cX0_choice 16 = .ok (.iload 5, 2) := by decide +kernel
theorem dX0_choice_18 : decode cX0_choice 18 = .ok (.aload_n 0, 1) := by decide +kernel
theorem dX0_choice_19 : decode cX0_choice 19 = .ok (.getfield 30, 3) := by decide +kernel
theorem dX0_choice_22 : decode cX0_choice 22 = .ok (.getfield 67, 3) := by decide +kernel
theorem dX0_choice_25 : decode cX0_choice 25 = .ok (.if_icmp .ge 44, 3) := by decide +kernel
theorem dX0_choice_28 : decode cX0_choice 28 = .ok (.iload_n 1, 1) := by decide +kernel
theorem dX0_choice_29 : decode cX0_choice 29 = .ok (.iload 5, 2) := by decide +kernel
theorem dX0_choice_31 : decode cX0_choice 31 = .ok (.ishr, 1) := by decide +kernel
theorem dX0_choice_32 : decode cX0_choice 32 = .ok (.iconst 1, 1) := by decide +kernel
theorem dX0_choice_33 : decode cX0_choice 33 = .ok (.iand, 1) := by decide +kernel
theorem dX0_choice_34 : decode cX0_choice 34 = .ok (.ifCond .eq 29, 3) := by decide +kernel
theorem dX0_choice_37 : decode cX0_choice 37 = .ok (.aload_n 0, 1) := by decide +kernel
theorem dX0_choice_38 : decode cX0_choice 38 = .ok (.iload_n 1, 1) := by decide +kernel
theorem dX0_choice_39 : decode cX0_choice 39 = .ok (.iload_n 2, 1) := by decide +kernel
theorem dX0_choice_40 : decode cX0_choice 40 = .ok (.iload 5, 2) := by decide +kernel
theorem dX0_choice_42 : decode cX0_choice 42 = .ok (.invokevirtual 80, 3) := by decide +kernel
theorem dX0_choice_45 : decode cX0_choice 45 = .ok (.iload 4, 2) := by decide +kernel
theorem dX0_choice_47 : decode cX0_choice 47 = .ok (.if_icmp .le 16, 3) := by decide +kernel
theorem dX0_choice_50 : decode cX0_choice 50 = .ok (.aload_n 0, 1) := by decide +kernel
theorem dX0_choice_51 : decode cX0_choice 51 = .ok (.iload_n 1, 1) := by decide +kernel
theorem dX0_choice_52 : decode cX0_choice 52 = .ok (.iload_n 2, 1) := by decide +kernel
theorem dX0_choice_53 : decode cX0_choice 53 = .ok (.iload 5, 2) := by decide +kernel
theorem dX0_choice_55 : decode cX0_choice 55 = .ok (.invokevirtual 80, 3) := by decide +kernel
theorem dX0_choice_58 : decode cX0_choice 58 = .ok (.istore 4, 2) := by decide +kernel
theorem dX0_choice_60 : decode cX0_choice 60 = .ok (.iload 5, 2) := by decide +kernel
theorem dX0_choice_62 : decode cX0_choice 62 = .ok (.istore_n 3, 1) := by decide +kernel
theorem dX0_choice_63 : decode cX0_choice 63 = .ok (.iinc 5 1, 3) := by decide +kernel
theorem dX0_choice_66 : decode cX0_choice 66 = .ok (.goto (-50), 3) := by decide +kernel
theorem dX0_choice_69 : decode cX0_choice 69 = .ok (.iload_n 3, 1) := by decide +kernel
theorem dX0_choice_70 : decode cX0_choice 70 = .ok (.ireturn, 1) := by decide +kernel
theorem dX0_bestSum_0 : decode cX0_bestSum 0 = .ok (.aload_n 0, 1) := by decide +kernel
theorem dX0_bestSum_1 : decode cX0_bestSum 1 = .ok (.getfield 16, 3) := by decide +kernel
theorem dX0_bestSum_4 : decode cX0_bestSum 4 = .ok (.iconst 1, 1) := by decide +kernel
theorem dX0_bestSum_5 : decode cX0_bestSum 5 = .ok (.aload_n 0, 1) := by decide +kernel
theorem dX0_bestSum_6 : decode cX0_bestSum 6 = .ok (.getfield 30, 3) := by decide +kernel
theorem dX0_bestSum_9 : decode cX0_bestSum 9 = .ok (.getfield 67, 3) := by decide +kernel
theorem dX0_bestSum_12 : decode cX0_bestSum 12 = .ok (.ishl, 1) := by decide +kernel
theorem dX0_bestSum_13 : decode cX0_bestSum 13 = .ok (.iconst 1, 1) := by decide +kernel
theorem dX0_bestSum_14 : decode cX0_bestSum 14 = .ok (.isub, 1) := by decide +kernel
theorem dX0_bestSum_15 : decode cX0_bestSum 15 = .ok (.iaload, 1) := by decide +kernel
theorem dX0_bestSum_16 : decode cX0_bestSum 16 = .ok (.ireturn, 1) := by decide +kernel
theorem dX0_partnerOf_0 : decode cX0_partnerOf 0 = .ok (.iconst 1, 1) := by decide +kernel
theorem dX0_partnerOf_1 : decode cX0_partnerOf 1 = .ok (.aload_n 0, 1) := by decide +kernel
theorem dX0_partnerOf_2 : decode cX0_partnerOf 2 = .ok (.getfield 30, 3) := by decide +kernel
theorem dX0_partnerOf_5 : decode cX0_partnerOf 5 = .ok (.getfield 67, 3) := by decide +kernel
theorem dX0_partnerOf_8 : decode cX0_partnerOf 8 = .ok (.ishl, 1) := by decide +kernel
theorem dX0_partnerOf_9 : decode cX0_partnerOf 9 = .ok (.iconst 1, 1) := by decide +kernel
theorem dX0_partnerOf_10 : decode cX0_partnerOf 10 = .ok (.isub, 1) := by decide +kernel
theorem dX0_partnerOf_11 : decode cX0_partnerOf 11 = .ok (.istore_n 2, 1) := by decide +kernel
theorem dX0_partnerOf_12 : decode cX0_partnerOf 12 = .ok (.iconst 0, 1) := by decide +kernel
theorem dX0_partnerOf_13 : decode cX0_partnerOf 13 = .ok (.istore_n 3, 1) := by decide +kernel
theorem dX0_partnerOf_14 : decode cX0_partnerOf 14 = .ok (.iload_n 3, 1) := by decide +kernel
theorem dX0_partnerOf_15 : decode cX0_partnerOf 15 = .ok (.aload_n 0, 1) := by decide +kernel
theorem dX0_partnerOf_16 : decode cX0_partnerOf 16 = .ok (.getfield 30, 3) := by decide +kernel
theorem dX0_partnerOf_19 : decode cX0_partnerOf 19 = .ok (.getfield 67, 3) := by decide +kernel
theorem dX0_partnerOf_22 : decode cX0_partnerOf 22 = .ok (.if_icmp .ge 77, 3) := by decide +kernel
theorem dX0_partnerOf_25 : decode cX0_partnerOf 25 = .ok (.iload_n 2, 1) := by decide +kernel
theorem dX0_partnerOf_26 : decode cX0_partnerOf 26 = .ok (.ifCond .eq 73, 3) := by decide +kernel
theorem dX0_partnerOf_29 : decode cX0_partnerOf 29 = .ok (.aload_n 0, 1) := by decide +kernel
theorem dX0_partnerOf_30 : decode cX0_partnerOf 30 = .ok (.iload_n 2, 1) := by decide +kernel
theorem dX0_partnerOf_31 : decode cX0_partnerOf 31 = .ok (.invokevirtual 74, 3) := by decide +kernel
theorem dX0_partnerOf_34 : decode cX0_partnerOf 34 = .ok (.istore 4, 2) := by decide +kernel
theorem dX0_partnerOf_36 : decode cX0_partnerOf 36 = .ok (.aload_n 0, 1) := by decide +kernel
theorem dX0_partnerOf_37 : decode cX0_partnerOf 37 = .ok (.iload_n 2, 1) := by decide +kernel
theorem dX0_partnerOf_38 : decode cX0_partnerOf 38 = .ok (.iload 4, 2) := by decide +kernel
theorem dX0_partnerOf_40 : decode cX0_partnerOf 40 = .ok (.invokevirtual 77, 3) := by decide +kernel
theorem dX0_partnerOf_43 : decode cX0_partnerOf 43 = .ok (.istore 5, 2) := by decide +kernel
theorem dX0_partnerOf_45 : decode cX0_partnerOf 45 = .ok (.iload 4, 2) := by decide +kernel
theorem dX0_partnerOf_47 : decode cX0_partnerOf 47 = .ok (.iload_n 1, 1) := by decide +kernel
theorem dX0_partnerOf_48 : decode cX0_partnerOf 48 = .ok (.if_icmp .ne 6, 3) := by decide +kernel
theorem dX0_partnerOf_51 : decode cX0_partnerOf 51 = .ok (.iload 5, 2) := by decide +kernel
theorem dX0_partnerOf_53 : decode cX0_partnerOf 53 = .ok (.ireturn, 1) := by decide +kernel
theorem dX0_partnerOf_54 : decode cX0_partnerOf 54 = .ok (.iload 5, 2) := by decide +kernel
theorem dX0_partnerOf_56 : decode cX0_partnerOf 56 = .ok (.iload_n 1, 1) := by decide +kernel
theorem dX0_partnerOf_57 : decode cX0_partnerOf 57 = .ok (.if_icmp .ne 6, 3) := by decide +kernel
theorem dX0_partnerOf_60 : decode cX0_partnerOf 60 = .ok (.iload 4, 2) := by decide +kernel
theorem dX0_partnerOf_62 : decode cX0_partnerOf 62 = .ok (.ireturn, 1) := by decide +kernel
theorem dX0_partnerOf_63 : decode cX0_partnerOf 63 = .ok (.iload_n 2, 1) := by decide +kernel
theorem dX0_partnerOf_64 : decode cX0_partnerOf 64 = .ok (.iconst 1, 1) := by decide +kernel
theorem dX0_partnerOf_65 : decode cX0_partnerOf 65 = .ok (.iload 4, 2) := by decide +kernel
theorem dX0_partnerOf_67 : decode cX0_partnerOf 67 = .ok (.ishl, 1) := by decide +kernel
theorem dX0_partnerOf_68 : decode cX0_partnerOf 68 = .ok (.iconst (-1), 1) := by decide +kernel
theorem dX0_partnerOf_69 : decode cX0_partnerOf 69 = .ok (.ixor, 1) := by decide +kernel
theorem dX0_partnerOf_70 : decode cX0_partnerOf 70 = .ok (.iand, 1) := by decide +kernel
theorem dX0_partnerOf_71 : decode cX0_partnerOf 71 = .ok (.istore_n 2, 1) := by decide +kernel
theorem dX0_partnerOf_72 : decode cX0_partnerOf 72 = .ok (.aload_n 0, 1) := by decide +kernel
theorem dX0_partnerOf_73 : decode cX0_partnerOf 73 = .ok (.getfield 30, 3) := by decide +kernel
theorem dX0_partnerOf_76 : decode cX0_partnerOf 76 = .ok (.iload 5, 2) := by decide +kernel
theorem dX0_partnerOf_78 : decode cX0_partnerOf 78 = .ok (.invokevirtual 36, 3) := by decide +kernel
theorem dX0_partnerOf_81 : decode cX0_partnerOf 81 = .ok (.ifCond .eq 12, 3) := by decide +kernel
theorem dX0_partnerOf_84 : decode cX0_partnerOf 84 = .ok (.iload_n 2, 1) := by decide +kernel
theorem dX0_partnerOf_85 : decode cX0_partnerOf 85 = .ok (.iconst 1, 1) := by decide +kernel
theorem dX0_partnerOf_86 : decode cX0_partnerOf 86 = .ok (.iload 5, 2) := by decide +kernel
theorem dX0_partnerOf_88 : decode cX0_partnerOf 88 = .ok (.ishl, 1) := by decide +kernel
theorem dX0_partnerOf_89 : decode cX0_partnerOf 89 = .ok (.iconst (-1), 1) := by decide +kernel
theorem dX0_partnerOf_90 : decode cX0_partnerOf 90 = .ok (.ixor, 1) := by decide +kernel
theorem dX0_partnerOf_91 : decode cX0_partnerOf 91 = .ok (.iand, 1) := by decide +kernel
theorem dX0_partnerOf_92 : decode cX0_partnerOf 92 = .ok (.istore_n 2, 1) := by decide +kernel
theorem dX0_partnerOf_93 : decode cX0_partnerOf 93 = .ok (.iinc 3 1, 3) := by decide +kernel
theorem dX0_partnerOf_96 : decode cX0_partnerOf 96 = .ok (.goto (-82), 3) := by decide +kernel
theorem dX0_partnerOf_99 : decode cX0_partnerOf 99 = .ok (.iconst (-1), 1) := by decide +kernel
theorem dX0_partnerOf_100 : decode cX0_partnerOf 100 = .ok (.ireturn, 1) := by decide +kernel
theorem dX1_init_0 : decode cX1_init 0 = .ok (.aload_n 0, 1) := by decide +kernel
theorem dX1_init_1 : decode cX1_init 1 = .ok (.invokespecial 3, 3) := by decide +kernel
theorem dX1_init_4 : decode cX1_init 4 = .ok (.aload_n 0, 1) := by decide +kernel
theorem dX1_init_5 : decode cX1_init 5 = .ok (.aload_n 1, 1) := by decide +kernel
theorem dX1_init_6 : decode cX1_init 6 = .ok (.putfield 9, 3) := by decide +kernel
theorem dX1_init_9 : decode cX1_init 9 = .ok (.aload_n 0, 1) := by decide +kernel
theorem dX1_init_10 : decode cX1_init 10 = .ok (.aload_n 1, 1) := by decide +kernel
theorem dX1_init_11 : decode cX1_init 11 = .ok (.getfield 15, 3) := by decide +kernel
theorem dX1_init_14 : decode cX1_init 14 = .ok (.putfield 21, 3) := by decide +kernel
theorem dX1_init_17 : decode cX1_init 17 = .ok (.aload_n 0, 1) := by decide +kernel
theorem dX1_init_18 : decode cX1_init 18 = .ok (.aload_n 1, 1) := by decide +kernel
theorem dX1_init_19 : decode cX1_init 19 = .ok (.getfield 22, 3) := by decide +kernel
theorem dX1_init_22 : decode cX1_init 22 = .ok (.putfield 26, 3) := by decide +kernel
theorem dX1_init_25 : decode cX1_init 25 = .ok (.return_, 1) := by decide +kernel
theorem dX1_isFree_0 : decode cX1_isFree 0 = .ok (.aload_n 0, 1) := by decide +kernel
theorem dX1_isFree_1 : decode cX1_isFree 1 = .ok (.getfield 21, 3) := by decide +kernel
theorem dX1_isFree_4 : decode cX1_isFree 4 = .ok (.iload_n 1, 1) := by decide +kernel
theorem dX1_isFree_5 : decode cX1_isFree 5 = .ok (.invokevirtual 27, 3) := by decide +kernel
theorem dX1_isFree_8 : decode cX1_isFree 8 = .ok (.ifCond .eq 30, 3) := by decide +kernel
theorem dX1_isFree_11 : decode cX1_isFree 11 = .ok (.aload_n 0, 1) := by decide +kernel
theorem dX1_isFree_12 : decode cX1_isFree 12 = .ok (.getfield 26, 3) := by decide +kernel
theorem dX1_isFree_15 : decode cX1_isFree 15 = .ok (.getfield 33, 3) := by decide +kernel
theorem dX1_isFree_18 : decode cX1_isFree 18 = .ok (.iload_n 1, 1) := by decide +kernel
theorem dX1_isFree_19 : decode cX1_isFree 19 = .ok (.iaload, 1) := by decide +kernel
theorem dX1_isFree_20 : decode cX1_isFree 20 = .ok (.ifCond .ne 18, 3) := by decide +kernel
theorem dX1_isFree_23 : decode cX1_isFree 23 = .ok (.aload_n 0, 1) := by decide +kernel
theorem dX1_isFree_24 : decode cX1_isFree 24 = .ok (.getfield 9, 3) := by decide +kernel
theorem dX1_isFree_27 : decode cX1_isFree 27 = .ok (.iload_n 1, 1) := by decide +kernel
theorem dX1_isFree_28 : decode cX1_isFree 28 = .ok (.invokevirtual 39, 3) := by decide +kernel
theorem dX1_isFree_31 : decode cX1_isFree 31 = .ok (.ifCond .ne 7, 3) := by decide +kernel
theorem dX1_isFree_34 : decode cX1_isFree 34 = .ok (.iconst 1, 1) := by decide +kernel
theorem dX1_isFree_35 : decode cX1_isFree 35 = .ok (.goto 4, 3) := by decide +kernel
theorem dX1_isFree_38 : decode cX1_isFree 38 = .ok (.iconst 0, 1) := by decide +kernel
theorem dX1_isFree_39 : decode cX1_isFree 39 = .ok (.ireturn, 1) := by decide +kernel
theorem dX1_bestFor_0 : decode cX1_bestFor 0 = .ok (.iconst (-1), 1) := by decide +kernel
theorem dX1_bestFor_1 : decode cX1_bestFor 1 = .ok (.istore_n 3, 1) := by decide +kernel
theorem dX1_bestFor_2 : decode cX1_bestFor 2 = .ok (.ldc 42, 2) := by decide +kernel
theorem dX1_bestFor_4 : decode cX1_bestFor 4 = .ok (.istore 4, 2) := by decide +kernel
theorem dX1_bestFor_6 : decode cX1_bestFor 6 = .ok (.iconst 0, 1) := by decide +kernel
theorem dX1_bestFor_7 : decode cX1_bestFor 7 = .ok (.istore 5, 2) := by decide +kernel
theorem dX1_bestFor_9 : decode cX1_bestFor 9 = .ok (.iload 5, 2) := by decide +kernel
theorem dX1_bestFor_11 : decode cX1_bestFor 11 = .ok (.aload_n 0, 1) := by decide +kernel
theorem dX1_bestFor_12 : decode cX1_bestFor 12 = .ok (.getfield 21, 3) := by decide +kernel
theorem dX1_bestFor_15 : decode cX1_bestFor 15 = .ok (.getfield 43, 3) := by decide +kernel
theorem dX1_bestFor_18 : decode cX1_bestFor 18 = .ok (.if_icmp .ge 77, 3) := by decide +kernel
theorem dX1_bestFor_21 : decode cX1_bestFor 21 = .ok (.aload_n 0, 1) := by decide +kernel
theorem dX1_bestFor_22 : decode cX1_bestFor 22 = .ok (.getfield 26, 3) := by decide +kernel
theorem dX1_bestFor_25 : decode cX1_bestFor 25 = .ok (.getfield 33, 3) := by decide +kernel
theorem dX1_bestFor_28 : decode cX1_bestFor 28 = .ok (.iload 5, 2) := by decide +kernel
theorem dX1_bestFor_30 : decode cX1_bestFor 30 = .ok (.iaload, 1) := by decide +kernel
theorem dX1_bestFor_31 : decode cX1_bestFor 31 = .ok (.ifCond .le 6, 3) := by decide +kernel
theorem dX1_bestFor_34 : decode cX1_bestFor 34 = .ok (.goto 55, 3) := by decide +kernel
theorem dX1_bestFor_37 : decode cX1_bestFor 37 = .ok (.iload_n 2, 1) := by decide +kernel
theorem dX1_bestFor_38 : decode cX1_bestFor 38 = .ok (.ifCond .ne 25, 3) := by decide +kernel
theorem dX1_bestFor_41 : decode cX1_bestFor 41 = .ok (.aload_n 0, 1) := by decide +kernel
theorem dX1_bestFor_42 : decode cX1_bestFor 42 = .ok (.getfield 9, 3) := by decide +kernel
theorem dX1_bestFor_45 : decode cX1_bestFor 45 = .ok (.iload_n 1, 1) := by decide +kernel
theorem dX1_bestFor_46 : decode cX1_bestFor 46 = .ok (.iload 5, 2) := by decide +kernel
theorem dX1_bestFor_48 : decode cX1_bestFor 48 = .ok (.aload_n 0, 1) := by decide +kernel
theorem dX1_bestFor_49 : decode cX1_bestFor 49 = .ok (.getfield 9, 3) := by decide +kernel
theorem dX1_bestFor_52 : decode cX1_bestFor 52 = .ok (.iload_n 1, 1) := by decide +kernel
theorem dX1_bestFor_53 : decode cX1_bestFor 53 = .ok (.invokevirtual 47, 3) := by decide +kernel
theorem dX1_bestFor_56 : decode cX1_bestFor 56 = .ok (.iconst (-1), 1) := by decide +kernel
theorem dX1_bestFor_57 : decode cX1_bestFor 57 = .ok (.invokevirtual 51, 3) := by decide +kernel
theorem dX1_bestFor_60 : decode cX1_bestFor 60 = .ok (.goto 13, 3) := by decide +kernel
theorem dX1_bestFor_63 : decode cX1_bestFor 63 = .ok (.aload_n 0, 1) := by decide +kernel
theorem dX1_bestFor_64 : decode cX1_bestFor 64 = .ok (.getfield 9, 3) := by decide +kernel
theorem dX1_bestFor_67 : decode cX1_bestFor 67 = .ok (.iload_n 1, 1) := by decide +kernel
theorem dX1_bestFor_68 : decode cX1_bestFor 68 = .ok (.iload 5, 2) := by decide +kernel
theorem dX1_bestFor_70 : decode cX1_bestFor 70 = .ok (.invokevirtual 55, 3) := by decide +kernel
theorem dX1_bestFor_73 : decode cX1_bestFor 73 = .ok (.istore 6, 2) := by decide +kernel
theorem dX1_bestFor_75 : decode cX1_bestFor 75 = .ok (.iload 6, 2) := by decide +kernel
theorem dX1_bestFor_77 : decode cX1_bestFor 77 = .ok (.iload 4, 2) := by decide +kernel
theorem dX1_bestFor_79 : decode cX1_bestFor 79 = .ok (.if_icmp .ge 10, 3) := by decide +kernel
theorem dX1_bestFor_82 : decode cX1_bestFor 82 = .ok (.iload 6, 2) := by decide +kernel
theorem dX1_bestFor_84 : decode cX1_bestFor 84 = .ok (.istore 4, 2) := by decide +kernel
theorem dX1_bestFor_86 : decode cX1_bestFor 86 = .ok (.iload 5, 2) := by decide +kernel
theorem dX1_bestFor_88 : decode cX1_bestFor 88 = .ok (.istore_n 3, 1) := by decide +kernel
theorem dX1_bestFor_89 : decode cX1_bestFor 89 = .ok (.iinc 5 1, 3) := by decide +kernel
theorem dX1_bestFor_92 : decode cX1_bestFor 92 = .ok (.goto (-83), 3) := by decide +kernel
theorem dX1_bestFor_95 : decode cX1_bestFor 95 = .ok (.iload_n 3, 1) := by decide +kernel
theorem dX1_bestFor_96 : decode cX1_bestFor 96 = .ok (.ireturn, 1) := by decide +kernel
theorem dX1_meanBehind_0 : decode cX1_meanBehind 0 = .ok (.aload_n 0, 1) := by decide +kernel
theorem dX1_meanBehind_1 : decode cX1_meanBehind 1 = .ok (.getfield 21, 3) := by decide +kernel
theorem dX1_meanBehind_4 : decode cX1_meanBehind 4 = .ok (.iload_n 1, 1) := by decide +kernel
theorem dX1_meanBehind_5 : decode cX1_meanBehind 5 = .ok (.invokevirtual 27, 3) := by decide +kernel
theorem dX1_meanBehind_8 : decode cX1_meanBehind 8 = .ok (.ifCond .ne 5, 3) := by decide +kernel
theorem dX1_meanBehind_11 : decode cX1_meanBehind 11 = .ok (.iconst 0, 1) := by decide +kernel
theorem dX1_meanBehind_12 : decode cX1_meanBehind 12 = .ok (.ireturn, 1) := by decide +kernel
theorem dX1_meanBehind_13 : decode cX1_meanBehind 13 = .ok (.aload_n 0, 1) := by decide +kernel
theorem dX1_meanBehind_14 : decode cX1_meanBehind 14 = .ok (.getfield 26, 3) := by decide +kernel
theorem dX1_meanBehind_17 : decode cX1_meanBehind 17 = .ok (.getfield 33, 3) := by decide +kernel
theorem dX1_meanBehind_20 : decode cX1_meanBehind 20 = .ok (.iload_n 1, 1) := by decide +kernel
theorem dX1_meanBehind_21 : decode cX1_meanBehind 21 = .ok (.iaload, 1) := by decide +kernel
theorem dX1_meanBehind_22 : decode cX1_meanBehind 22 = .ok (.istore 4, 2) := by decide +kernel
theorem dX1_meanBehind_24 : decode cX1_meanBehind 24 = .ok (.aload_n 0, 1) := by decide +kernel
theorem dX1_meanBehind_25 : decode cX1_meanBehind 25 = .ok (.getfield 26, 3) := by decide +kernel
theorem dX1_meanBehind_28 : decode cX1_meanBehind 28 = .ok (.getfield 33, 3) := by decide +kernel
theorem dX1_meanBehind_31 : decode cX1_meanBehind 31 = .ok (.iload_n 1, 1) := by decide +kernel
theorem dX1_meanBehind_32 : decode cX1_meanBehind 32 = .ok (.iload_n 2, 1) := by decide +kernel
theorem dX1_meanBehind_33 : decode cX1_meanBehind 33 = .ok (.iastore, 1) := by decide +kernel
theorem dX1_meanBehind_34 : decode cX1_meanBehind 34 = .ok (.aload_n 0, 1) := by decide +kernel
theorem dX1_meanBehind_35 : decode cX1_meanBehind 35 = .ok (.getfield 9, 3) := by decide +kernel
theorem dX1_meanBehind_38 : decode cX1_meanBehind 38 = .ok (.invokevirtual 59, 3) := by decide +kernel
theorem dX1_meanBehind_41 : decode cX1_meanBehind 41 = .ok (.iload_n 3, 1) := by decide +kernel
theorem dX1_meanBehind_42 : decode cX1_meanBehind 42 = .ok (.iconst (-1), 1) := by decide +kernel
theorem dX1_meanBehind_43 : decode cX1_meanBehind 43 = .ok (.if_icmp .ne 13, 3) := by decide +kernel
theorem dX1_meanBehind_46 : decode cX1_meanBehind 46 = .ok (.aload_n 0, 1) := by decide +kernel
theorem dX1_meanBehind_47 : decode cX1_meanBehind 47 = .ok (.getfield 9, 3) := by decide +kernel
theorem dX1_meanBehind_50 : decode cX1_meanBehind 50 = .ok (.invokevirtual 62, 3) := by decide +kernel
theorem dX1_meanBehind_53 : decode cX1_meanBehind 53 = .ok (.goto 11, 3) := by decide +kernel
theorem dX1_meanBehind_56 : decode cX1_meanBehind 56 = .ok (.aload_n 0, 1) := by decide +kernel
theorem dX1_meanBehind_57 : decode cX1_meanBehind 57 = .ok (.getfield 9, 3) := by decide +kernel
theorem dX1_meanBehind_60 : decode cX1_meanBehind 60 = .ok (.iload_n 3, 1) := by decide +kernel
theorem dX1_meanBehind_61 : decode cX1_meanBehind 61 = .ok (.invokevirtual 66, 3) := by decide +kernel
theorem dX1_meanBehind_64 : decode cX1_meanBehind 64 = .ok (.istore 5, 2) := by decide +kernel
theorem dX1_meanBehind_66 : decode cX1_meanBehind 66 = .ok (.aload_n 0, 1) := by decide +kernel
theorem dX1_meanBehind_67 : decode cX1_meanBehind 67 = .ok (.getfield 26, 3) := by decide +kernel
theorem dX1_meanBehind_70 : decode cX1_meanBehind 70 = .ok (.getfield 33, 3) := by decide +kernel
theorem dX1_meanBehind_73 : decode cX1_meanBehind 73 = .ok (.iload_n 1, 1) := by decide +kernel
theorem dX1_meanBehind_74 : decode cX1_meanBehind 74 = .ok (.iload 4, 2) := by decide +kernel
theorem dX1_meanBehind_76 : decode cX1_meanBehind 76 = .ok (.iastore, 1) := by decide +kernel
theorem dX1_meanBehind_77 : decode cX1_meanBehind 77 = .ok (.aload_n 0, 1) := by decide +kernel
theorem dX1_meanBehind_78 : decode cX1_meanBehind 78 = .ok (.getfield 9, 3) := by decide +kernel
theorem dX1_meanBehind_81 : decode cX1_meanBehind 81 = .ok (.invokevirtual 59, 3) := by decide +kernel
theorem dX1_meanBehind_84 : decode cX1_meanBehind 84 = .ok (.iload 5, 2) := by decide +kernel
theorem dX1_meanBehind_86 : decode cX1_meanBehind 86 = .ok (.ireturn, 1) := by decide +kernel
theorem dX1_bestWallFor_0 : decode cX1_bestWallFor 0 = .ok (.iconst (-1), 1) := by decide +kernel
theorem dX1_bestWallFor_1 : decode cX1_bestWallFor 1 = .ok (.istore_n 3, 1) := by decide +kernel
theorem dX1_bestWallFor_2 : decode cX1_bestWallFor 2 = .ok (.ldc 42, 2) := by decide +kernel
theorem dX1_bestWallFor_4 : decode cX1_bestWallFor 4 = .ok (.istore 4, 2) := by decide +kernel
theorem dX1_bestWallFor_6 : decode cX1_bestWallFor 6 = .ok (.iconst 0, 1) := by decide +kernel
theorem dX1_bestWallFor_7 : decode cX1_bestWallFor 7 = .ok (.istore 5, 2) := by decide +kernel
theorem dX1_bestWallFor_9 : decode cX1_bestWallFor 9 = .ok (.iload 5, 2) := by decide +kernel
theorem dX1_bestWallFor_11 : decode cX1_bestWallFor 11 = .ok (.aload_n 0, 1) := by decide +kernel
theorem dX1_bestWallFor_12 : decode cX1_bestWallFor 12 = .ok (.getfield 21, 3) := by decide +kernel
theorem dX1_bestWallFor_15 : decode cX1_bestWallFor 15 = .ok (.getfield 43, 3) := by decide +kernel
theorem dX1_bestWallFor_18 : decode cX1_bestWallFor 18 = .ok (.if_icmp .ge 45, 3) := by decide +kernel
theorem dX1_bestWallFor_21 : decode cX1_bestWallFor 21 = .ok (.aload_n 0, 1) := by decide +kernel
theorem dX1_bestWallFor_22 : decode cX1_bestWallFor 22 = .ok (.iload 5, 2) := by decide +kernel
theorem dX1_bestWallFor_24 : decode cX1_bestWallFor 24 = .ok (.invokevirtual 69, 3) := by decide +kernel
theorem dX1_bestWallFor_27 : decode cX1_bestWallFor 27 = .ok (.ifCond .ne 6, 3) := by decide +kernel
theorem dX1_bestWallFor_30 : decode cX1_bestWallFor 30 = .ok (.goto 27, 3) := by decide +kernel
theorem dX1_bestWallFor_33 : decode cX1_bestWallFor 33 = .ok (.aload_n 0, 1) := by decide +kernel
theorem dX1_bestWallFor_34 : decode cX1_bestWallFor 34 = .ok (.iload 5, 2) := by decide +kernel
theorem dX1_bestWallFor_36 : decode cX1_bestWallFor 36 = .ok (.iload_n 1, 1) := by decide +kernel
theorem dX1_bestWallFor_37 : decode cX1_bestWallFor 37 = .ok (.iload_n 2, 1) := by decide +kernel
theorem dX1_bestWallFor_38 : decode cX1_bestWallFor 38 = .ok (.invokevirtual 72, 3) := by decide +kernel
theorem dX1_bestWallFor_41 : decode cX1_bestWallFor 41 = .ok (.istore 6, 2) := by decide +kernel
theorem dX1_bestWallFor_43 : decode cX1_bestWallFor 43 = .ok (.iload 6, 2) := by decide +kernel
theorem dX1_bestWallFor_45 : decode cX1_bestWallFor 45 = .ok (.iload 4, 2) := by decide +kernel
theorem dX1_bestWallFor_47 : decode cX1_bestWallFor 47 = .ok (.if_icmp .ge 10, 3) := by decide +kernel
theorem dX1_bestWallFor_50 : decode cX1_bestWallFor 50 = .ok (.iload 6, 2) := by decide +kernel
theorem dX1_bestWallFor_52 : decode cX1_bestWallFor 52 = .ok (.istore 4, 2) := by decide +kernel
theorem dX1_bestWallFor_54 : decode cX1_bestWallFor 54 = .ok (.iload 5, 2) := by decide +kernel
theorem dX1_bestWallFor_56 : decode cX1_bestWallFor 56 = .ok (.istore_n 3, 1) := by decide +kernel
theorem dX1_bestWallFor_57 : decode cX1_bestWallFor 57 = .ok (.iinc 5 1, 3) := by decide +kernel
theorem dX1_bestWallFor_60 : decode cX1_bestWallFor 60 = .ok (.goto (-51), 3) := by decide +kernel
theorem dX1_bestWallFor_63 : decode cX1_bestWallFor 63 = .ok (.iload_n 3, 1) := by decide +kernel
theorem dX1_bestWallFor_64 : decode cX1_bestWallFor 64 = .ok (.ireturn, 1) := by decide +kernel
theorem dX1_mayHaveStood_0 : decode cX1_mayHaveStood 0 = .ok (.aload_n 0, 1) := by decide +kernel
theorem dX1_mayHaveStood_1 : decode cX1_mayHaveStood 1 = .ok (.getfield 21, 3) := by decide +kernel
theorem dX1_mayHaveStood_4 : decode cX1_mayHaveStood 4 = .ok (.iload_n 2, 1) := by decide +kernel
theorem dX1_mayHaveStood_5 : decode cX1_mayHaveStood 5 = .ok (.invokevirtual 27, 3) := by decide +kernel
theorem dX1_mayHaveStood_8 : decode cX1_mayHaveStood 8 = .ok (.ifCond .eq 15, 3) := by decide +kernel
theorem dX1_mayHaveStood_11 : decode cX1_mayHaveStood 11 = .ok (.aload_n 0, 1) := by decide +kernel
theorem dX1_mayHaveStood_12 : decode cX1_mayHaveStood 12 = .ok (.getfield 26, 3) := by decide +kernel
theorem dX1_mayHaveStood_15 : decode cX1_mayHaveStood 15 = .ok (.getfield 33, 3) := by decide +kernel
theorem dX1_mayHaveStood_18 : decode cX1_mayHaveStood 18 = .ok (.iload_n 2, 1) := by decide +kernel
theorem dX1_mayHaveStood_19 : decode cX1_mayHaveStood 19 = .ok (.iaload, 1) := by decide +kernel
theorem dX1_mayHaveStood_20 : decode cX1_mayHaveStood 20 = .ok (.ifCond .le 5, 3) := by decide +kernel
theorem dX1_mayHaveStood_23 : decode cX1_mayHaveStood 23 = .ok (.iconst 0, 1) := by decide +kernel
theorem dX1_mayHaveStood_24 : decode cX1_mayHaveStood 24 = .ok (.ireturn, 1) := by decide +kernel
theorem dX1_mayHaveStood_25 : decode cX1_mayHaveStood 25 = .ok (.iconst 0, 1) := by decide +kernel
theorem dX1_mayHaveStood_26 : decode cX1_mayHaveStood 26 = .ok (.istore 4, 2) := by decide +kernel
theorem dX1_mayHaveStood_28 : decode cX1_mayHaveStood 28 = .ok (.iload 4, 2) := by decide +kernel
theorem dX1_mayHaveStood_30 : decode cX1_mayHaveStood 30 = .ok (.aload_n 3, 1) := by decide +kernel
theorem dX1_mayHaveStood_31 : decode cX1_mayHaveStood 31 = .ok (.getfield 76, 3) := by decide +kernel
theorem dX1_mayHaveStood_34 : decode cX1_mayHaveStood 34 = .ok (.if_icmp .ge 35, 3) := by decide +kernel
theorem dX1_mayHaveStood_37 : decode cX1_mayHaveStood 37 = .ok (.aload_n 0, 1) := by decide +kernel
theorem dX1_mayHaveStood_38 : decode cX1_mayHaveStood 38 = .ok (.getfield 9, 3) := by decide +kernel
theorem dX1_mayHaveStood_41 : decode cX1_mayHaveStood 41 = .ok (.iload_n 1, 1) := by decide +kernel
theorem dX1_mayHaveStood_42 : decode cX1_mayHaveStood 42 = .ok (.iload_n 2, 1) := by decide +kernel
theorem dX1_mayHaveStood_43 : decode cX1_mayHaveStood 43 = .ok (.aload_n 3, 1) := by decide +kernel
theorem dX1_mayHaveStood_44 : decode cX1_mayHaveStood 44 = .ok (.iload 4, 2) := by decide +kernel
theorem dX1_mayHaveStood_46 : decode cX1_mayHaveStood 46 = .ok (.invokevirtual 81, 3) := by decide +kernel
theorem dX1_mayHaveStood_49 : decode cX1_mayHaveStood 49 = .ok (.invokevirtual 84, 3) := by decide +kernel
theorem dX1_mayHaveStood_52 : decode cX1_mayHaveStood 52 = .ok (.aload_n 3, 1) := by decide +kernel
theorem dX1_mayHaveStood_53 : decode cX1_mayHaveStood 53 = .ok (.iload 4, 2) := by decide +kernel
theorem dX1_mayHaveStood_55 : decode cX1_mayHaveStood 55 = .ok (.invokevirtual 87, 3) := by decide +kernel
theorem dX1_mayHaveStood_58 : decode cX1_mayHaveStood 58 = .ok (.if_icmp .eq 5, 3) := by decide +kernel
theorem dX1_mayHaveStood_61 : decode cX1_mayHaveStood 61 = .ok (.iconst 0, 1) := by decide +kernel
theorem dX1_mayHaveStood_62 : decode cX1_mayHaveStood 62 = .ok (.ireturn, 1) := by decide +kernel
theorem dX1_mayHaveStood_63 : decode cX1_mayHaveStood 63 = .ok (.iinc 4 1, 3) := by decide +kernel
theorem dX1_mayHaveStood_66 : decode cX1_mayHaveStood 66 = .ok (.goto (-38), 3) := by decide +kernel
theorem dX1_mayHaveStood_69 : decode cX1_mayHaveStood 69 = .ok (.iconst 1, 1) := by decide +kernel
theorem dX1_mayHaveStood_70 : decode cX1_mayHaveStood 70 = .ok (.ireturn, 1) := by decide +kernel
theorem dX1_countOfStood_0 : decode cX1_countOfStood 0 = .ok (.iconst 0, 1) := by decide +kernel
theorem dX1_countOfStood_1 : decode cX1_countOfStood 1 = .ok (.istore_n 3, 1) := by decide +kernel
theorem dX1_countOfStood_2 : decode cX1_countOfStood 2 = .ok (.iconst 0, 1) := by decide +kernel
theorem dX1_countOfStood_3 : decode cX1_countOfStood 3 = .ok (.istore 4, 2) := by decide +kernel
theorem dX1_countOfStood_5 : decode cX1_countOfStood 5 = .ok (.iload 4, 2) := by decide +kernel
theorem dX1_countOfStood_7 : decode cX1_countOfStood 7 = .ok (.aload_n 0, 1) := by decide +kernel
theorem dX1_countOfStood_8 : decode cX1_countOfStood 8 = .ok (.getfield 21, 3) := by decide +kernel
theorem dX1_countOfStood_11 : decode cX1_countOfStood 11 = .ok (.getfield 43, 3) := by decide +kernel
theorem dX1_countOfStood_14 : decode cX1_countOfStood 14 = .ok (.if_icmp .ge 23, 3) := by decide +kernel
theorem dX1_countOfStood_17 : decode cX1_countOfStood 17 = .ok (.aload_n 0, 1) := by decide +kernel
theorem dX1_countOfStood_18 : decode cX1_countOfStood 18 = .ok (.iload_n 1, 1) := by decide +kernel
theorem dX1_countOfStood_19 : decode cX1_countOfStood 19 = .ok (.iload 4, 2) := by decide +kernel
theorem dX1_countOfStood_21 : decode cX1_countOfStood 21 = .ok (.aload_n 2, 1) := by decide +kernel
theorem dX1_countOfStood_22 : decode cX1_countOfStood 22 = .ok (.invokevirtual 90, 3) := by decide +kernel
theorem dX1_countOfStood_25 : decode cX1_countOfStood 25 = .ok (.ifCond .eq 6, 3) := by decide +kernel
theorem dX1_countOfStood_28 : decode cX1_countOfStood 28 = .ok (.iinc 3 1, 3) := by decide +kernel
theorem dX1_countOfStood_31 : decode cX1_countOfStood 31 = .ok (.iinc 4 1, 3) := by decide +kernel
theorem dX1_countOfStood_34 : decode cX1_countOfStood 34 = .ok (.goto (-29), 3) := by decide +kernel
theorem dX1_countOfStood_37 : decode cX1_countOfStood 37 = .ok (.iload_n 3, 1) := by decide +kernel
theorem dX1_countOfStood_38 : decode cX1_countOfStood 38 = .ok (.ireturn, 1) := by decide +kernel
theorem dX1_stoodAt_0 : decode cX1_stoodAt 0 = .ok (.iconst 0, 1) := by decide +kernel
theorem dX1_stoodAt_1 : decode cX1_stoodAt 1 = .ok (.istore 4, 2) := by decide +kernel
theorem dX1_stoodAt_3 : decode cX1_stoodAt 3 = .ok (.iconst 0, 1) := by decide +kernel
theorem dX1_stoodAt_4 : decode cX1_stoodAt 4 = .ok (.istore 5, 2) := by decide +kernel
theorem dX1_stoodAt_6 : decode cX1_stoodAt 6 = .ok (.iload 5, 2) := by decide +kernel
theorem dX1_stoodAt_8 : decode cX1_stoodAt 8 = .ok (.aload_n 0, 1) := by decide +kernel
theorem dX1_stoodAt_9 : decode cX1_stoodAt 9 = .ok (.getfield 21, 3) := by decide +kernel
theorem dX1_stoodAt_12 : decode cX1_stoodAt 12 = .ok (.getfield 43, 3) := by decide +kernel
theorem dX1_stoodAt_15 : decode cX1_stoodAt 15 = .ok (.if_icmp .ge 32, 3) := by decide +kernel
theorem dX1_stoodAt_18 : decode cX1_stoodAt 18 = .ok (.aload_n 0, 1) := by decide +kernel
theorem dX1_stoodAt_19 : decode cX1_stoodAt 19 = .ok (.iload_n 1, 1) := by decide +kernel
theorem dX1_stoodAt_20 : decode cX1_stoodAt 20 = .ok (.iload 5, 2) := by decide +kernel
theorem dX1_stoodAt_22 : decode cX1_stoodAt 22 = .ok (.aload_n 2, 1) := by decide +kernel
theorem dX1_stoodAt_23 : decode cX1_stoodAt 23 = .ok (.invokevirtual 90, 3) := by decide +kernel
theorem dX1_stoodAt_26 : decode cX1_stoodAt 26 = .ok (.ifCond .eq 15, 3) := by decide +kernel
theorem dX1_stoodAt_29 : decode cX1_stoodAt 29 = .ok (.iload 4, 2) := by decide +kernel
theorem dX1_stoodAt_31 : decode cX1_stoodAt 31 = .ok (.iload_n 3, 1) := by decide +kernel
theorem dX1_stoodAt_32 : decode cX1_stoodAt 32 = .ok (.if_icmp .ne 6, 3) := by decide +kernel
theorem dX1_stoodAt_35 : decode cX1_stoodAt 35 = .ok (.iload 5, 2) := by decide +kernel
theorem dX1_stoodAt_37 : decode cX1_stoodAt 37 = .ok (.ireturn, 1) := by decide +kernel
theorem dX1_stoodAt_38 : decode cX1_stoodAt 38 = .ok (.iinc 4 1, 3) := by decide +kernel
theorem dX1_stoodAt_41 : decode cX1_stoodAt 41 = .ok (.iinc 5 1, 3) := by decide +kernel
theorem dX1_stoodAt_44 : decode cX1_stoodAt 44 = .ok (.goto (-38), 3) := by decide +kernel
theorem dX1_stoodAt_47 : decode cX1_stoodAt 47 = .ok (.iconst (-1), 1) := by decide +kernel
theorem dX1_stoodAt_48 : decode cX1_stoodAt 48 = .ok (.ireturn, 1) := by decide +kernel
theorem dX2_init_0 : decode cX2_init 0 = .ok (.aload_n 0, 1) := by decide +kernel
theorem dX2_init_1 : decode cX2_init 1 = .ok (.invokespecial 3, 3) := by decide +kernel
theorem dX2_init_4 : decode cX2_init 4 = .ok (.aload_n 0, 1) := by decide +kernel
theorem dX2_init_5 : decode cX2_init 5 = .ok (.bipush 6, 2) := by decide +kernel
theorem dX2_init_7 : decode cX2_init 7 = .ok (.bipush 48, 2) := by decide +kernel
theorem dX2_init_9 : decode cX2_init 9 = .ok (.multianewarray 9 2, 4) := by decide +kernel
theorem dX2_init_13 : decode cX2_init 13 = .ok (.putfield 11, 3) := by decide +kernel
theorem dX2_init_16 : decode cX2_init 16 = .ok (.aload_n 0, 1) := by decide +kernel
theorem dX2_init_17 : decode cX2_init 17 = .ok (.bipush 6, 2) := by decide +kernel
theorem dX2_init_19 : decode cX2_init 19 = .ok (.newarray .int, 2) := by decide +kernel
theorem dX2_init_21 : decode cX2_init 21 = .ok (.putfield 16, 3) := by decide +kernel
theorem dX2_init_24 : decode cX2_init 24 = .ok (.aload_n 0, 1) := by decide +kernel
theorem dX2_init_25 : decode cX2_init 25 = .ok (.bipush 6, 2) := by decide +kernel
theorem dX2_init_27 : decode cX2_init 27 = .ok (.newarray .int, 2) := by decide +kernel
theorem dX2_init_29 : decode cX2_init 29 = .ok (.putfield 20, 3) := by decide +kernel
theorem dX2_init_32 : decode cX2_init 32 = .ok (.aload_n 0, 1) := by decide +kernel
theorem dX2_init_33 : decode cX2_init 33 = .ok (.bipush 6, 2) := by decide +kernel
theorem dX2_init_35 : decode cX2_init 35 = .ok (.newarray .int, 2) := by decide +kernel
theorem dX2_init_37 : decode cX2_init 37 = .ok (.putfield 23, 3) := by decide +kernel
theorem dX2_init_40 : decode cX2_init 40 = .ok (.aload_n 0, 1) := by decide +kernel
theorem dX2_init_41 : decode cX2_init 41 = .ok (.bipush 6, 2) := by decide +kernel
theorem dX2_init_43 : decode cX2_init 43 = .ok (.newarray .int, 2) := by decide +kernel
theorem dX2_init_45 : decode cX2_init 45 = .ok (.putfield 26, 3) := by decide +kernel
theorem dX2_init_48 : decode cX2_init 48 = .ok (.aload_n 0, 1) := by decide +kernel
theorem dX2_init_49 : decode cX2_init 49 = .ok (.bipush 48, 2) := by decide +kernel
theorem dX2_init_51 : decode cX2_init 51 = .ok (.newarray .int, 2) := by decide +kernel
theorem dX2_init_53 : decode cX2_init 53 = .ok (.putfield 29, 3) := by decide +kernel
theorem dX2_init_56 : decode cX2_init 56 = .ok (.aload_n 0, 1) := by decide +kernel
theorem dX2_init_57 : decode cX2_init 57 = .ok (.bipush 48, 2) := by decide +kernel
theorem dX2_init_59 : decode cX2_init 59 = .ok (.newarray .int, 2) := by decide +kernel
theorem dX2_init_61 : decode cX2_init 61 = .ok (.putfield 32, 3) := by decide +kernel
theorem dX2_init_64 : decode cX2_init 64 = .ok (.aload_n 0, 1) := by decide +kernel
theorem dX2_init_65 : decode cX2_init 65 = .ok (.bipush 48, 2) := by decide +kernel
theorem dX2_init_67 : decode cX2_init 67 = .ok (.newarray .int, 2) := by decide +kernel
theorem dX2_init_69 : decode cX2_init 69 = .ok (.putfield 35, 3) := by decide +kernel
theorem dX2_init_72 : decode cX2_init 72 = .ok (.return_, 1) := by decide +kernel
theorem dX2_clear_0 : decode cX2_clear 0 = .ok (.aload_n 0, 1) := by decide +kernel
theorem dX2_clear_1 : decode cX2_clear 1 = .ok (.iconst 0, 1) := by decide +kernel
theorem dX2_clear_2 : decode cX2_clear 2 = .ok (.putfield 38, 3) := by decide +kernel
theorem dX2_clear_5 : decode cX2_clear 5 = .ok (.aload_n 0, 1) := by decide +kernel
theorem dX2_clear_6 : decode cX2_clear 6 = .ok (.iconst 0, 1) := by decide +kernel
theorem dX2_clear_7 : decode cX2_clear 7 = .ok (.putfield 42, 3) := by decide +kernel
theorem dX2_clear_10 : decode cX2_clear 10 = .ok (.aload_n 0, 1) := by decide +kernel
theorem dX2_clear_11 : decode cX2_clear 11 = .ok (.iconst 0, 1) := by decide +kernel
theorem dX2_clear_12 : decode cX2_clear 12 = .ok (.putfield 45, 3) := by decide +kernel
theorem dX2_clear_15 : decode cX2_clear 15 = .ok (.aload_n 0, 1) := by decide +kernel
theorem dX2_clear_16 : decode cX2_clear 16 = .ok (.iconst 0, 1) := by decide +kernel
theorem dX2_clear_17 : decode cX2_clear 17 = .ok (.putfield 48, 3) := by decide +kernel
theorem dX2_clear_20 : decode cX2_clear 20 = .ok (.aload_n 0, 1) := by decide +kernel
theorem dX2_clear_21 : decode cX2_clear 21 = .ok (.iconst 0, 1) := by decide +kernel
theorem dX2_clear_22 : decode cX2_clear 22 = .ok (.putfield 51, 3) := by decide +kernel
theorem dX2_clear_25 : decode cX2_clear 25 = .ok (.aload_n 0, 1) := by decide +kernel
theorem dX2_clear_26 : decode cX2_clear 26 = .ok (.iconst 0, 1) := by decide +kernel
theorem dX2_clear_27 : decode cX2_clear 27 = .ok (.putfield 54, 3) := by decide +kernel
theorem dX2_clear_30 : decode cX2_clear 30 = .ok (.iconst 0, 1) := by decide +kernel
theorem dX2_clear_31 : decode cX2_clear 31 = .ok (.istore_n 1, 1) := by decide +kernel
theorem dX2_clear_32 : decode cX2_clear 32 = .ok (.iload_n 1, 1) := by decide +kernel
theorem dX2_clear_33 : decode cX2_clear 33 = .ok (.bipush 48, 2) := by decide +kernel
theorem dX2_clear_35 : decode cX2_clear 35 = .ok (.if_icmp .ge 16, 3) := by decide +kernel
theorem dX2_clear_38 : decode cX2_clear 38 = .ok (.aload_n 0, 1) := by decide +kernel
theorem dX2_clear_39 : decode cX2_clear 39 = .ok (.getfield 29, 3) := by decide +kernel
theorem dX2_clear_42 : decode cX2_clear 42 = .ok (.iload_n 1, 1) := by decide +kernel
theorem dX2_clear_43 : decode cX2_clear 43 = .ok (.iconst 0, 1) := by decide +kernel
theorem dX2_clear_44 : decode cX2_clear 44 = .ok (.iastore, 1) := by decide +kernel
theorem dX2_clear_45 : decode cX2_clear 45 = .ok (.iinc 1 1, 3) := by decide +kernel
theorem dX2_clear_48 : decode cX2_clear 48 = .ok (.goto (-16), 3) := by decide +kernel
theorem dX2_clear_51 : decode cX2_clear 51 = .ok (.return_, 1) := by decide +kernel
theorem dX2_copyFrom_0 : decode cX2_copyFrom 0 = .ok (.aload_n 0, 1) := by decide +kernel
theorem dX2_copyFrom_1 : decode cX2_copyFrom 1 = .ok (.aload_n 1, 1) := by decide +kernel
theorem dX2_copyFrom_2 : decode cX2_copyFrom 2 = .ok (.getfield 38, 3) := by decide +kernel
theorem dX2_copyFrom_5 : decode cX2_copyFrom 5 = .ok (.putfield 38, 3) := by decide +kernel
theorem dX2_copyFrom_8 : decode cX2_copyFrom 8 = .ok (.aload_n 0, 1) := by decide +kernel
theorem dX2_copyFrom_9 : decode cX2_copyFrom 9 = .ok (.aload_n 1, 1) := by decide +kernel
theorem dX2_copyFrom_10 : decode cX2_copyFrom 10 = .ok (.getfield 42, 3) := by decide +kernel
theorem dX2_copyFrom_13 : decode cX2_copyFrom 13 = .ok (.putfield 42, 3) := by decide +kernel
theorem dX2_copyFrom_16 : decode cX2_copyFrom 16 = .ok (.aload_n 0, 1) := by decide +kernel
theorem dX2_copyFrom_17 : decode cX2_copyFrom 17 = .ok (.aload_n 1, 1) := by decide +kernel
theorem dX2_copyFrom_18 : decode cX2_copyFrom 18 = .ok (.getfield 45, 3) := by decide +kernel
theorem dX2_copyFrom_21 : decode cX2_copyFrom 21 = .ok (.putfield 45, 3) := by decide +kernel
theorem dX2_copyFrom_24 : decode cX2_copyFrom 24 = .ok (.aload_n 0, 1) := by decide +kernel
theorem dX2_copyFrom_25 : decode cX2_copyFrom 25 = .ok (.aload_n 1, 1) := by decide +kernel
theorem dX2_copyFrom_26 : decode cX2_copyFrom 26 = .ok (.getfield 48, 3) := by decide +kernel
theorem dX2_copyFrom_29 : decode cX2_copyFrom 29 = .ok (.putfield 48, 3) := by decide +kernel
theorem dX2_copyFrom_32 : decode cX2_copyFrom 32 = .ok (.aload_n 0, 1) := by decide +kernel
theorem dX2_copyFrom_33 : decode cX2_copyFrom 33 = .ok (.aload_n 1, 1) := by decide +kernel
theorem dX2_copyFrom_34 : decode cX2_copyFrom 34 = .ok (.getfield 51, 3) := by decide +kernel
theorem dX2_copyFrom_37 : decode cX2_copyFrom 37 = .ok (.putfield 51, 3) := by decide +kernel
theorem dX2_copyFrom_40 : decode cX2_copyFrom 40 = .ok (.aload_n 0, 1) := by decide +kernel
theorem dX2_copyFrom_41 : decode cX2_copyFrom 41 = .ok (.aload_n 1, 1) := by decide +kernel
theorem dX2_copyFrom_42 : decode cX2_copyFrom 42 = .ok (.getfield 54, 3) := by decide +kernel
theorem dX2_copyFrom_45 : decode cX2_copyFrom 45 = .ok (.putfield 54, 3) := by decide +kernel
theorem dX2_copyFrom_48 : decode cX2_copyFrom 48 = .ok (.iconst 0, 1) := by decide +kernel
theorem dX2_copyFrom_49 : decode cX2_copyFrom 49 = .ok (.istore_n 2, 1) := by decide +kernel
theorem dX2_copyFrom_50 : decode cX2_copyFrom 50 = .ok (.iload_n 2, 1) := by decide +kernel
theorem dX2_copyFrom_51 : decode cX2_copyFrom 51 = .ok (.bipush 6, 2) := by decide +kernel
theorem dX2_copyFrom_53 : decode cX2_copyFrom 53 = .ok (.if_icmp .ge 63, 3) := by decide +kernel
theorem dX2_copyFrom_56 : decode cX2_copyFrom 56 = .ok (.aload_n 0, 1) := by decide +kernel
theorem dX2_copyFrom_57 : decode cX2_copyFrom 57 = .ok (.getfield 16, 3) := by decide +kernel
theorem dX2_copyFrom_60 : decode cX2_copyFrom 60 = .ok (.iload_n 2, 1) := by decide +kernel
theorem dX2_copyFrom_61 : decode cX2_copyFrom 61 = .ok (.aload_n 1, 1) := by decide +kernel
theorem dX2_copyFrom_62 : decode cX2_copyFrom 62 = .ok (.getfield 16, 3) := by decide +kernel
theorem dX2_copyFrom_65 : decode cX2_copyFrom 65 = .ok (.iload_n 2, 1) := by decide +kernel
theorem dX2_copyFrom_66 : decode cX2_copyFrom 66 = .ok (.iaload, 1) := by decide +kernel
theorem dX2_copyFrom_67 : decode cX2_copyFrom 67 = .ok (.iastore, 1) := by decide +kernel
theorem dX2_copyFrom_68 : decode cX2_copyFrom 68 = .ok (.aload_n 0, 1) := by decide +kernel
theorem dX2_copyFrom_69 : decode cX2_copyFrom 69 = .ok (.getfield 20, 3) := by decide +kernel
theorem dX2_copyFrom_72 : decode cX2_copyFrom 72 = .ok (.iload_n 2, 1) := by decide +kernel
theorem dX2_copyFrom_73 : decode cX2_copyFrom 73 = .ok (.aload_n 1, 1) := by decide +kernel
theorem dX2_copyFrom_74 : decode cX2_copyFrom 74 = .ok (.getfield 20, 3) := by decide +kernel
theorem dX2_copyFrom_77 : decode cX2_copyFrom 77 = .ok (.iload_n 2, 1) := by decide +kernel
theorem dX2_copyFrom_78 : decode cX2_copyFrom 78 = .ok (.iaload, 1) := by decide +kernel
theorem dX2_copyFrom_79 : decode cX2_copyFrom 79 = .ok (.iastore, 1) := by decide +kernel
theorem dX2_copyFrom_80 : decode cX2_copyFrom 80 = .ok (.iconst 0, 1) := by decide +kernel
theorem dX2_copyFrom_81 : decode cX2_copyFrom 81 = .ok (.istore_n 3, 1) := by decide +kernel
theorem dX2_copyFrom_82 : decode cX2_copyFrom 82 = .ok (.iload_n 3, 1) := by decide +kernel
theorem dX2_copyFrom_83 : decode cX2_copyFrom 83 = .ok (.bipush 48, 2) := by decide +kernel
theorem dX2_copyFrom_85 : decode cX2_copyFrom 85 = .ok (.if_icmp .ge 25, 3) := by decide +kernel
theorem dX2_copyFrom_88 : decode cX2_copyFrom 88 = .ok (.aload_n 0, 1) := by decide +kernel
theorem dX2_copyFrom_89 : decode cX2_copyFrom 89 = .ok (.getfield 11, 3) := by decide +kernel
theorem dX2_copyFrom_92 : decode cX2_copyFrom 92 = .ok (.iload_n 2, 1) := by decide +kernel
theorem dX2_copyFrom_93 : decode cX2_copyFrom 93 = .ok (.aaload, 1) := by decide +kernel
theorem dX2_copyFrom_94 : decode cX2_copyFrom 94 = .ok (.iload_n 3, 1) := by decide +kernel
theorem dX2_copyFrom_95 : decode cX2_copyFrom 95 = .ok (.aload_n 1, 1) := by decide +kernel
theorem dX2_copyFrom_96 : decode cX2_copyFrom 96 = .ok (.getfield 11, 3) := by decide +kernel
theorem dX2_copyFrom_99 : decode cX2_copyFrom 99 = .ok (.iload_n 2, 1) := by decide +kernel
theorem dX2_copyFrom_100 : decode cX2_copyFrom 100 = .ok (.aaload, 1) := by decide +kernel
theorem dX2_copyFrom_101 : decode cX2_copyFrom 101 = .ok (.iload_n 3, 1) := by decide +kernel
theorem dX2_copyFrom_102 : decode cX2_copyFrom 102 = .ok (.iaload, 1) := by decide +kernel
theorem dX2_copyFrom_103 : decode cX2_copyFrom 103 = .ok (.iastore, 1) := by decide +kernel
theorem dX2_copyFrom_104 : decode cX2_copyFrom 104 = .ok (.iinc 3 1, 3) := by decide +kernel
theorem dX2_copyFrom_107 : decode cX2_copyFrom 107 = .ok (.goto (-25), 3) := by decide +kernel
theorem dX2_copyFrom_110 : decode cX2_copyFrom 110 = .ok (.iinc 2 1, 3) := by decide +kernel
theorem dX2_copyFrom_113 : decode cX2_copyFrom 113 = .ok (.goto (-63), 3) := by decide +kernel
theorem dX2_copyFrom_116 : decode cX2_copyFrom 116 = .ok (.iconst 0, 1) := by decide +kernel
theorem dX2_copyFrom_117 : decode cX2_copyFrom 117 = .ok (.istore_n 2, 1) := by decide +kernel
theorem dX2_copyFrom_118 : decode cX2_copyFrom 118 = .ok (.iload_n 2, 1) := by decide +kernel
theorem dX2_copyFrom_119 : decode cX2_copyFrom 119 = .ok (.bipush 6, 2) := by decide +kernel
theorem dX2_copyFrom_121 : decode cX2_copyFrom 121 = .ok (.if_icmp .ge 33, 3) := by decide +kernel
theorem dX2_copyFrom_124 : decode cX2_copyFrom 124 = .ok (.aload_n 0, 1) := by decide +kernel
theorem dX2_copyFrom_125 : decode cX2_copyFrom 125 = .ok (.getfield 23, 3) := by decide +kernel
theorem dX2_copyFrom_128 : decode cX2_copyFrom 128 = .ok (.iload_n 2, 1) := by decide +kernel
theorem dX2_copyFrom_129 : decode cX2_copyFrom 129 = .ok (.aload_n 1, 1) := by decide +kernel
theorem dX2_copyFrom_130 : decode cX2_copyFrom 130 = .ok (.getfield 23, 3) := by decide +kernel
theorem dX2_copyFrom_133 : decode cX2_copyFrom 133 = .ok (.iload_n 2, 1) := by decide +kernel
theorem dX2_copyFrom_134 : decode cX2_copyFrom 134 = .ok (.iaload, 1) := by decide +kernel
theorem dX2_copyFrom_135 : decode cX2_copyFrom 135 = .ok (.iastore, 1) := by decide +kernel
theorem dX2_copyFrom_136 : decode cX2_copyFrom 136 = .ok (.aload_n 0, 1) := by decide +kernel
theorem dX2_copyFrom_137 : decode cX2_copyFrom 137 = .ok (.getfield 26, 3) := by decide +kernel
theorem dX2_copyFrom_140 : decode cX2_copyFrom 140 = .ok (.iload_n 2, 1) := by decide +kernel
theorem dX2_copyFrom_141 : decode cX2_copyFrom 141 = .ok (.aload_n 1, 1) := by decide +kernel
theorem dX2_copyFrom_142 : decode cX2_copyFrom 142 = .ok (.getfield 26, 3) := by decide +kernel
theorem dX2_copyFrom_145 : decode cX2_copyFrom 145 = .ok (.iload_n 2, 1) := by decide +kernel
theorem dX2_copyFrom_146 : decode cX2_copyFrom 146 = .ok (.iaload, 1) := by decide +kernel
theorem dX2_copyFrom_147 : decode cX2_copyFrom 147 = .ok (.iastore, 1) := by decide +kernel
theorem dX2_copyFrom_148 : decode cX2_copyFrom 148 = .ok (.iinc 2 1, 3) := by decide +kernel
theorem dX2_copyFrom_151 : decode cX2_copyFrom 151 = .ok (.goto (-33), 3) := by decide +kernel
theorem dX2_copyFrom_154 : decode cX2_copyFrom 154 = .ok (.iconst 0, 1) := by decide +kernel
theorem dX2_copyFrom_155 : decode cX2_copyFrom 155 = .ok (.istore_n 2, 1) := by decide +kernel
theorem dX2_copyFrom_156 : decode cX2_copyFrom 156 = .ok (.iload_n 2, 1) := by decide +kernel
theorem dX2_copyFrom_157 : decode cX2_copyFrom 157 = .ok (.bipush 48, 2) := by decide +kernel
theorem dX2_copyFrom_159 : decode cX2_copyFrom 159 = .ok (.if_icmp .ge 45, 3) := by decide +kernel
theorem dX2_copyFrom_162 : decode cX2_copyFrom 162 = .ok (.aload_n 0, 1) := by decide +kernel
theorem dX2_copyFrom_163 : decode cX2_copyFrom 163 = .ok (.getfield 29, 3) := by decide +kernel
theorem dX2_copyFrom_166 : decode cX2_copyFrom 166 = .ok (.iload_n 2, 1) := by decide +kernel
theorem dX2_copyFrom_167 : decode cX2_copyFrom 167 = .ok (.aload_n 1, 1) := by decide +kernel
theorem dX2_copyFrom_168 : decode cX2_copyFrom 168 = .ok (.getfield 29, 3) := by decide +kernel
theorem dX2_copyFrom_171 : decode cX2_copyFrom 171 = .ok (.iload_n 2, 1) := by decide +kernel
theorem dX2_copyFrom_172 : decode cX2_copyFrom 172 = .ok (.iaload, 1) := by decide +kernel
theorem dX2_copyFrom_173 : decode cX2_copyFrom 173 = .ok (.iastore, 1) := by decide +kernel
theorem dX2_copyFrom_174 : decode cX2_copyFrom 174 = .ok (.aload_n 0, 1) := by decide +kernel
theorem dX2_copyFrom_175 : decode cX2_copyFrom 175 = .ok (.getfield 32, 3) := by decide +kernel
theorem dX2_copyFrom_178 : decode cX2_copyFrom 178 = .ok (.iload_n 2, 1) := by decide +kernel
theorem dX2_copyFrom_179 : decode cX2_copyFrom 179 = .ok (.aload_n 1, 1) := by decide +kernel
theorem dX2_copyFrom_180 : decode cX2_copyFrom 180 = .ok (.getfield 32, 3) := by decide +kernel
theorem dX2_copyFrom_183 : decode cX2_copyFrom 183 = .ok (.iload_n 2, 1) := by decide +kernel
theorem dX2_copyFrom_184 : decode cX2_copyFrom 184 = .ok (.iaload, 1) := by decide +kernel
theorem dX2_copyFrom_185 : decode cX2_copyFrom 185 = .ok (.iastore, 1) := by decide +kernel
theorem dX2_copyFrom_186 : decode cX2_copyFrom 186 = .ok (.aload_n 0, 1) := by decide +kernel
theorem dX2_copyFrom_187 : decode cX2_copyFrom 187 = .ok (.getfield 35, 3) := by decide +kernel
theorem dX2_copyFrom_190 : decode cX2_copyFrom 190 = .ok (.iload_n 2, 1) := by decide +kernel
theorem dX2_copyFrom_191 : decode cX2_copyFrom 191 = .ok (.aload_n 1, 1) := by decide +kernel
theorem dX2_copyFrom_192 : decode cX2_copyFrom 192 = .ok (.getfield 35, 3) := by decide +kernel
theorem dX2_copyFrom_195 : decode cX2_copyFrom 195 = .ok (.iload_n 2, 1) := by decide +kernel
theorem dX2_copyFrom_196 : decode cX2_copyFrom 196 = .ok (.iaload, 1) := by decide +kernel
theorem dX2_copyFrom_197 : decode cX2_copyFrom 197 = .ok (.iastore, 1) := by decide +kernel
theorem dX2_copyFrom_198 : decode cX2_copyFrom 198 = .ok (.iinc 2 1, 3) := by decide +kernel
theorem dX2_copyFrom_201 : decode cX2_copyFrom 201 = .ok (.goto (-45), 3) := by decide +kernel
theorem dX2_copyFrom_204 : decode cX2_copyFrom 204 = .ok (.return_, 1) := by decide +kernel
theorem dX2_measure_0 : decode cX2_measure 0 = .ok (.iload_n 1, 1) := by decide +kernel
theorem dX2_measure_1 : decode cX2_measure 1 = .ok (.iconst 1, 1) := by decide +kernel
theorem dX2_measure_2 : decode cX2_measure 2 = .ok (.if_icmp .lt 28, 3) := by decide +kernel
theorem dX2_measure_5 : decode cX2_measure 5 = .ok (.iload_n 2, 1) := by decide +kernel
theorem dX2_measure_6 : decode cX2_measure 6 = .ok (.iconst 1, 1) := by decide +kernel
theorem dX2_measure_7 : decode cX2_measure 7 = .ok (.if_icmp .lt 23, 3) := by decide +kernel
theorem dX2_measure_10 : decode cX2_measure 10 = .ok (.iload_n 1, 1) := by decide +kernel
theorem dX2_measure_11 : decode cX2_measure 11 = .ok (.bipush 9, 2) := by decide +kernel
theorem dX2_measure_13 : decode cX2_measure 13 = .ok (.if_icmp .gt 17, 3) := by decide +kernel
theorem dX2_measure_16 : decode cX2_measure 16 = .ok (.iload_n 2, 1) := by decide +kernel
theorem dX2_measure_17 : decode cX2_measure 17 = .ok (.bipush 9, 2) := by decide +kernel
theorem dX2_measure_19 : decode cX2_measure 19 = .ok (.if_icmp .gt 11, 3) := by decide +kernel
theorem dX2_measure_22 : decode cX2_measure 22 = .ok (.iload_n 1, 1) := by decide +kernel
theorem dX2_measure_23 : decode cX2_measure 23 = .ok (.iload_n 2, 1) := by decide +kernel
theorem dX2_measure_24 : decode cX2_measure 24 = .ok (.imul, 1) := by decide +kernel
theorem dX2_measure_25 : decode cX2_measure 25 = .ok (.bipush 48, 2) := by decide +kernel
theorem dX2_measure_27 : decode cX2_measure 27 = .ok (.if_icmp .le 4, 3) := by decide +kernel
theorem dX2_measure_30 : decode cX2_measure 30 = .ok (.return_, 1) := by decide +kernel
theorem dX2_measure_31 : decode cX2_measure 31 = .ok (.aload_n 0, 1) := by decide +kernel
theorem dX2_measure_32 : decode cX2_measure 32 = .ok (.iload_n 1, 1) := by decide +kernel
theorem dX2_measure_33 : decode cX2_measure 33 = .ok (.putfield 38, 3) := by decide +kernel
theorem dX2_measure_36 : decode cX2_measure 36 = .ok (.aload_n 0, 1) := by decide +kernel
theorem dX2_measure_37 : decode cX2_measure 37 = .ok (.iload_n 2, 1) := by decide +kernel
theorem dX2_measure_38 : decode cX2_measure 38 = .ok (.putfield 42, 3) := by decide +kernel
theorem dX2_measure_41 : decode cX2_measure 41 = .ok (.aload_n 0, 1) := by decide +kernel
theorem dX2_measure_42 : decode cX2_measure 42 = .ok (.iload_n 1, 1) := by decide +kernel
theorem dX2_measure_43 : decode cX2_measure 43 = .ok (.iload_n 2, 1) := by decide +kernel
theorem dX2_measure_44 : decode cX2_measure 44 = .ok (.imul, 1) := by decide +kernel
theorem dX2_measure_45 : decode cX2_measure 45 = .ok (.putfield 45, 3) := by decide +kernel
theorem dX2_measure_48 : decode cX2_measure 48 = .ok (.iconst 0, 1) := by decide +kernel
theorem dX2_measure_49 : decode cX2_measure 49 = .ok (.istore_n 3, 1) := by decide +kernel
theorem dX2_measure_50 : decode cX2_measure 50 = .ok (.iload_n 3, 1) := by decide +kernel
theorem dX2_measure_51 : decode cX2_measure 51 = .ok (.iload_n 2, 1) := by decide +kernel
theorem dX2_measure_52 : decode cX2_measure 52 = .ok (.if_icmp .ge 49, 3) := by decide +kernel
theorem dX2_measure_55 : decode cX2_measure 55 = .ok (.iconst 0, 1) := by decide +kernel
theorem dX2_measure_56 : decode cX2_measure 56 = .ok (.istore 4, 2) := by decide +kernel
theorem dX2_measure_58 : decode cX2_measure 58 = .ok (.iload 4, 2) := by decide +kernel
theorem dX2_measure_60 : decode cX2_measure 60 = .ok (.iload_n 1, 1) := by decide +kernel
theorem dX2_measure_61 : decode cX2_measure 61 = .ok (.if_icmp .ge 34, 3) := by decide +kernel
theorem dX2_measure_64 : decode cX2_measure 64 = .ok (.aload_n 0, 1) := by decide +kernel
theorem dX2_measure_65 : decode cX2_measure 65 = .ok (.getfield 32, 3) := by decide +kernel
theorem dX2_measure_68 : decode cX2_measure 68 = .ok (.iload_n 3, 1) := by decide +kernel
theorem dX2_measure_69 : decode cX2_measure 69 = .ok (.iload_n 1, 1) := by decide +kernel
theorem dX2_measure_70 : decode cX2_measure 70 = .ok (.imul, 1) := by decide +kernel
theorem dX2_measure_71 : decode cX2_measure 71 = .ok (.iload 4, 2) := by decide +kernel
theorem dX2_measure_73 : decode cX2_measure 73 = .ok (.iadd, 1) := by decide +kernel
theorem dX2_measure_74 : decode cX2_measure 74 = .ok (.iload 4, 2) := by decide +kernel
theorem dX2_measure_76 : decode cX2_measure 76 = .ok (.iastore, 1) := by decide +kernel
theorem dX2_measure_77 : decode cX2_measure 77 = .ok (.aload_n 0, 1) := by decide +kernel
theorem dX2_measure_78 : decode cX2_measure 78 = .ok (.getfield 35, 3) := by decide +kernel
theorem dX2_measure_81 : decode cX2_measure 81 = .ok (.iload_n 3, 1) := by decide +kernel
theorem dX2_measure_82 : decode cX2_measure 82 = .ok (.iload_n 1, 1) := by decide +kernel
theorem dX2_measure_83 : decode cX2_measure 83 = .ok (.imul, 1) := by decide +kernel
theorem dX2_measure_84 : decode cX2_measure 84 = .ok (.iload 4, 2) := by decide +kernel
theorem dX2_measure_86 : decode cX2_measure 86 = .ok (.iadd, 1) := by decide +kernel
theorem dX2_measure_87 : decode cX2_measure 87 = .ok (.iload_n 3, 1) := by decide +kernel
theorem dX2_measure_88 : decode cX2_measure 88 = .ok (.iastore, 1) := by decide +kernel
theorem dX2_measure_89 : decode cX2_measure 89 = .ok (.iinc 4 1, 3) := by decide +kernel
theorem dX2_measure_92 : decode cX2_measure 92 = .ok (.goto (-34), 3) := by decide +kernel
theorem dX2_measure_95 : decode cX2_measure 95 = .ok (.iinc 3 1, 3) := by decide +kernel
theorem dX2_measure_98 : decode cX2_measure 98 = .ok (.goto (-48), 3) := by decide +kernel
theorem dX2_measure_101 : decode cX2_measure 101 = .ok (.return_, 1) := by decide +kernel
theorem dX2_addHouse_0 : decode cX2_addHouse 0 = .ok (.aload_n 0, 1) := by decide +kernel
theorem dX2_addHouse_1 : decode cX2_addHouse 1 = .ok (.iload_n 1, 1) := by decide +kernel
theorem dX2_addHouse_2 : decode cX2_addHouse 2 = .ok (.invokevirtual 57, 3) := by decide +kernel
theorem dX2_addHouse_5 : decode cX2_addHouse 5 = .ok (.ifCond .eq 10, 3) := by decide +kernel
theorem dX2_addHouse_8 : decode cX2_addHouse 8 = .ok (.aload_n 0, 1) := by decide +kernel
theorem dX2_addHouse_9 : decode cX2_addHouse 9 = .ok (.getfield 29, 3) := by decide +kernel
theorem dX2_addHouse_12 : decode cX2_addHouse 12 = .ok (.iload_n 1, 1) := by decide +kernel
theorem dX2_addHouse_13 : decode cX2_addHouse 13 = .ok (.iload_n 2, 1) := by decide +kernel
theorem dX2_addHouse_14 : decode cX2_addHouse 14 = .ok (.iastore, 1) := by decide +kernel
theorem dX2_addHouse_15 : decode cX2_addHouse 15 = .ok (.return_, 1) := by decide +kernel
theorem dX2_addHour_0 : decode cX2_addHour 0 = .ok (.aload_n 0, 1) := by decide +kernel
theorem dX2_addHour_1 : decode cX2_addHour 1 = .ok (.getfield 48, 3) := by decide +kernel
theorem dX2_addHour_4 : decode cX2_addHour 4 = .ok (.bipush 6, 2) := by decide +kernel
theorem dX2_addHour_6 : decode cX2_addHour 6 = .ok (.if_icmp .lt 4, 3) := by decide +kernel
theorem dX2_addHour_9 : decode cX2_addHour 9 = .ok (.return_, 1) := by decide +kernel
theorem dX2_addHour_10 : decode cX2_addHour 10 = .ok (.iconst 0, 1) := by decide +kernel
theorem dX2_addHour_11 : decode cX2_addHour 11 = .ok (.istore 5, 2) := by decide +kernel
theorem dX2_addHour_13 : decode cX2_addHour 13 = .ok (.iload 5, 2) := by decide +kernel
theorem dX2_addHour_15 : decode cX2_addHour 15 = .ok (.aload_n 0, 1) := by decide +kernel
theorem dX2_addHour_16 : decode cX2_addHour 16 = .ok (.getfield 45, 3) := by decide +kernel
theorem dX2_addHour_19 : decode cX2_addHour 19 = .ok (.if_icmp .ge 43, 3) := by decide +kernel
theorem dX2_addHour_22 : decode cX2_addHour 22 = .ok (.aload_n 0, 1) := by decide +kernel
theorem dX2_addHour_23 : decode cX2_addHour 23 = .ok (.getfield 11, 3) := by decide +kernel
theorem dX2_addHour_26 : decode cX2_addHour 26 = .ok (.aload_n 0, 1) := by decide +kernel
theorem dX2_addHour_27 : decode cX2_addHour 27 = .ok (.getfield 48, 3) := by decide +kernel
theorem dX2_addHour_30 : decode cX2_addHour 30 = .ok (.aaload, 1) := by decide +kernel
theorem dX2_addHour_31 : decode cX2_addHour 31 = .ok (.iload 5, 2) := by decide +kernel
theorem dX2_addHour_33 : decode cX2_addHour 33 = .ok (.aload_n 0, 1) := by decide +kernel
theorem dX2_addHour_34 : decode cX2_addHour 34 = .ok (.aload_n 0, 1) := by decide +kernel
theorem dX2_addHour_35 : decode cX2_addHour 35 = .ok (.getfield 32, 3) := by decide +kernel
theorem dX2_addHour_38 : decode cX2_addHour 38 = .ok (.iload 5, 2) := by decide +kernel
theorem dX2_addHour_40 : decode cX2_addHour 40 = .ok (.iaload, 1) := by decide +kernel
theorem dX2_addHour_41 : decode cX2_addHour 41 = .ok (.iload_n 1, 1) := by decide +kernel
theorem dX2_addHour_42 : decode cX2_addHour 42 = .ok (.iadd, 1) := by decide +kernel
theorem dX2_addHour_43 : decode cX2_addHour 43 = .ok (.aload_n 0, 1) := by decide +kernel
theorem dX2_addHour_44 : decode cX2_addHour 44 = .ok (.getfield 35, 3) := by decide +kernel
theorem dX2_addHour_47 : decode cX2_addHour 47 = .ok (.iload 5, 2) := by decide +kernel
theorem dX2_addHour_49 : decode cX2_addHour 49 = .ok (.iaload, 1) := by decide +kernel
theorem dX2_addHour_50 : decode cX2_addHour 50 = .ok (.iload_n 2, 1) := by decide +kernel
theorem dX2_addHour_51 : decode cX2_addHour 51 = .ok (.iadd, 1) := by decide +kernel
theorem dX2_addHour_52 : decode cX2_addHour 52 = .ok (.invokevirtual 61, 3) := by decide +kernel
theorem dX2_addHour_55 : decode cX2_addHour 55 = .ok (.iastore, 1) := by decide +kernel
theorem dX2_addHour_56 : decode cX2_addHour 56 = .ok (.iinc 5 1, 3) := by decide +kernel
theorem dX2_addHour_59 : decode cX2_addHour 59 = .ok (.goto (-46), 3) := by decide +kernel
theorem dX2_addHour_62 : decode cX2_addHour 62 = .ok (.aload_n 0, 1) := by decide +kernel
theorem dX2_addHour_63 : decode cX2_addHour 63 = .ok (.getfield 16, 3) := by decide +kernel
theorem dX2_addHour_66 : decode cX2_addHour 66 = .ok (.aload_n 0, 1) := by decide +kernel
theorem dX2_addHour_67 : decode cX2_addHour 67 = .ok (.getfield 48, 3) := by decide +kernel
theorem dX2_addHour_70 : decode cX2_addHour 70 = .ok (.iload_n 3, 1) := by decide +kernel
theorem dX2_addHour_71 : decode cX2_addHour 71 = .ok (.iastore, 1) := by decide +kernel
theorem dX2_addHour_72 : decode cX2_addHour 72 = .ok (.aload_n 0, 1) := by decide +kernel
theorem dX2_addHour_73 : decode cX2_addHour 73 = .ok (.getfield 20, 3) := by decide +kernel
theorem dX2_addHour_76 : decode cX2_addHour 76 = .ok (.aload_n 0, 1) := by decide +kernel
theorem dX2_addHour_77 : decode cX2_addHour 77 = .ok (.getfield 48, 3) := by decide +kernel
theorem dX2_addHour_80 : decode cX2_addHour 80 = .ok (.iload 4, 2) := by decide +kernel
theorem dX2_addHour_82 : decode cX2_addHour 82 = .ok (.iastore, 1) := by decide +kernel
theorem dX2_addHour_83 : decode cX2_addHour 83 = .ok (.aload_n 0, 1) := by decide +kernel
theorem dX2_addHour_84 : decode cX2_addHour 84 = .ok (.dup, 1) := by decide +kernel
theorem dX2_addHour_85 : decode cX2_addHour 85 = .ok (.getfield 48, 3) := by decide +kernel
theorem dX2_addHour_88 : decode cX2_addHour 88 = .ok (.iconst 1, 1) := by decide +kernel
theorem dX2_addHour_89 : decode cX2_addHour 89 = .ok (.iadd, 1) := by decide +kernel
theorem dX2_addHour_90 : decode cX2_addHour 90 = .ok (.putfield 48, 3) := by decide +kernel
theorem dX2_addHour_93 : decode cX2_addHour 93 = .ok (.return_, 1) := by decide +kernel
theorem dX2_addPerson_0 : decode cX2_addPerson 0 = .ok (.aload_n 0, 1) := by decide +kernel
theorem dX2_addPerson_1 : decode cX2_addPerson 1 = .ok (.getfield 51, 3) := by decide +kernel
theorem dX2_addPerson_4 : decode cX2_addPerson 4 = .ok (.bipush 6, 2) := by decide +kernel
theorem dX2_addPerson_6 : decode cX2_addPerson 6 = .ok (.if_icmp .lt 4, 3) := by decide +kernel
theorem dX2_addPerson_9 : decode cX2_addPerson 9 = .ok (.return_, 1) := by decide +kernel
theorem dX2_addPerson_10 : decode cX2_addPerson 10 = .ok (.aload_n 0, 1) := by decide +kernel
theorem dX2_addPerson_11 : decode cX2_addPerson 11 = .ok (.getfield 23, 3) := by decide +kernel
theorem dX2_addPerson_14 : decode cX2_addPerson 14 = .ok (.aload_n 0, 1) := by decide +kernel
theorem dX2_addPerson_15 : decode cX2_addPerson 15 = .ok (.getfield 51, 3) := by decide +kernel
theorem dX2_addPerson_18 : decode cX2_addPerson 18 = .ok (.iload_n 1, 1) := by decide +kernel
theorem dX2_addPerson_19 : decode cX2_addPerson 19 = .ok (.iastore, 1) := by decide +kernel
theorem dX2_addPerson_20 : decode cX2_addPerson 20 = .ok (.aload_n 0, 1) := by decide +kernel
theorem dX2_addPerson_21 : decode cX2_addPerson 21 = .ok (.getfield 26, 3) := by decide +kernel
theorem dX2_addPerson_24 : decode cX2_addPerson 24 = .ok (.aload_n 0, 1) := by decide +kernel
theorem dX2_addPerson_25 : decode cX2_addPerson 25 = .ok (.getfield 51, 3) := by decide +kernel
theorem dX2_addPerson_28 : decode cX2_addPerson 28 = .ok (.iload_n 2, 1) := by decide +kernel
theorem dX2_addPerson_29 : decode cX2_addPerson 29 = .ok (.iastore, 1) := by decide +kernel
theorem dX2_addPerson_30 : decode cX2_addPerson 30 = .ok (.aload_n 0, 1) := by decide +kernel
theorem dX2_addPerson_31 : decode cX2_addPerson 31 = .ok (.dup, 1) := by decide +kernel
theorem dX2_addPerson_32 : decode cX2_addPerson 32 = .ok (.getfield 51, 3) := by decide +kernel
theorem dX2_addPerson_35 : decode cX2_addPerson 35 = .ok (.iconst 1, 1) := by decide +kernel
theorem dX2_addPerson_36 : decode cX2_addPerson 36 = .ok (.iadd, 1) := by decide +kernel
theorem dX2_addPerson_37 : decode cX2_addPerson 37 = .ok (.putfield 51, 3) := by decide +kernel
theorem dX2_addPerson_40 : decode cX2_addPerson 40 = .ok (.return_, 1) := by decide +kernel
theorem dX2_hasCell_0 : decode cX2_hasCell 0 = .ok (.iload_n 1, 1) := by decide +kernel
theorem dX2_hasCell_1 : decode cX2_hasCell 1 = .ok (.ifCond .lt 15, 3) := by decide +kernel
theorem dX2_hasCell_4 : decode cX2_hasCell 4 = .ok (.iload_n 1, 1) := by decide +kernel
theorem dX2_hasCell_5 : decode cX2_hasCell 5 = .ok (.aload_n 0, 1) := by decide +kernel
theorem dX2_hasCell_6 : decode cX2_hasCell 6 = .ok (.getfield 45, 3) := by decide +kernel
theorem dX2_hasCell_9 : decode cX2_hasCell 9 = .ok (.if_icmp .ge 7, 3) := by decide +kernel
theorem dX2_hasCell_12 : decode cX2_hasCell 12 = .ok (.iconst 1, 1) := by decide +kernel
theorem dX2_hasCell_13 : decode cX2_hasCell 13 = .ok (.goto 4, 3) := by decide +kernel
theorem dX2_hasCell_16 : decode cX2_hasCell 16 = .ok (.iconst 0, 1) := by decide +kernel
theorem dX2_hasCell_17 : decode cX2_hasCell 17 = .ok (.ireturn, 1) := by decide +kernel
theorem dX2_hasHour_0 : decode cX2_hasHour 0 = .ok (.iload_n 1, 1) := by decide +kernel
theorem dX2_hasHour_1 : decode cX2_hasHour 1 = .ok (.ifCond .lt 15, 3) := by decide +kernel
theorem dX2_hasHour_4 : decode cX2_hasHour 4 = .ok (.iload_n 1, 1) := by decide +kernel
theorem dX2_hasHour_5 : decode cX2_hasHour 5 = .ok (.aload_n 0, 1) := by decide +kernel
theorem dX2_hasHour_6 : decode cX2_hasHour 6 = .ok (.getfield 48, 3) := by decide +kernel
theorem dX2_hasHour_9 : decode cX2_hasHour 9 = .ok (.if_icmp .ge 7, 3) := by decide +kernel
theorem dX2_hasHour_12 : decode cX2_hasHour 12 = .ok (.iconst 1, 1) := by decide +kernel
theorem dX2_hasHour_13 : decode cX2_hasHour 13 = .ok (.goto 4, 3) := by decide +kernel
theorem dX2_hasHour_16 : decode cX2_hasHour 16 = .ok (.iconst 0, 1) := by decide +kernel
theorem dX2_hasHour_17 : decode cX2_hasHour 17 = .ok (.ireturn, 1) := by decide +kernel
theorem dX2_hasPerson_0 : decode cX2_hasPerson 0 = .ok (.iload_n 1, 1) := by decide +kernel
theorem dX2_hasPerson_1 : decode cX2_hasPerson 1 = .ok (.ifCond .lt 15, 3) := by decide +kernel
theorem dX2_hasPerson_4 : decode cX2_hasPerson 4 = .ok (.iload_n 1, 1) := by decide +kernel
theorem dX2_hasPerson_5 : decode cX2_hasPerson 5 = .ok (.aload_n 0, 1) := by decide +kernel
theorem dX2_hasPerson_6 : decode cX2_hasPerson 6 = .ok (.getfield 51, 3) := by decide +kernel
theorem dX2_hasPerson_9 : decode cX2_hasPerson 9 = .ok (.if_icmp .ge 7, 3) := by decide +kernel
theorem dX2_hasPerson_12 : decode cX2_hasPerson 12 = .ok (.iconst 1, 1) := by decide +kernel
theorem dX2_hasPerson_13 : decode cX2_hasPerson 13 = .ok (.goto 4, 3) := by decide +kernel
theorem dX2_hasPerson_16 : decode cX2_hasPerson 16 = .ok (.iconst 0, 1) := by decide +kernel
theorem dX2_hasPerson_17 : decode cX2_hasPerson 17 = .ok (.ireturn, 1) := by decide +kernel
theorem dX2_startsSomebodyOn_0 : decode cX2_startsSomebodyOn 0 = .ok (.iconst 0, 1) := by decide +kernel
theorem dX2_startsSomebodyOn_1 : decode cX2_startsSomebodyOn 1 = .ok (.istore_n 2, 1) := by decide +kernel
theorem dX2_startsSomebodyOn_2 : decode cX2_startsSomebodyOn 2 = .ok (.iload_n 2, 1) := by decide +kernel
theorem dX2_startsSomebodyOn_3 : decode cX2_startsSomebodyOn 3 = .ok (.aload_n 0, 1) := by decide +kernel
theorem dX2_startsSomebodyOn_4 : decode cX2_startsSomebodyOn 4 = .ok (.getfield 51, 3) := by decide +kernel
theorem dX2_startsSomebodyOn_7 : decode cX2_startsSomebodyOn 7 = .ok (.if_icmp .ge 21, 3) := by decide +kernel
theorem dX2_startsSomebodyOn_10 : decode cX2_startsSomebodyOn 10 = .ok (.aload_n 0, 1) := by decide +kernel
theorem dX2_startsSomebodyOn_11 : decode cX2_startsSomebodyOn 11 = .ok (.getfield 23, 3) := by decide +kernel
theorem dX2_startsSomebodyOn_14 : decode cX2_startsSomebodyOn 14 = .ok (.iload_n 2, 1) := by decide +kernel
theorem dX2_startsSomebodyOn_15 : decode cX2_startsSomebodyOn 15 = .ok (.iaload, 1) := by decide +kernel
theorem dX2_startsSomebodyOn_16 : decode cX2_startsSomebodyOn 16 = .ok (.iload_n 1, 1) := by decide +kernel
theorem dX2_startsSomebodyOn_17 : decode cX2_startsSomebodyOn 17 = .ok (.if_icmp .ne 5, 3) := by decide +kernel
theorem dX2_startsSomebodyOn_20 : decode cX2_startsSomebodyOn 20 = .ok (.iconst 1, 1) := by decide +kernel
theorem dX2_startsSomebodyOn_21 : decode cX2_startsSomebodyOn 21 = .ok (.ireturn, 1) := by decide +kernel
theorem dX2_startsSomebodyOn_22 : decode cX2_startsSomebodyOn 22 = .ok (.iinc 2 1, 3) := by decide +kernel
theorem dX2_startsSomebodyOn_25 : decode cX2_startsSomebodyOn 25 = .ok (.goto (-23), 3) := by decide +kernel
theorem dX2_startsSomebodyOn_28 : decode cX2_startsSomebodyOn 28 = .ok (.iconst 0, 1) := by decide +kernel
theorem dX2_startsSomebodyOn_29 : decode cX2_startsSomebodyOn 29 = .ok (.ireturn, 1) := by decide +kernel
theorem dX2_cellAt_0 : decode cX2_cellAt 0 = .ok (.iload_n 1, 1) := by decide +kernel
theorem dX2_cellAt_1 : decode cX2_cellAt 1 = .ok (.ifCond .lt 23, 3) := by decide +kernel
theorem dX2_cellAt_4 : decode cX2_cellAt 4 = .ok (.iload_n 2, 1) := by decide +kernel
theorem dX2_cellAt_5 : decode cX2_cellAt 5 = .ok (.ifCond .lt 19, 3) := by decide +kernel
theorem dX2_cellAt_8 : decode cX2_cellAt 8 = .ok (.iload_n 1, 1) := by decide +kernel
theorem dX2_cellAt_9 : decode cX2_cellAt 9 = .ok (.aload_n 0, 1) := by decide +kernel
theorem dX2_cellAt_10 : decode cX2_cellAt 10 = .ok (.getfield 38, 3) := by decide +kernel
theorem dX2_cellAt_13 : decode cX2_cellAt 13 = .ok (.if_icmp .ge 11, 3) := by decide +kernel
theorem dX2_cellAt_16 : decode cX2_cellAt 16 = .ok (.iload_n 2, 1) := by decide +kernel
theorem dX2_cellAt_17 : decode cX2_cellAt 17 = .ok (.aload_n 0, 1) := by decide +kernel
theorem dX2_cellAt_18 : decode cX2_cellAt 18 = .ok (.getfield 42, 3) := by decide +kernel
theorem dX2_cellAt_21 : decode cX2_cellAt 21 = .ok (.if_icmp .lt 5, 3) := by decide +kernel
theorem dX2_cellAt_24 : decode cX2_cellAt 24 = .ok (.iconst (-1), 1) := by decide +kernel
theorem dX2_cellAt_25 : decode cX2_cellAt 25 = .ok (.ireturn, 1) := by decide +kernel
theorem dX2_cellAt_26 : decode cX2_cellAt 26 = .ok (.iload_n 2, 1) := by decide +kernel
theorem dX2_cellAt_27 : decode cX2_cellAt 27 = .ok (.aload_n 0, 1) := by decide +kernel
theorem dX2_cellAt_28 : decode cX2_cellAt 28 = .ok (.getfield 38, 3) := by decide +kernel
theorem dX2_cellAt_31 : decode cX2_cellAt 31 = .ok (.imul, 1) := by decide +kernel
theorem dX2_cellAt_32 : decode cX2_cellAt 32 = .ok (.iload_n 1, 1) := by decide +kernel
theorem dX2_cellAt_33 : decode cX2_cellAt 33 = .ok (.iadd, 1) := by decide +kernel
theorem dX2_cellAt_34 : decode cX2_cellAt 34 = .ok (.ireturn, 1) := by decide +kernel
theorem dX2_columnOf_0 : decode cX2_columnOf 0 = .ok (.aload_n 0, 1) := by decide +kernel
theorem dX2_columnOf_1 : decode cX2_columnOf 1 = .ok (.iload_n 1, 1) := by decide +kernel
theorem dX2_columnOf_2 : decode cX2_columnOf 2 = .ok (.invokevirtual 57, 3) := by decide +kernel
theorem dX2_columnOf_5 : decode cX2_columnOf 5 = .ok (.ifCond .eq 12, 3) := by decide +kernel
theorem dX2_columnOf_8 : decode cX2_columnOf 8 = .ok (.aload_n 0, 1) := by decide +kernel
theorem dX2_columnOf_9 : decode cX2_columnOf 9 = .ok (.getfield 32, 3) := by decide +kernel
theorem dX2_columnOf_12 : decode cX2_columnOf 12 = .ok (.iload_n 1, 1) := by decide +kernel
theorem dX2_columnOf_13 : decode cX2_columnOf 13 = .ok (.iaload, 1) := by decide +kernel
theorem dX2_columnOf_14 : decode cX2_columnOf 14 = .ok (.goto 4, 3) := by decide +kernel
theorem dX2_columnOf_17 : decode cX2_columnOf 17 = .ok (.iconst (-1), 1) := by decide +kernel
theorem dX2_columnOf_18 : decode cX2_columnOf 18 = .ok (.ireturn, 1) := by decide +kernel
theorem dX2_lineOf_0 : decode cX2_lineOf 0 = .ok (.aload_n 0, 1) := by decide +kernel
theorem dX2_lineOf_1 : decode cX2_lineOf 1 = .ok (.iload_n 1, 1) := by decide +kernel
theorem dX2_lineOf_2 : decode cX2_lineOf 2 = .ok (.invokevirtual 57, 3) := by decide +kernel
theorem dX2_lineOf_5 : decode cX2_lineOf 5 = .ok (.ifCond .eq 12, 3) := by decide +kernel
theorem dX2_lineOf_8 : decode cX2_lineOf 8 = .ok (.aload_n 0, 1) := by decide +kernel
theorem dX2_lineOf_9 : decode cX2_lineOf 9 = .ok (.getfield 35, 3) := by decide +kernel
theorem dX2_lineOf_12 : decode cX2_lineOf 12 = .ok (.iload_n 1, 1) := by decide +kernel
theorem dX2_lineOf_13 : decode cX2_lineOf 13 = .ok (.iaload, 1) := by decide +kernel
theorem dX2_lineOf_14 : decode cX2_lineOf 14 = .ok (.goto 4, 3) := by decide +kernel
theorem dX2_lineOf_17 : decode cX2_lineOf 17 = .ok (.iconst (-1), 1) := by decide +kernel
theorem dX2_lineOf_18 : decode cX2_lineOf 18 = .ok (.ireturn, 1) := by decide +kernel
theorem dX2_nameOf_0 : decode cX2_nameOf 0 = .ok (.aload_n 0, 1) := by decide +kernel
theorem dX2_nameOf_1 : decode cX2_nameOf 1 = .ok (.iload_n 1, 1) := by decide +kernel
theorem dX2_nameOf_2 : decode cX2_nameOf 2 = .ok (.invokevirtual 57, 3) := by decide +kernel
theorem dX2_nameOf_5 : decode cX2_nameOf 5 = .ok (.ifCond .eq 22, 3) := by decide +kernel
theorem dX2_nameOf_8 : decode cX2_nameOf 8 = .ok (.bipush 10, 2) := by decide +kernel
theorem dX2_nameOf_10 : decode cX2_nameOf 10 = .ok (.aload_n 0, 1) := by decide +kernel
theorem dX2_nameOf_11 : decode cX2_nameOf 11 = .ok (.getfield 32, 3) := by decide +kernel
theorem dX2_nameOf_14 : decode cX2_nameOf 14 = .ok (.iload_n 1, 1) := by decide +kernel
theorem dX2_nameOf_15 : decode cX2_nameOf 15 = .ok (.iaload, 1) := by decide +kernel
theorem dX2_nameOf_16 : decode cX2_nameOf 16 = .ok (.imul, 1) := by decide +kernel
theorem dX2_nameOf_17 : decode cX2_nameOf 17 = .ok (.aload_n 0, 1) := by decide +kernel
theorem dX2_nameOf_18 : decode cX2_nameOf 18 = .ok (.getfield 35, 3) := by decide +kernel
theorem dX2_nameOf_21 : decode cX2_nameOf 21 = .ok (.iload_n 1, 1) := by decide +kernel
theorem dX2_nameOf_22 : decode cX2_nameOf 22 = .ok (.iaload, 1) := by decide +kernel
theorem dX2_nameOf_23 : decode cX2_nameOf 23 = .ok (.iadd, 1) := by decide +kernel
theorem dX2_nameOf_24 : decode cX2_nameOf 24 = .ok (.goto 4, 3) := by decide +kernel
theorem dX2_nameOf_27 : decode cX2_nameOf 27 = .ok (.iconst (-1), 1) := by decide +kernel
theorem dX2_nameOf_28 : decode cX2_nameOf 28 = .ok (.ireturn, 1) := by decide +kernel
theorem dX2_allShares_0 : decode cX2_allShares 0 = .ok (.iconst 0, 1) := by decide +kernel
theorem dX2_allShares_1 : decode cX2_allShares 1 = .ok (.istore_n 1, 1) := by decide +kernel
theorem dX2_allShares_2 : decode cX2_allShares 2 = .ok (.iconst 0, 1) := by decide +kernel
theorem dX2_allShares_3 : decode cX2_allShares 3 = .ok (.istore_n 2, 1) := by decide +kernel
theorem dX2_allShares_4 : decode cX2_allShares 4 = .ok (.iload_n 2, 1) := by decide +kernel
theorem dX2_allShares_5 : decode cX2_allShares 5 = .ok (.aload_n 0, 1) := by decide +kernel
theorem dX2_allShares_6 : decode cX2_allShares 6 = .ok (.getfield 48, 3) := by decide +kernel
theorem dX2_allShares_9 : decode cX2_allShares 9 = .ok (.if_icmp .ge 18, 3) := by decide +kernel
theorem dX2_allShares_12 : decode cX2_allShares 12 = .ok (.iload_n 1, 1) := by decide +kernel
theorem dX2_allShares_13 : decode cX2_allShares 13 = .ok (.aload_n 0, 1) := by decide +kernel
theorem dX2_allShares_14 : decode cX2_allShares 14 = .ok (.getfield 20, 3) := by decide +kernel
theorem dX2_allShares_17 : decode cX2_allShares 17 = .ok (.iload_n 2, 1) := by decide +kernel
theorem dX2_allShares_18 : decode cX2_allShares 18 = .ok (.iaload, 1) := by decide +kernel
theorem dX2_allShares_19 : decode cX2_allShares 19 = .ok (.iadd, 1) := by decide +kernel
theorem dX2_allShares_20 : decode cX2_allShares 20 = .ok (.istore_n 1, 1) := by decide +kernel
theorem dX2_allShares_21 : decode cX2_allShares 21 = .ok (.iinc 2 1, 3) := by decide +kernel
theorem dX2_allShares_24 : decode cX2_allShares 24 = .ok (.goto (-20), 3) := by decide +kernel
theorem dX2_allShares_27 : decode cX2_allShares 27 = .ok (.iload_n 1, 1) := by decide +kernel
theorem dX2_allShares_28 : decode cX2_allShares 28 = .ok (.ireturn, 1) := by decide +kernel
theorem dX2_hourOfShare_0 : decode cX2_hourOfShare 0 = .ok (.iconst 0, 1) := by decide +kernel
theorem dX2_hourOfShare_1 : decode cX2_hourOfShare 1 = .ok (.istore_n 2, 1) := by decide +kernel
theorem dX2_hourOfShare_2 : decode cX2_hourOfShare 2 = .ok (.iconst 0, 1) := by decide +kernel
theorem dX2_hourOfShare_3 : decode cX2_hourOfShare 3 = .ok (.istore_n 3, 1) := by decide +kernel
theorem dX2_hourOfShare_4 : decode cX2_hourOfShare 4 = .ok (.iload_n 3, 1) := by decide +kernel
theorem dX2_hourOfShare_5 : decode cX2_hourOfShare 5 = .ok (.aload_n 0, 1) := by decide +kernel
theorem dX2_hourOfShare_6 : decode cX2_hourOfShare 6 = .ok (.getfield 48, 3) := by decide +kernel
theorem dX2_hourOfShare_9 : decode cX2_hourOfShare 9 = .ok (.if_icmp .ge 25, 3) := by decide +kernel
theorem dX2_hourOfShare_12 : decode cX2_hourOfShare 12 = .ok (.iload_n 2, 1) := by decide +kernel
theorem dX2_hourOfShare_13 : decode cX2_hourOfShare 13 = .ok (.aload_n 0, 1) := by decide +kernel
theorem dX2_hourOfShare_14 : decode cX2_hourOfShare 14 = .ok (.getfield 20, 3) := by decide +kernel
theorem dX2_hourOfShare_17 : decode cX2_hourOfShare 17 = .ok (.iload_n 3, 1) := by decide +kernel
theorem dX2_hourOfShare_18 : decode cX2_hourOfShare 18 = .ok (.iaload, 1) := by decide +kernel
theorem dX2_hourOfShare_19 : decode cX2_hourOfShare 19 = .ok (.iadd, 1) := by decide +kernel
theorem dX2_hourOfShare_20 : decode cX2_hourOfShare 20 = .ok (.istore_n 2, 1) := by decide +kernel
theorem dX2_hourOfShare_21 : decode cX2_hourOfShare 21 = .ok (.iload_n 2, 1) := by decide +kernel
theorem dX2_hourOfShare_22 : decode cX2_hourOfShare 22 = .ok (.iload_n 1, 1) := by decide +kernel
theorem dX2_hourOfShare_23 : decode cX2_hourOfShare 23 = .ok (.if_icmp .le 5, 3) := by decide +kernel
theorem dX2_hourOfShare_26 : decode cX2_hourOfShare 26 = .ok (.iload_n 3, 1) := by decide +kernel
theorem dX2_hourOfShare_27 : decode cX2_hourOfShare 27 = .ok (.ireturn, 1) := by decide +kernel
theorem dX2_hourOfShare_28 : decode cX2_hourOfShare 28 = .ok (.iinc 3 1, 3) := by decide +kernel
theorem dX2_hourOfShare_31 : decode cX2_hourOfShare 31 = .ok (.goto (-27), 3) := by decide +kernel
theorem dX2_hourOfShare_34 : decode cX2_hourOfShare 34 = .ok (.iconst (-1), 1) := by decide +kernel
theorem dX2_hourOfShare_35 : decode cX2_hourOfShare 35 = .ok (.ireturn, 1) := by decide +kernel
theorem dX3_init_0 : decode cX3_init 0 = .ok (.aload_n 0, 1) := by decide +kernel
theorem dX3_init_1 : decode cX3_init 1 = .ok (.invokespecial 3, 3) := by decide +kernel
theorem dX3_init_4 : decode cX3_init 4 = .ok (.aload_n 0, 1) := by decide +kernel
theorem dX3_init_5 : decode cX3_init 5 = .ok (.sipush 500, 3) := by decide +kernel
theorem dX3_init_8 : decode cX3_init 8 = .ok (.newarray .byte, 2) := by decide +kernel
theorem dX3_init_10 : decode cX3_init 10 = .ok (.putfield 9, 3) := by decide +kernel
theorem dX3_init_13 : decode cX3_init 13 = .ok (.aload_n 0, 1) := by decide +kernel
theorem dX3_init_14 : decode cX3_init 14 = .ok (.iconst (-1), 1) := by decide +kernel
theorem dX3_init_15 : decode cX3_init 15 = .ok (.putfield 15, 3) := by decide +kernel
theorem dX3_init_18 : decode cX3_init 18 = .ok (.return_, 1) := by decide +kernel
theorem dX3_append_0 : decode cX3_append 0 = .ok (.iload_n 1, 1) := by decide +kernel
theorem dX3_append_1 : decode cX3_append 1 = .ok (.iconst 1, 1) := by decide +kernel
theorem dX3_append_2 : decode cX3_append 2 = .ok (.isub, 1) := by decide +kernel
theorem dX3_append_3 : decode cX3_append 3 = .ok (.istore 4, 2) := by decide +kernel
theorem dX3_append_5 : decode cX3_append 5 = .ok (.iload 4, 2) := by decide +kernel
theorem dX3_append_7 : decode cX3_append 7 = .ok (.ifCond .lt 47, 3) := by decide +kernel
theorem dX3_append_10 : decode cX3_append 10 = .ok (.aload_n 0, 1) := by decide +kernel
theorem dX3_append_11 : decode cX3_append 11 = .ok (.getfield 19, 3) := by decide +kernel
theorem dX3_append_14 : decode cX3_append 14 = .ok (.sipush 500, 3) := by decide +kernel
theorem dX3_append_17 : decode cX3_append 17 = .ok (.if_icmp .ge 37, 3) := by decide +kernel
theorem dX3_append_20 : decode cX3_append 20 = .ok (.aload_n 0, 1) := by decide +kernel
theorem dX3_append_21 : decode cX3_append 21 = .ok (.getfield 9, 3) := by decide +kernel
theorem dX3_append_24 : decode cX3_append 24 = .ok (.aload_n 0, 1) := by decide +kernel
theorem dX3_append_25 : decode cX3_append 25 = .ok (.getfield 19, 3) := by decide +kernel
theorem dX3_append_28 : decode cX3_append 28 = .ok (.lload_n 2, 1) := by decide +kernel
theorem dX3_append_29 : decode cX3_append 29 = .ok (.bipush 8, 2) := by decide +kernel
theorem dX3_append_31 : decode cX3_append 31 = .ok (.iload 4, 2) := by decide +kernel
theorem dX3_append_33 : decode cX3_append 33 = .ok (.imul, 1) := by decide +kernel
theorem dX3_append_34 : decode cX3_append 34 = .ok (.lshr, 1) := by decide +kernel
theorem dX3_append_35 : decode cX3_append 35 = .ok (.l2i, 1) := by decide +kernel
theorem dX3_append_36 : decode cX3_append 36 = .ok (.i2b, 1) := by decide +kernel
theorem dX3_append_37 : decode cX3_append 37 = .ok (.bastore, 1) := by decide +kernel
theorem dX3_append_38 : decode cX3_append 38 = .ok (.aload_n 0, 1) := by decide +kernel
theorem dX3_append_39 : decode cX3_append 39 = .ok (.dup, 1) := by decide +kernel
theorem dX3_append_40 : decode cX3_append 40 = .ok (.getfield 19, 3) := by decide +kernel
theorem dX3_append_43 : decode cX3_append 43 = .ok (.iconst 1, 1) := by decide +kernel
theorem dX3_append_44 : decode cX3_append 44 = .ok (.iadd, 1) := by decide +kernel
theorem dX3_append_45 : decode cX3_append 45 = .ok (.putfield 19, 3) := by decide +kernel
theorem dX3_append_48 : decode cX3_append 48 = .ok (.iinc 4 (-1), 3) := by decide +kernel
theorem dX3_append_51 : decode cX3_append 51 = .ok (.goto (-46), 3) := by decide +kernel
theorem dX3_append_54 : decode cX3_append 54 = .ok (.return_, 1) := by decide +kernel
theorem dX3_readInto_0 : decode cX3_readInto 0 = .ok (.aload_n 0, 1) := by decide +kernel
theorem dX3_readInto_1 : decode cX3_readInto 1 = .ok (.iconst 0, 1) := by decide +kernel
theorem dX3_readInto_2 : decode cX3_readInto 2 = .ok (.putfield 22, 3) := by decide +kernel
theorem dX3_readInto_5 : decode cX3_readInto 5 = .ok (.aload_n 0, 1) := by decide +kernel
theorem dX3_readInto_6 : decode cX3_readInto 6 = .ok (.iconst 0, 1) := by decide +kernel
theorem dX3_readInto_7 : decode cX3_readInto 7 = .ok (.putfield 25, 3) := by decide +kernel
theorem dX3_readInto_10 : decode cX3_readInto 10 = .ok (.aload_n 0, 1) := by decide +kernel
theorem dX3_readInto_11 : decode cX3_readInto 11 = .ok (.iconst (-1), 1) := by decide +kernel
theorem dX3_readInto_12 : decode cX3_readInto 12 = .ok (.putfield 15, 3) := by decide +kernel
theorem dX3_readInto_15 : decode cX3_readInto 15 = .ok (.aload_n 0, 1) := by decide +kernel
theorem dX3_readInto_16 : decode cX3_readInto 16 = .ok (.iconst 0, 1) := by decide +kernel
theorem dX3_readInto_17 : decode cX3_readInto 17 = .ok (.putfield 28, 3) := by decide +kernel
theorem dX3_readInto_20 : decode cX3_readInto 20 = .ok (.aload_n 0, 1) := by decide +kernel
theorem dX3_readInto_21 : decode cX3_readInto 21 = .ok (.iconst 0, 1) := by decide +kernel
theorem dX3_readInto_22 : decode cX3_readInto 22 = .ok (.putfield 31, 3) := by decide +kernel
theorem dX3_readInto_25 : decode cX3_readInto 25 = .ok (.aload_n 1, 1) := by decide +kernel
theorem dX3_readInto_26 : decode cX3_readInto 26 = .ok (.invokevirtual 35, 3) := by decide +kernel
theorem dX3_readInto_29 : decode cX3_readInto 29 = .ok (.iconst 0, 1) := by decide +kernel
theorem dX3_readInto_30 : decode cX3_readInto 30 = .ok (.istore_n 2, 1) := by decide +kernel
theorem dX3_readInto_31 : decode cX3_readInto 31 = .ok (.iload_n 2, 1) := by decide +kernel
theorem dX3_readInto_32 : decode cX3_readInto 32 = .ok (.sipush 500, 3) := by decide +kernel
theorem dX3_readInto_35 : decode cX3_readInto 35 = .ok (.if_icmp .gt 39, 3) := by decide +kernel
theorem dX3_readInto_38 : decode cX3_readInto 38 = .ok (.aload_n 0, 1) := by decide +kernel
theorem dX3_readInto_39 : decode cX3_readInto 39 = .ok (.getfield 25, 3) := by decide +kernel
theorem dX3_readInto_42 : decode cX3_readInto 42 = .ok (.ifCond .ne 32, 3) := by decide +kernel
theorem dX3_readInto_45 : decode cX3_readInto 45 = .ok (.aload_n 0, 1) := by decide +kernel
theorem dX3_readInto_46 : decode cX3_readInto 46 = .ok (.invokevirtual 40, 3) := by decide +kernel
theorem dX3_readInto_49 : decode cX3_readInto 49 = .ok (.aload_n 0, 1) := by decide +kernel
theorem dX3_readInto_50 : decode cX3_readInto 50 = .ok (.getfield 22, 3) := by decide +kernel
theorem dX3_readInto_53 : decode cX3_readInto 53 = .ok (.aload_n 0, 1) := by decide +kernel
theorem dX3_readInto_54 : decode cX3_readInto 54 = .ok (.getfield 19, 3) := by decide +kernel
theorem dX3_readInto_57 : decode cX3_readInto 57 = .ok (.if_icmp .lt 6, 3) := by decide +kernel
theorem dX3_readInto_60 : decode cX3_readInto 60 = .ok (.goto 14, 3) := by decide +kernel
theorem dX3_readInto_63 : decode cX3_readInto 63 = .ok (.aload_n 0, 1) := by decide +kernel
theorem dX3_readInto_64 : decode cX3_readInto 64 = .ok (.aload_n 1, 1) := by decide +kernel
theorem dX3_readInto_65 : decode cX3_readInto 65 = .ok (.invokevirtual 43, 3) := by decide +kernel
theorem dX3_readInto_68 : decode cX3_readInto 68 = .ok (.iinc 2 1, 3) := by decide +kernel
theorem dX3_readInto_71 : decode cX3_readInto 71 = .ok (.goto (-40), 3) := by decide +kernel
theorem dX3_readInto_74 : decode cX3_readInto 74 = .ok (.aload_n 0, 1) := by decide +kernel
theorem dX3_readInto_75 : decode cX3_readInto 75 = .ok (.iconst 0, 1) := by decide +kernel
theorem dX3_readInto_76 : decode cX3_readInto 76 = .ok (.putfield 19, 3) := by decide +kernel
theorem dX3_readInto_79 : decode cX3_readInto 79 = .ok (.aload_n 0, 1) := by decide +kernel
theorem dX3_readInto_80 : decode cX3_readInto 80 = .ok (.getfield 25, 3) := by decide +kernel
theorem dX3_readInto_83 : decode cX3_readInto 83 = .ok (.ireturn, 1) := by decide +kernel
theorem dX3_readStatement_0 : decode cX3_readStatement 0 = .ok (.aload_n 0, 1) := by decide +kernel
theorem dX3_readStatement_1 : decode cX3_readStatement 1 = .ok (.getfield 22, 3) := by decide +kernel
theorem dX3_readStatement_4 : decode cX3_readStatement 4 = .ok (.istore_n 2, 1) := by decide +kernel
theorem dX3_readStatement_5 : decode cX3_readStatement 5 = .ok (.aload_n 0, 1) := by decide +kernel
theorem dX3_readStatement_6 : decode cX3_readStatement 6 = .ok (.invokevirtual 47, 3) := by decide +kernel
theorem dX3_readStatement_9 : decode cX3_readStatement 9 = .ok (.aload_n 1, 1) := by decide +kernel
theorem dX3_readStatement_10 : decode cX3_readStatement 10 = .ok (.getfield 50, 3) := by decide +kernel
theorem dX3_readStatement_13 : decode cX3_readStatement 13 = .ok (.ifCond .ne 12, 3) := by decide +kernel
theorem dX3_readStatement_16 : decode cX3_readStatement 16 = .ok (.aload_n 0, 1) := by decide +kernel
theorem dX3_readStatement_17 : decode cX3_readStatement 17 = .ok (.aload_n 1, 1) := by decide +kernel
theorem dX3_readStatement_18 : decode cX3_readStatement 18 = .ok (.iload_n 2, 1) := by decide +kernel
theorem dX3_readStatement_19 : decode cX3_readStatement 19 = .ok (.invokevirtual 53, 3) := by decide +kernel
theorem dX3_readStatement_22 : decode cX3_readStatement 22 = .ok (.goto 99, 3) := by decide +kernel
theorem dX3_readStatement_25 : decode cX3_readStatement 25 = .ok (.aload_n 0, 1) := by decide +kernel
theorem dX3_readStatement_26 : decode cX3_readStatement 26 = .ok (.iload_n 2, 1) := by decide +kernel
theorem dX3_readStatement_27 : decode cX3_readStatement 27 = .ok (.ldc 57, 2) := by decide +kernel
theorem dX3_readStatement_29 : decode cX3_readStatement 29 = .ok (.invokevirtual 59, 3) := by decide +kernel
theorem dX3_readStatement_32 : decode cX3_readStatement 32 = .ok (.ifCond .eq 12, 3) := by decide +kernel
theorem dX3_readStatement_35 : decode cX3_readStatement 35 = .ok (.aload_n 0, 1) := by decide +kernel
theorem dX3_readStatement_36 : decode cX3_readStatement 36 = .ok (.aload_n 1, 1) := by decide +kernel
theorem dX3_readStatement_37 : decode cX3_readStatement 37 = .ok (.iload_n 2, 1) := by decide +kernel
theorem dX3_readStatement_38 : decode cX3_readStatement 38 = .ok (.invokevirtual 63, 3) := by decide +kernel
theorem dX3_readStatement_41 : decode cX3_readStatement 41 = .ok (.goto 80, 3) := by decide +kernel
theorem dX3_readStatement_44 : decode cX3_readStatement 44 = .ok (.aload_n 0, 1) := by decide +kernel
theorem dX3_readStatement_45 : decode cX3_readStatement 45 = .ok (.iload_n 2, 1) := by decide +kernel
theorem dX3_readStatement_46 : decode cX3_readStatement 46 = .ok (.ldc 66, 2) := by decide +kernel
theorem dX3_readStatement_48 : decode cX3_readStatement 48 = .ok (.invokevirtual 59, 3) := by decide +kernel
theorem dX3_readStatement_51 : decode cX3_readStatement 51 = .ok (.ifCond .eq 12, 3) := by decide +kernel
theorem dX3_readStatement_54 : decode cX3_readStatement 54 = .ok (.aload_n 0, 1) := by decide +kernel
theorem dX3_readStatement_55 : decode cX3_readStatement 55 = .ok (.aload_n 1, 1) := by decide +kernel
theorem dX3_readStatement_56 : decode cX3_readStatement 56 = .ok (.iload_n 2, 1) := by decide +kernel
theorem dX3_readStatement_57 : decode cX3_readStatement 57 = .ok (.invokevirtual 68, 3) := by decide +kernel
theorem dX3_readStatement_60 : decode cX3_readStatement 60 = .ok (.goto 61, 3) := by decide +kernel
theorem dX3_readStatement_63 : decode cX3_readStatement 63 = .ok (.aload_n 0, 1) := by decide +kernel
theorem dX3_readStatement_64 : decode cX3_readStatement 64 = .ok (.iload_n 2, 1) := by decide +kernel
theorem dX3_readStatement_65 : decode cX3_readStatement 65 = .ok (.ldc 71, 2) := by decide +kernel
theorem dX3_readStatement_67 : decode cX3_readStatement 67 = .ok (.invokevirtual 59, 3) := by decide +kernel
theorem dX3_readStatement_70 : decode cX3_readStatement 70 = .ok (.ifCond .eq 12, 3) := by decide +kernel
theorem dX3_readStatement_73 : decode cX3_readStatement 73 = .ok (.aload_n 0, 1) := by decide +kernel
theorem dX3_readStatement_74 : decode cX3_readStatement 74 = .ok (.aload_n 1, 1) := by decide +kernel
theorem dX3_readStatement_75 : decode cX3_readStatement 75 = .ok (.iload_n 2, 1) := by decide +kernel
theorem dX3_readStatement_76 : decode cX3_readStatement 76 = .ok (.invokevirtual 73, 3) := by decide +kernel
theorem dX3_readStatement_79 : decode cX3_readStatement 79 = .ok (.goto 42, 3) := by decide +kernel
theorem dX3_readStatement_82 : decode cX3_readStatement 82 = .ok (.aload_n 0, 1) := by decide +kernel
theorem dX3_readStatement_83 : decode cX3_readStatement 83 = .ok (.iload_n 2, 1) := by decide +kernel
theorem dX3_readStatement_84 : decode cX3_readStatement 84 = .ok (.ldc 76, 2) := by decide +kernel
theorem dX3_readStatement_86 : decode cX3_readStatement 86 = .ok (.invokevirtual 59, 3) := by decide +kernel
theorem dX3_readStatement_89 : decode cX3_readStatement 89 = .ok (.ifCond .eq 12, 3) := by decide +kernel
theorem dX3_readStatement_92 : decode cX3_readStatement 92 = .ok (.aload_n 0, 1) := by decide +kernel
theorem dX3_readStatement_93 : decode cX3_readStatement 93 = .ok (.aload_n 1, 1) := by decide +kernel
theorem dX3_readStatement_94 : decode cX3_readStatement 94 = .ok (.iload_n 2, 1) := by decide +kernel
theorem dX3_readStatement_95 : decode cX3_readStatement 95 = .ok (.invokevirtual 78, 3) := by decide +kernel
theorem dX3_readStatement_98 : decode cX3_readStatement 98 = .ok (.goto 23, 3) := by decide +kernel
theorem dX3_readStatement_101 : decode cX3_readStatement 101 = .ok (.aload_n 0, 1) := by decide +kernel
theorem dX3_readStatement_102 : decode cX3_readStatement 102 = .ok (.aload_n 0, 1) := by decide +kernel
theorem dX3_readStatement_103 : decode cX3_readStatement 103 = .ok (.iload_n 2, 1) := by decide +kernel
theorem dX3_readStatement_104 : decode cX3_readStatement 104 = .ok (.ldc 81, 2) := by decide +kernel
theorem dX3_readStatement_106 : decode cX3_readStatement 106 = .ok (.invokevirtual 59, 3) := by decide +kernel
theorem dX3_readStatement_109 : decode cX3_readStatement 109 = .ok (.ifCond .eq 7, 3) := by decide +kernel
theorem dX3_readStatement_112 : decode cX3_readStatement 112 = .ok (.iconst 3, 1) := by decide +kernel
theorem dX3_readStatement_113 : decode cX3_readStatement 113 = .ok (.goto 4, 3) := by decide +kernel
theorem dX3_readStatement_116 : decode cX3_readStatement 116 = .ok (.iconst 1, 1) := by decide +kernel
theorem dX3_readStatement_117 : decode cX3_readStatement 117 = .ok (.iload_n 2, 1) := by decide +kernel
theorem dX3_readStatement_118 : decode cX3_readStatement 118 = .ok (.invokevirtual 83, 3) := by decide +kernel
theorem dX3_readStatement_121 : decode cX3_readStatement 121 = .ok (.return_, 1) := by decide +kernel
theorem dX3_readGround_0 : decode cX3_readGround 0 = .ok (.aload_n 0, 1) := by decide +kernel
theorem dX3_readGround_1 : decode cX3_readGround 1 = .ok (.iload_n 2, 1) := by decide +kernel
theorem dX3_readGround_2 : decode cX3_readGround 2 = .ok (.ldc 81, 2) := by decide +kernel
theorem dX3_readGround_4 : decode cX3_readGround 4 = .ok (.invokevirtual 59, 3) := by decide +kernel
theorem dX3_readGround_7 : decode cX3_readGround 7 = .ok (.ifCond .ne 9, 3) := by decide +kernel
theorem dX3_readGround_10 : decode cX3_readGround 10 = .ok (.aload_n 0, 1) := by decide +kernel
theorem dX3_readGround_11 : decode cX3_readGround 11 = .ok (.iconst 1, 1) := by decide +kernel
theorem dX3_readGround_12 : decode cX3_readGround 12 = .ok (.iload_n 2, 1) := by decide +kernel
theorem dX3_readGround_13 : decode cX3_readGround 13 = .ok (.invokevirtual 83, 3) := by decide +kernel
theorem dX3_readGround_16 : decode cX3_readGround 16 = .ok (.aload_n 0, 1) := by decide +kernel
theorem dX3_readGround_17 : decode cX3_readGround 17 = .ok (.iconst 1, 1) := by decide +kernel
theorem dX3_readGround_18 : decode cX3_readGround 18 = .ok (.bipush 9, 2) := by decide +kernel
theorem dX3_readGround_20 : decode cX3_readGround 20 = .ok (.invokevirtual 87, 3) := by decide +kernel
theorem dX3_readGround_23 : decode cX3_readGround 23 = .ok (.istore_n 3, 1) := by decide +kernel
theorem dX3_readGround_24 : decode cX3_readGround 24 = .ok (.aload_n 0, 1) := by decide +kernel
theorem dX3_readGround_25 : decode cX3_readGround 25 = .ok (.iconst 1, 1) := by decide +kernel
theorem dX3_readGround_26 : decode cX3_readGround 26 = .ok (.bipush 9, 2) := by decide +kernel
theorem dX3_readGround_28 : decode cX3_readGround 28 = .ok (.invokevirtual 87, 3) := by decide +kernel
theorem dX3_readGround_31 : decode cX3_readGround 31 = .ok (.istore 4, 2) := by decide +kernel
theorem dX3_readGround_33 : decode cX3_readGround 33 = .ok (.iload_n 3, 1) := by decide +kernel
theorem dX3_readGround_34 : decode cX3_readGround 34 = .ok (.iload 4, 2) := by decide +kernel
theorem dX3_readGround_36 : decode cX3_readGround 36 = .ok (.imul, 1) := by decide +kernel
theorem dX3_readGround_37 : decode cX3_readGround 37 = .ok (.bipush 48, 2) := by decide +kernel
theorem dX3_readGround_39 : decode cX3_readGround 39 = .ok (.if_icmp .le 12, 3) := by decide +kernel
theorem dX3_readGround_42 : decode cX3_readGround 42 = .ok (.aload_n 0, 1) := by decide +kernel
theorem dX3_readGround_43 : decode cX3_readGround 43 = .ok (.iconst 2, 1) := by decide +kernel
theorem dX3_readGround_44 : decode cX3_readGround 44 = .ok (.aload_n 0, 1) := by decide +kernel
theorem dX3_readGround_45 : decode cX3_readGround 45 = .ok (.getfield 91, 3) := by decide +kernel
theorem dX3_readGround_48 : decode cX3_readGround 48 = .ok (.invokevirtual 83, 3) := by decide +kernel
theorem dX3_readGround_51 : decode cX3_readGround 51 = .ok (.aload_n 0, 1) := by decide +kernel
theorem dX3_readGround_52 : decode cX3_readGround 52 = .ok (.invokevirtual 94, 3) := by decide +kernel
theorem dX3_readGround_55 : decode cX3_readGround 55 = .ok (.aload_n 0, 1) := by decide +kernel
theorem dX3_readGround_56 : decode cX3_readGround 56 = .ok (.getfield 25, 3) := by decide +kernel
theorem dX3_readGround_59 : decode cX3_readGround 59 = .ok (.ifCond .ne 10, 3) := by decide +kernel
theorem dX3_readGround_62 : decode cX3_readGround 62 = .ok (.aload_n 1, 1) := by decide +kernel
theorem dX3_readGround_63 : decode cX3_readGround 63 = .ok (.iload_n 3, 1) := by decide +kernel
theorem dX3_readGround_64 : decode cX3_readGround 64 = .ok (.iload 4, 2) := by decide +kernel
theorem dX3_readGround_66 : decode cX3_readGround 66 = .ok (.invokevirtual 97, 3) := by decide +kernel
theorem dX3_readGround_69 : decode cX3_readGround 69 = .ok (.return_, 1) := by decide +kernel
theorem dX3_readHouse_0 : decode cX3_readHouse 0 = .ok (.aload_n 0, 1) := by decide +kernel
theorem dX3_readHouse_1 : decode cX3_readHouse 1 = .ok (.getfield 28, 3) := by decide +kernel
theorem dX3_readHouse_4 : decode cX3_readHouse 4 = .ok (.bipush 15, 2) := by decide +kernel
theorem dX3_readHouse_6 : decode cX3_readHouse 6 = .ok (.if_icmp .lt 9, 3) := by decide +kernel
theorem dX3_readHouse_9 : decode cX3_readHouse 9 = .ok (.aload_n 0, 1) := by decide +kernel
theorem dX3_readHouse_10 : decode cX3_readHouse 10 = .ok (.iconst 3, 1) := by decide +kernel
theorem dX3_readHouse_11 : decode cX3_readHouse 11 = .ok (.iload_n 2, 1) := by decide +kernel
theorem dX3_readHouse_12 : decode cX3_readHouse 12 = .ok (.invokevirtual 83, 3) := by decide +kernel
theorem dX3_readHouse_15 : decode cX3_readHouse 15 = .ok (.aload_n 0, 1) := by decide +kernel
theorem dX3_readHouse_16 : decode cX3_readHouse 16 = .ok (.aload_n 1, 1) := by decide +kernel
theorem dX3_readHouse_17 : decode cX3_readHouse 17 = .ok (.invokevirtual 100, 3) := by decide +kernel
theorem dX3_readHouse_20 : decode cX3_readHouse 20 = .ok (.istore_n 3, 1) := by decide +kernel
theorem dX3_readHouse_21 : decode cX3_readHouse 21 = .ok (.aload_n 1, 1) := by decide +kernel
theorem dX3_readHouse_22 : decode cX3_readHouse 22 = .ok (.iload_n 3, 1) := by decide +kernel
theorem dX3_readHouse_23 : decode cX3_readHouse 23 = .ok (.invokevirtual 104, 3) := by decide +kernel
theorem dX3_readHouse_26 : decode cX3_readHouse 26 = .ok (.ifCond .eq 12, 3) := by decide +kernel
theorem dX3_readHouse_29 : decode cX3_readHouse 29 = .ok (.aload_n 0, 1) := by decide +kernel
theorem dX3_readHouse_30 : decode cX3_readHouse 30 = .ok (.iconst 4, 1) := by decide +kernel
theorem dX3_readHouse_31 : decode cX3_readHouse 31 = .ok (.aload_n 0, 1) := by decide +kernel
theorem dX3_readHouse_32 : decode cX3_readHouse 32 = .ok (.getfield 91, 3) := by decide +kernel
theorem dX3_readHouse_35 : decode cX3_readHouse 35 = .ok (.invokevirtual 83, 3) := by decide +kernel
theorem dX3_readHouse_38 : decode cX3_readHouse 38 = .ok (.aload_n 0, 1) := by decide +kernel
theorem dX3_readHouse_39 : decode cX3_readHouse 39 = .ok (.iconst 1, 1) := by decide +kernel
theorem dX3_readHouse_40 : decode cX3_readHouse 40 = .ok (.bipush 9, 2) := by decide +kernel
theorem dX3_readHouse_42 : decode cX3_readHouse 42 = .ok (.invokevirtual 87, 3) := by decide +kernel
theorem dX3_readHouse_45 : decode cX3_readHouse 45 = .ok (.istore 4, 2) := by decide +kernel
theorem dX3_readHouse_47 : decode cX3_readHouse 47 = .ok (.aload_n 0, 1) := by decide +kernel
theorem dX3_readHouse_48 : decode cX3_readHouse 48 = .ok (.invokevirtual 94, 3) := by decide +kernel
theorem dX3_readHouse_51 : decode cX3_readHouse 51 = .ok (.aload_n 0, 1) := by decide +kernel
theorem dX3_readHouse_52 : decode cX3_readHouse 52 = .ok (.getfield 25, 3) := by decide +kernel
theorem dX3_readHouse_55 : decode cX3_readHouse 55 = .ok (.ifCond .ne 20, 3) := by decide +kernel
theorem dX3_readHouse_58 : decode cX3_readHouse 58 = .ok (.aload_n 1, 1) := by decide +kernel
theorem dX3_readHouse_59 : decode cX3_readHouse 59 = .ok (.iload_n 3, 1) := by decide +kernel
theorem dX3_readHouse_60 : decode cX3_readHouse 60 = .ok (.iload 4, 2) := by decide +kernel
theorem dX3_readHouse_62 : decode cX3_readHouse 62 = .ok (.invokevirtual 108, 3) := by decide +kernel
theorem dX3_readHouse_65 : decode cX3_readHouse 65 = .ok (.aload_n 0, 1) := by decide +kernel
theorem dX3_readHouse_66 : decode cX3_readHouse 66 = .ok (.dup, 1) := by decide +kernel
theorem dX3_readHouse_67 : decode cX3_readHouse 67 = .ok (.getfield 28, 3) := by decide +kernel
theorem dX3_readHouse_70 : decode cX3_readHouse 70 = .ok (.iconst 1, 1) := by decide +kernel
theorem dX3_readHouse_71 : decode cX3_readHouse 71 = .ok (.iadd, 1) := by decide +kernel
theorem dX3_readHouse_72 : decode cX3_readHouse 72 = .ok (.putfield 28, 3) := by decide +kernel
theorem dX3_readHouse_75 : decode cX3_readHouse 75 = .ok (.return_, 1) := by decide +kernel
theorem dX3_readSun_0 : decode cX3_readSun 0 = .ok (.aload_n 1, 1) := by decide +kernel
theorem dX3_readSun_1 : decode cX3_readSun 1 = .ok (.getfield 111, 3) := by decide +kernel
theorem dX3_readSun_4 : decode cX3_readSun 4 = .ok (.bipush 6, 2) := by decide +kernel
theorem dX3_readSun_6 : decode cX3_readSun 6 = .ok (.if_icmp .lt 9, 3) := by decide +kernel
theorem dX3_readSun_9 : decode cX3_readSun 9 = .ok (.aload_n 0, 1) := by decide +kernel
theorem dX3_readSun_10 : decode cX3_readSun 10 = .ok (.iconst 3, 1) := by decide +kernel
theorem dX3_readSun_11 : decode cX3_readSun 11 = .ok (.iload_n 2, 1) := by decide +kernel
theorem dX3_readSun_12 : decode cX3_readSun 12 = .ok (.invokevirtual 83, 3) := by decide +kernel
theorem dX3_readSun_15 : decode cX3_readSun 15 = .ok (.aload_n 0, 1) := by decide +kernel
theorem dX3_readSun_16 : decode cX3_readSun 16 = .ok (.iconst 0, 1) := by decide +kernel
theorem dX3_readSun_17 : decode cX3_readSun 17 = .ok (.iconst 2, 1) := by decide +kernel
theorem dX3_readSun_18 : decode cX3_readSun 18 = .ok (.invokevirtual 87, 3) := by decide +kernel
theorem dX3_readSun_21 : decode cX3_readSun 21 = .ok (.iconst 1, 1) := by decide +kernel
theorem dX3_readSun_22 : decode cX3_readSun 22 = .ok (.isub, 1) := by decide +kernel
theorem dX3_readSun_23 : decode cX3_readSun 23 = .ok (.istore_n 3, 1) := by decide +kernel
theorem dX3_readSun_24 : decode cX3_readSun 24 = .ok (.aload_n 0, 1) := by decide +kernel
theorem dX3_readSun_25 : decode cX3_readSun 25 = .ok (.iconst 0, 1) := by decide +kernel
theorem dX3_readSun_26 : decode cX3_readSun 26 = .ok (.iconst 2, 1) := by decide +kernel
theorem dX3_readSun_27 : decode cX3_readSun 27 = .ok (.invokevirtual 87, 3) := by decide +kernel
theorem dX3_readSun_30 : decode cX3_readSun 30 = .ok (.iconst 1, 1) := by decide +kernel
theorem dX3_readSun_31 : decode cX3_readSun 31 = .ok (.isub, 1) := by decide +kernel
theorem dX3_readSun_32 : decode cX3_readSun 32 = .ok (.istore 4, 2) := by decide +kernel
theorem dX3_readSun_34 : decode cX3_readSun 34 = .ok (.iload_n 3, 1) := by decide +kernel
theorem dX3_readSun_35 : decode cX3_readSun 35 = .ok (.ifCond .ne 17, 3) := by decide +kernel
theorem dX3_readSun_38 : decode cX3_readSun 38 = .ok (.iload 4, 2) := by decide +kernel
theorem dX3_readSun_40 : decode cX3_readSun 40 = .ok (.ifCond .ne 12, 3) := by decide +kernel
theorem dX3_readSun_43 : decode cX3_readSun 43 = .ok (.aload_n 0, 1) := by decide +kernel
theorem dX3_readSun_44 : decode cX3_readSun 44 = .ok (.iconst 4, 1) := by decide +kernel
theorem dX3_readSun_45 : decode cX3_readSun 45 = .ok (.aload_n 0, 1) := by decide +kernel
theorem dX3_readSun_46 : decode cX3_readSun 46 = .ok (.getfield 91, 3) := by decide +kernel
theorem dX3_readSun_49 : decode cX3_readSun 49 = .ok (.invokevirtual 83, 3) := by decide +kernel
theorem dX3_readSun_52 : decode cX3_readSun 52 = .ok (.aload_n 0, 1) := by decide +kernel
theorem dX3_readSun_53 : decode cX3_readSun 53 = .ok (.iconst 0, 1) := by decide +kernel
theorem dX3_readSun_54 : decode cX3_readSun 54 = .ok (.iconst 3, 1) := by decide +kernel
theorem dX3_readSun_55 : decode cX3_readSun 55 = .ok (.invokevirtual 87, 3) := by decide +kernel
theorem dX3_readSun_58 : decode cX3_readSun 58 = .ok (.istore 5, 2) := by decide +kernel
theorem dX3_readSun_60 : decode cX3_readSun 60 = .ok (.aload_n 0, 1) := by decide +kernel
theorem dX3_readSun_61 : decode cX3_readSun 61 = .ok (.iconst 0, 1) := by decide +kernel
theorem dX3_readSun_62 : decode cX3_readSun 62 = .ok (.bipush 20, 2) := by decide +kernel
theorem dX3_readSun_64 : decode cX3_readSun 64 = .ok (.invokevirtual 87, 3) := by decide +kernel
theorem dX3_readSun_67 : decode cX3_readSun 67 = .ok (.istore 6, 2) := by decide +kernel
theorem dX3_readSun_69 : decode cX3_readSun 69 = .ok (.aload_n 0, 1) := by decide +kernel
theorem dX3_readSun_70 : decode cX3_readSun 70 = .ok (.invokevirtual 94, 3) := by decide +kernel
theorem dX3_readSun_73 : decode cX3_readSun 73 = .ok (.aload_n 0, 1) := by decide +kernel
theorem dX3_readSun_74 : decode cX3_readSun 74 = .ok (.getfield 25, 3) := by decide +kernel
theorem dX3_readSun_77 : decode cX3_readSun 77 = .ok (.ifCond .ne 14, 3) := by decide +kernel
theorem dX3_readSun_80 : decode cX3_readSun 80 = .ok (.aload_n 1, 1) := by decide +kernel
theorem dX3_readSun_81 : decode cX3_readSun 81 = .ok (.iload_n 3, 1) := by decide +kernel
theorem dX3_readSun_82 : decode cX3_readSun 82 = .ok (.iload 4, 2) := by decide +kernel
theorem dX3_readSun_84 : decode cX3_readSun 84 = .ok (.iload 5, 2) := by decide +kernel
theorem dX3_readSun_86 : decode cX3_readSun 86 = .ok (.iload 6, 2) := by decide +kernel
theorem dX3_readSun_88 : decode cX3_readSun 88 = .ok (.invokevirtual 114, 3) := by decide +kernel
theorem dX3_readSun_91 : decode cX3_readSun 91 = .ok (.return_, 1) := by decide +kernel
theorem dX3_readPerson_0 : decode cX3_readPerson 0 = .ok (.aload_n 1, 1) := by decide +kernel
theorem dX3_readPerson_1 : decode cX3_readPerson 1 = .ok (.getfield 118, 3) := by decide +kernel
theorem dX3_readPerson_4 : decode cX3_readPerson 4 = .ok (.bipush 6, 2) := by decide +kernel
theorem dX3_readPerson_6 : decode cX3_readPerson 6 = .ok (.if_icmp .lt 9, 3) := by decide +kernel
theorem dX3_readPerson_9 : decode cX3_readPerson 9 = .ok (.aload_n 0, 1) := by decide +kernel
theorem dX3_readPerson_10 : decode cX3_readPerson 10 = .ok (.iconst 3, 1) := by decide +kernel
theorem dX3_readPerson_11 : decode cX3_readPerson 11 = .ok (.iload_n 2, 1) := by decide +kernel
theorem dX3_readPerson_12 : decode cX3_readPerson 12 = .ok (.invokevirtual 83, 3) := by decide +kernel
theorem dX3_readPerson_15 : decode cX3_readPerson 15 = .ok (.aload_n 0, 1) := by decide +kernel
theorem dX3_readPerson_16 : decode cX3_readPerson 16 = .ok (.aload_n 1, 1) := by decide +kernel
theorem dX3_readPerson_17 : decode cX3_readPerson 17 = .ok (.invokevirtual 100, 3) := by decide +kernel
theorem dX3_readPerson_20 : decode cX3_readPerson 20 = .ok (.istore_n 3, 1) := by decide +kernel
theorem dX3_readPerson_21 : decode cX3_readPerson 21 = .ok (.aload_n 0, 1) := by decide +kernel
theorem dX3_readPerson_22 : decode cX3_readPerson 22 = .ok (.iconst 1, 1) := by decide +kernel
theorem dX3_readPerson_23 : decode cX3_readPerson 23 = .ok (.bipush 9, 2) := by decide +kernel
theorem dX3_readPerson_25 : decode cX3_readPerson 25 = .ok (.invokevirtual 87, 3) := by decide +kernel
theorem dX3_readPerson_28 : decode cX3_readPerson 28 = .ok (.istore 4, 2) := by decide +kernel
theorem dX3_readPerson_30 : decode cX3_readPerson 30 = .ok (.aload_n 0, 1) := by decide +kernel
theorem dX3_readPerson_31 : decode cX3_readPerson 31 = .ok (.invokevirtual 94, 3) := by decide +kernel
theorem dX3_readPerson_34 : decode cX3_readPerson 34 = .ok (.aload_n 0, 1) := by decide +kernel
theorem dX3_readPerson_35 : decode cX3_readPerson 35 = .ok (.getfield 25, 3) := by decide +kernel
theorem dX3_readPerson_38 : decode cX3_readPerson 38 = .ok (.ifCond .ne 10, 3) := by decide +kernel
theorem dX3_readPerson_41 : decode cX3_readPerson 41 = .ok (.aload_n 1, 1) := by decide +kernel
theorem dX3_readPerson_42 : decode cX3_readPerson 42 = .ok (.iload_n 3, 1) := by decide +kernel
theorem dX3_readPerson_43 : decode cX3_readPerson 43 = .ok (.iload 4, 2) := by decide +kernel
theorem dX3_readPerson_45 : decode cX3_readPerson 45 = .ok (.invokevirtual 121, 3) := by decide +kernel
theorem dX3_readPerson_48 : decode cX3_readPerson 48 = .ok (.return_, 1) := by decide +kernel
theorem dX3_readGrey_0 : decode cX3_readGrey 0 = .ok (.aload_n 0, 1) := by decide +kernel
theorem dX3_readGrey_1 : decode cX3_readGrey 1 = .ok (.getfield 31, 3) := by decide +kernel
theorem dX3_readGrey_4 : decode cX3_readGrey 4 = .ok (.ifCond .eq 9, 3) := by decide +kernel
theorem dX3_readGrey_7 : decode cX3_readGrey 7 = .ok (.aload_n 0, 1) := by decide +kernel
theorem dX3_readGrey_8 : decode cX3_readGrey 8 = .ok (.iconst 3, 1) := by decide +kernel
theorem dX3_readGrey_9 : decode cX3_readGrey 9 = .ok (.iload_n 2, 1) := by decide +kernel
theorem dX3_readGrey_10 : decode cX3_readGrey 10 = .ok (.invokevirtual 83, 3) := by decide +kernel
theorem dX3_readGrey_13 : decode cX3_readGrey 13 = .ok (.aload_n 0, 1) := by decide +kernel
theorem dX3_readGrey_14 : decode cX3_readGrey 14 = .ok (.iconst 0, 1) := by decide +kernel
theorem dX3_readGrey_15 : decode cX3_readGrey 15 = .ok (.bipush 100, 2) := by decide +kernel
theorem dX3_readGrey_17 : decode cX3_readGrey 17 = .ok (.invokevirtual 87, 3) := by decide +kernel
theorem dX3_readGrey_20 : decode cX3_readGrey 20 = .ok (.istore_n 3, 1) := by decide +kernel
theorem dX3_readGrey_21 : decode cX3_readGrey 21 = .ok (.aload_n 0, 1) := by decide +kernel
theorem dX3_readGrey_22 : decode cX3_readGrey 22 = .ok (.invokevirtual 94, 3) := by decide +kernel
theorem dX3_readGrey_25 : decode cX3_readGrey 25 = .ok (.aload_n 0, 1) := by decide +kernel
theorem dX3_readGrey_26 : decode cX3_readGrey 26 = .ok (.getfield 25, 3) := by decide +kernel
theorem dX3_readGrey_29 : decode cX3_readGrey 29 = .ok (.ifCond .ne 13, 3) := by decide +kernel
theorem dX3_readGrey_32 : decode cX3_readGrey 32 = .ok (.aload_n 1, 1) := by decide +kernel
theorem dX3_readGrey_33 : decode cX3_readGrey 33 = .ok (.iload_n 3, 1) := by decide +kernel
theorem dX3_readGrey_34 : decode cX3_readGrey 34 = .ok (.putfield 124, 3) := by decide +kernel
theorem dX3_readGrey_37 : decode cX3_readGrey 37 = .ok (.aload_n 0, 1) := by decide +kernel
theorem dX3_readGrey_38 : decode cX3_readGrey 38 = .ok (.iconst 1, 1) := by decide +kernel
theorem dX3_readGrey_39 : decode cX3_readGrey 39 = .ok (.putfield 31, 3) := by decide +kernel
theorem dX3_readGrey_42 : decode cX3_readGrey 42 = .ok (.return_, 1) := by decide +kernel
theorem dX3_readCell_0 : decode cX3_readCell 0 = .ok (.aload_n 0, 1) := by decide +kernel
theorem dX3_readCell_1 : decode cX3_readCell 1 = .ok (.iconst 0, 1) := by decide +kernel
theorem dX3_readCell_2 : decode cX3_readCell 2 = .ok (.aload_n 1, 1) := by decide +kernel
theorem dX3_readCell_3 : decode cX3_readCell 3 = .ok (.getfield 127, 3) := by decide +kernel
theorem dX3_readCell_6 : decode cX3_readCell 6 = .ok (.iconst 1, 1) := by decide +kernel
theorem dX3_readCell_7 : decode cX3_readCell 7 = .ok (.isub, 1) := by decide +kernel
theorem dX3_readCell_8 : decode cX3_readCell 8 = .ok (.invokevirtual 87, 3) := by decide +kernel
theorem dX3_readCell_11 : decode cX3_readCell 11 = .ok (.istore_n 2, 1) := by decide +kernel
theorem dX3_readCell_12 : decode cX3_readCell 12 = .ok (.aload_n 0, 1) := by decide +kernel
theorem dX3_readCell_13 : decode cX3_readCell 13 = .ok (.iconst 0, 1) := by decide +kernel
theorem dX3_readCell_14 : decode cX3_readCell 14 = .ok (.aload_n 1, 1) := by decide +kernel
theorem dX3_readCell_15 : decode cX3_readCell 15 = .ok (.getfield 130, 3) := by decide +kernel
theorem dX3_readCell_18 : decode cX3_readCell 18 = .ok (.iconst 1, 1) := by decide +kernel
theorem dX3_readCell_19 : decode cX3_readCell 19 = .ok (.isub, 1) := by decide +kernel
theorem dX3_readCell_20 : decode cX3_readCell 20 = .ok (.invokevirtual 87, 3) := by decide +kernel
theorem dX3_readCell_23 : decode cX3_readCell 23 = .ok (.istore_n 3, 1) := by decide +kernel
theorem dX3_readCell_24 : decode cX3_readCell 24 = .ok (.aload_n 1, 1) := by decide +kernel
theorem dX3_readCell_25 : decode cX3_readCell 25 = .ok (.iload_n 2, 1) := by decide +kernel
theorem dX3_readCell_26 : decode cX3_readCell 26 = .ok (.iload_n 3, 1) := by decide +kernel
theorem dX3_readCell_27 : decode cX3_readCell 27 = .ok (.invokevirtual 133, 3) := by decide +kernel
theorem dX3_readCell_30 : decode cX3_readCell 30 = .ok (.istore 4, 2) := by decide +kernel
theorem dX3_readCell_32 : decode cX3_readCell 32 = .ok (.aload_n 1, 1) := by decide +kernel
theorem dX3_readCell_33 : decode cX3_readCell 33 = .ok (.iload 4, 2) := by decide +kernel
theorem dX3_readCell_35 : decode cX3_readCell 35 = .ok (.invokevirtual 136, 3) := by decide +kernel
theorem dX3_readCell_38 : decode cX3_readCell 38 = .ok (.ifCond .eq 22, 3) := by decide +kernel
theorem dX3_readCell_41 : decode cX3_readCell 41 = .ok (.aload_n 1, 1) := by decide +kernel
theorem dX3_readCell_42 : decode cX3_readCell 42 = .ok (.getfield 139, 3) := by decide +kernel
theorem dX3_readCell_45 : decode cX3_readCell 45 = .ok (.iload 4, 2) := by decide +kernel
theorem dX3_readCell_47 : decode cX3_readCell 47 = .ok (.iaload, 1) := by decide +kernel
theorem dX3_readCell_48 : decode cX3_readCell 48 = .ok (.ifCond .le 12, 3) := by decide +kernel
theorem dX3_readCell_51 : decode cX3_readCell 51 = .ok (.aload_n 0, 1) := by decide +kernel
theorem dX3_readCell_52 : decode cX3_readCell 52 = .ok (.iconst 4, 1) := by decide +kernel
theorem dX3_readCell_53 : decode cX3_readCell 53 = .ok (.aload_n 0, 1) := by decide +kernel
theorem dX3_readCell_54 : decode cX3_readCell 54 = .ok (.getfield 91, 3) := by decide +kernel
theorem dX3_readCell_57 : decode cX3_readCell 57 = .ok (.invokevirtual 83, 3) := by decide +kernel
theorem dX3_readCell_60 : decode cX3_readCell 60 = .ok (.iload 4, 2) := by decide +kernel
theorem dX3_readCell_62 : decode cX3_readCell 62 = .ok (.ireturn, 1) := by decide +kernel
theorem dX3_readNumber_0 : decode cX3_readNumber 0 = .ok (.aload_n 0, 1) := by decide +kernel
theorem dX3_readNumber_1 : decode cX3_readNumber 1 = .ok (.invokevirtual 40, 3) := by decide +kernel
theorem dX3_readNumber_4 : decode cX3_readNumber 4 = .ok (.aload_n 0, 1) := by decide +kernel
theorem dX3_readNumber_5 : decode cX3_readNumber 5 = .ok (.getfield 22, 3) := by decide +kernel
theorem dX3_readNumber_8 : decode cX3_readNumber 8 = .ok (.istore_n 3, 1) := by decide +kernel
theorem dX3_readNumber_9 : decode cX3_readNumber 9 = .ok (.iconst 0, 1) := by decide +kernel
theorem dX3_readNumber_10 : decode cX3_readNumber 10 = .ok (.istore 4, 2) := by decide +kernel
theorem dX3_readNumber_12 : decode cX3_readNumber 12 = .ok (.iconst 0, 1) := by decide +kernel
theorem dX3_readNumber_13 : decode cX3_readNumber 13 = .ok (.istore 5, 2) := by decide +kernel
theorem dX3_readNumber_15 : decode cX3_readNumber 15 = .ok (.iload 5, 2) := by decide +kernel
theorem dX3_readNumber_17 : decode cX3_readNumber 17 = .ok (.sipush 500, 3) := by decide +kernel
theorem dX3_readNumber_20 : decode cX3_readNumber 20 = .ok (.if_icmp .ge 60, 3) := by decide +kernel
theorem dX3_readNumber_23 : decode cX3_readNumber 23 = .ok (.aload_n 0, 1) := by decide +kernel
theorem dX3_readNumber_24 : decode cX3_readNumber 24 = .ok (.aload_n 0, 1) := by decide +kernel
theorem dX3_readNumber_25 : decode cX3_readNumber 25 = .ok (.getfield 22, 3) := by decide +kernel
theorem dX3_readNumber_28 : decode cX3_readNumber 28 = .ok (.invokevirtual 142, 3) := by decide +kernel
theorem dX3_readNumber_31 : decode cX3_readNumber 31 = .ok (.ifCond .eq 49, 3) := by decide +kernel
theorem dX3_readNumber_34 : decode cX3_readNumber 34 = .ok (.aload_n 0, 1) := by decide +kernel
theorem dX3_readNumber_35 : decode cX3_readNumber 35 = .ok (.getfield 22, 3) := by decide +kernel
theorem dX3_readNumber_38 : decode cX3_readNumber 38 = .ok (.iload_n 3, 1) := by decide +kernel
theorem dX3_readNumber_39 : decode cX3_readNumber 39 = .ok (.isub, 1) := by decide +kernel
theorem dX3_readNumber_40 : decode cX3_readNumber 40 = .ok (.iconst 3, 1) := by decide +kernel
theorem dX3_readNumber_41 : decode cX3_readNumber 41 = .ok (.if_icmp .ge 23, 3) := by decide +kernel
theorem dX3_readNumber_44 : decode cX3_readNumber 44 = .ok (.bipush 10, 2) := by decide +kernel
theorem dX3_readNumber_46 : decode cX3_readNumber 46 = .ok (.iload 4, 2) := by decide +kernel
theorem dX3_readNumber_48 : decode cX3_readNumber 48 = .ok (.imul, 1) := by decide +kernel
theorem dX3_readNumber_49 : decode cX3_readNumber 49 = .ok (.aload_n 0, 1) := by decide +kernel
theorem dX3_readNumber_50 : decode cX3_readNumber 50 = .ok (.getfield 9, 3) := by decide +kernel
theorem dX3_readNumber_53 : decode cX3_readNumber 53 = .ok (.aload_n 0, 1) := by decide +kernel
theorem dX3_readNumber_54 : decode cX3_readNumber 54 = .ok (.getfield 22, 3) := by decide +kernel
theorem dX3_readNumber_57 : decode cX3_readNumber 57 = .ok (.baload, 1) := by decide +kernel
theorem dX3_readNumber_58 : decode cX3_readNumber 58 = .ok (.iadd, 1) := by decide +kernel
theorem dX3_readNumber_59 : decode cX3_readNumber 59 = .ok (.bipush 48, 2) := by decide +kernel
theorem dX3_readNumber_61 : decode cX3_readNumber 61 = .ok (.isub, 1) := by decide +kernel
theorem dX3_readNumber_62 : decode cX3_readNumber 62 = .ok (.istore 4, 2) := by decide +kernel
theorem dX3_readNumber_64 : decode cX3_readNumber 64 = .ok (.aload_n 0, 1) := by decide +kernel
theorem dX3_readNumber_65 : decode cX3_readNumber 65 = .ok (.dup, 1) := by decide +kernel
theorem dX3_readNumber_66 : decode cX3_readNumber 66 = .ok (.getfield 22, 3) := by decide +kernel
theorem dX3_readNumber_69 : decode cX3_readNumber 69 = .ok (.iconst 1, 1) := by decide +kernel
theorem dX3_readNumber_70 : decode cX3_readNumber 70 = .ok (.iadd, 1) := by decide +kernel
theorem dX3_readNumber_71 : decode cX3_readNumber 71 = .ok (.putfield 22, 3) := by decide +kernel
theorem dX3_readNumber_74 : decode cX3_readNumber 74 = .ok (.iinc 5 1, 3) := by decide +kernel
theorem dX3_readNumber_77 : decode cX3_readNumber 77 = .ok (.goto (-62), 3) := by decide +kernel
theorem dX3_readNumber_80 : decode cX3_readNumber 80 = .ok (.aload_n 0, 1) := by decide +kernel
theorem dX3_readNumber_81 : decode cX3_readNumber 81 = .ok (.iload_n 3, 1) := by decide +kernel
theorem dX3_readNumber_82 : decode cX3_readNumber 82 = .ok (.putfield 91, 3) := by decide +kernel
theorem dX3_readNumber_85 : decode cX3_readNumber 85 = .ok (.aload_n 0, 1) := by decide +kernel
theorem dX3_readNumber_86 : decode cX3_readNumber 86 = .ok (.getfield 22, 3) := by decide +kernel
theorem dX3_readNumber_89 : decode cX3_readNumber 89 = .ok (.iload_n 3, 1) := by decide +kernel
theorem dX3_readNumber_90 : decode cX3_readNumber 90 = .ok (.if_icmp .ne 12, 3) := by decide +kernel
theorem dX3_readNumber_93 : decode cX3_readNumber 93 = .ok (.aload_n 0, 1) := by decide +kernel
theorem dX3_readNumber_94 : decode cX3_readNumber 94 = .ok (.iconst 1, 1) := by decide +kernel
theorem dX3_readNumber_95 : decode cX3_readNumber 95 = .ok (.iload_n 3, 1) := by decide +kernel
theorem dX3_readNumber_96 : decode cX3_readNumber 96 = .ok (.invokevirtual 83, 3) := by decide +kernel
theorem dX3_readNumber_99 : decode cX3_readNumber 99 = .ok (.goto 31, 3) := by decide +kernel
theorem dX3_readNumber_102 : decode cX3_readNumber 102 = .ok (.aload_n 0, 1) := by decide +kernel
theorem dX3_readNumber_103 : decode cX3_readNumber 103 = .ok (.getfield 22, 3) := by decide +kernel
theorem dX3_readNumber_106 : decode cX3_readNumber 106 = .ok (.iload_n 3, 1) := by decide +kernel
theorem dX3_readNumber_107 : decode cX3_readNumber 107 = .ok (.isub, 1) := by decide +kernel
theorem dX3_readNumber_108 : decode cX3_readNumber 108 = .ok (.iconst 3, 1) := by decide +kernel
theorem dX3_readNumber_109 : decode cX3_readNumber 109 = .ok (.if_icmp .gt 15, 3) := by decide +kernel
theorem dX3_readNumber_112 : decode cX3_readNumber 112 = .ok (.iload 4, 2) := by decide +kernel
theorem dX3_readNumber_114 : decode cX3_readNumber 114 = .ok (.iload_n 1, 1) := by decide +kernel
theorem dX3_readNumber_115 : decode cX3_readNumber 115 = .ok (.if_icmp .lt 9, 3) := by decide +kernel
theorem dX3_readNumber_118 : decode cX3_readNumber 118 = .ok (.iload 4, 2) := by decide +kernel
theorem dX3_readNumber_120 : decode cX3_readNumber 120 = .ok (.iload_n 2, 1) := by decide +kernel
theorem dX3_readNumber_121 : decode cX3_readNumber 121 = .ok (.if_icmp .le 9, 3) := by decide +kernel
theorem dX3_readNumber_124 : decode cX3_readNumber 124 = .ok (.aload_n 0, 1) := by decide +kernel
theorem dX3_readNumber_125 : decode cX3_readNumber 125 = .ok (.iconst 2, 1) := by decide +kernel
theorem dX3_readNumber_126 : decode cX3_readNumber 126 = .ok (.iload_n 3, 1) := by decide +kernel
theorem dX3_readNumber_127 : decode cX3_readNumber 127 = .ok (.invokevirtual 83, 3) := by decide +kernel
theorem dX3_readNumber_130 : decode cX3_readNumber 130 = .ok (.aload_n 0, 1) := by decide +kernel
theorem dX3_readNumber_131 : decode cX3_readNumber 131 = .ok (.getfield 25, 3) := by decide +kernel
theorem dX3_readNumber_134 : decode cX3_readNumber 134 = .ok (.ifCond .ne 8, 3) := by decide +kernel
theorem dX3_readNumber_137 : decode cX3_readNumber 137 = .ok (.iload 4, 2) := by decide +kernel
theorem dX3_readNumber_139 : decode cX3_readNumber 139 = .ok (.goto 4, 3) := by decide +kernel
theorem dX3_readNumber_142 : decode cX3_readNumber 142 = .ok (.iload_n 1, 1) := by decide +kernel
theorem dX3_readNumber_143 : decode cX3_readNumber 143 = .ok (.ireturn, 1) := by decide +kernel
theorem dX3_readEnd_0 : decode cX3_readEnd 0 = .ok (.aload_n 0, 1) := by decide +kernel
theorem dX3_readEnd_1 : decode cX3_readEnd 1 = .ok (.invokevirtual 40, 3) := by decide +kernel
theorem dX3_readEnd_4 : decode cX3_readEnd 4 = .ok (.aload_n 0, 1) := by decide +kernel
theorem dX3_readEnd_5 : decode cX3_readEnd 5 = .ok (.getfield 22, 3) := by decide +kernel
theorem dX3_readEnd_8 : decode cX3_readEnd 8 = .ok (.aload_n 0, 1) := by decide +kernel
theorem dX3_readEnd_9 : decode cX3_readEnd 9 = .ok (.getfield 19, 3) := by decide +kernel
theorem dX3_readEnd_12 : decode cX3_readEnd 12 = .ok (.if_icmp .ge 30, 3) := by decide +kernel
theorem dX3_readEnd_15 : decode cX3_readEnd 15 = .ok (.aload_n 0, 1) := by decide +kernel
theorem dX3_readEnd_16 : decode cX3_readEnd 16 = .ok (.getfield 9, 3) := by decide +kernel
theorem dX3_readEnd_19 : decode cX3_readEnd 19 = .ok (.aload_n 0, 1) := by decide +kernel
theorem dX3_readEnd_20 : decode cX3_readEnd 20 = .ok (.getfield 22, 3) := by decide +kernel
theorem dX3_readEnd_23 : decode cX3_readEnd 23 = .ok (.baload, 1) := by decide +kernel
theorem dX3_readEnd_24 : decode cX3_readEnd 24 = .ok (.bipush 59, 2) := by decide +kernel
theorem dX3_readEnd_26 : decode cX3_readEnd 26 = .ok (.if_icmp .ne 16, 3) := by decide +kernel
theorem dX3_readEnd_29 : decode cX3_readEnd 29 = .ok (.aload_n 0, 1) := by decide +kernel
theorem dX3_readEnd_30 : decode cX3_readEnd 30 = .ok (.dup, 1) := by decide +kernel
theorem dX3_readEnd_31 : decode cX3_readEnd 31 = .ok (.getfield 22, 3) := by decide +kernel
theorem dX3_readEnd_34 : decode cX3_readEnd 34 = .ok (.iconst 1, 1) := by decide +kernel
theorem dX3_readEnd_35 : decode cX3_readEnd 35 = .ok (.iadd, 1) := by decide +kernel
theorem dX3_readEnd_36 : decode cX3_readEnd 36 = .ok (.putfield 22, 3) := by decide +kernel
theorem dX3_readEnd_39 : decode cX3_readEnd 39 = .ok (.goto 12, 3) := by decide +kernel
theorem dX3_readEnd_42 : decode cX3_readEnd 42 = .ok (.aload_n 0, 1) := by decide +kernel
theorem dX3_readEnd_43 : decode cX3_readEnd 43 = .ok (.iconst 1, 1) := by decide +kernel
theorem dX3_readEnd_44 : decode cX3_readEnd 44 = .ok (.aload_n 0, 1) := by decide +kernel
theorem dX3_readEnd_45 : decode cX3_readEnd 45 = .ok (.getfield 22, 3) := by decide +kernel
theorem dX3_readEnd_48 : decode cX3_readEnd 48 = .ok (.invokevirtual 83, 3) := by decide +kernel
theorem dX3_readEnd_51 : decode cX3_readEnd 51 = .ok (.return_, 1) := by decide +kernel
theorem dX3_skipBlanks_0 : decode cX3_skipBlanks 0 = .ok (.iconst 0, 1) := by decide +kernel
theorem dX3_skipBlanks_1 : decode cX3_skipBlanks 1 = .ok (.istore_n 1, 1) := by decide +kernel
theorem dX3_skipBlanks_2 : decode cX3_skipBlanks 2 = .ok (.iload_n 1, 1) := by decide +kernel
theorem dX3_skipBlanks_3 : decode cX3_skipBlanks 3 = .ok (.sipush 500, 3) := by decide +kernel
theorem dX3_skipBlanks_6 : decode cX3_skipBlanks 6 = .ok (.if_icmp .ge 44, 3) := by decide +kernel
theorem dX3_skipBlanks_9 : decode cX3_skipBlanks 9 = .ok (.aload_n 0, 1) := by decide +kernel
theorem dX3_skipBlanks_10 : decode cX3_skipBlanks 10 = .ok (.getfield 22, 3) := by decide +kernel
theorem dX3_skipBlanks_13 : decode cX3_skipBlanks 13 = .ok (.aload_n 0, 1) := by decide +kernel
theorem dX3_skipBlanks_14 : decode cX3_skipBlanks 14 = .ok (.getfield 19, 3) := by decide +kernel
theorem dX3_skipBlanks_17 : decode cX3_skipBlanks 17 = .ok (.if_icmp .ge 33, 3) := by decide +kernel
theorem dX3_skipBlanks_20 : decode cX3_skipBlanks 20 = .ok (.aload_n 0, 1) := by decide +kernel
theorem dX3_skipBlanks_21 : decode cX3_skipBlanks 21 = .ok (.getfield 9, 3) := by decide +kernel
theorem dX3_skipBlanks_24 : decode cX3_skipBlanks 24 = .ok (.aload_n 0, 1) := by decide +kernel
theorem dX3_skipBlanks_25 : decode cX3_skipBlanks 25 = .ok (.getfield 22, 3) := by decide +kernel
theorem dX3_skipBlanks_28 : decode cX3_skipBlanks 28 = .ok (.baload, 1) := by decide +kernel
theorem dX3_skipBlanks_29 : decode cX3_skipBlanks 29 = .ok (.bipush 32, 2) := by decide +kernel
theorem dX3_skipBlanks_31 : decode cX3_skipBlanks 31 = .ok (.if_icmp .ne 19, 3) := by decide +kernel
theorem dX3_skipBlanks_34 : decode cX3_skipBlanks 34 = .ok (.aload_n 0, 1) := by decide +kernel
theorem dX3_skipBlanks_35 : decode cX3_skipBlanks 35 = .ok (.dup, 1) := by decide +kernel
theorem dX3_skipBlanks_36 : decode cX3_skipBlanks 36 = .ok (.getfield 22, 3) := by decide +kernel
theorem dX3_skipBlanks_39 : decode cX3_skipBlanks 39 = .ok (.iconst 1, 1) := by decide +kernel
theorem dX3_skipBlanks_40 : decode cX3_skipBlanks 40 = .ok (.iadd, 1) := by decide +kernel
theorem dX3_skipBlanks_41 : decode cX3_skipBlanks 41 = .ok (.putfield 22, 3) := by decide +kernel
theorem dX3_skipBlanks_44 : decode cX3_skipBlanks 44 = .ok (.iinc 1 1, 3) := by decide +kernel
theorem dX3_skipBlanks_47 : decode cX3_skipBlanks 47 = .ok (.goto (-45), 3) := by decide +kernel
theorem dX3_skipBlanks_50 : decode cX3_skipBlanks 50 = .ok (.return_, 1) := by decide +kernel
theorem dX3_skipLetters_0 : decode cX3_skipLetters 0 = .ok (.iconst 0, 1) := by decide +kernel
theorem dX3_skipLetters_1 : decode cX3_skipLetters 1 = .ok (.istore_n 1, 1) := by decide +kernel
theorem dX3_skipLetters_2 : decode cX3_skipLetters 2 = .ok (.iload_n 1, 1) := by decide +kernel
theorem dX3_skipLetters_3 : decode cX3_skipLetters 3 = .ok (.sipush 500, 3) := by decide +kernel
theorem dX3_skipLetters_6 : decode cX3_skipLetters 6 = .ok (.if_icmp .ge 58, 3) := by decide +kernel
theorem dX3_skipLetters_9 : decode cX3_skipLetters 9 = .ok (.aload_n 0, 1) := by decide +kernel
theorem dX3_skipLetters_10 : decode cX3_skipLetters 10 = .ok (.getfield 22, 3) := by decide +kernel
theorem dX3_skipLetters_13 : decode cX3_skipLetters 13 = .ok (.aload_n 0, 1) := by decide +kernel
theorem dX3_skipLetters_14 : decode cX3_skipLetters 14 = .ok (.getfield 19, 3) := by decide +kernel
theorem dX3_skipLetters_17 : decode cX3_skipLetters 17 = .ok (.if_icmp .ge 47, 3) := by decide +kernel
theorem dX3_skipLetters_20 : decode cX3_skipLetters 20 = .ok (.aload_n 0, 1) := by decide +kernel
theorem dX3_skipLetters_21 : decode cX3_skipLetters 21 = .ok (.getfield 9, 3) := by decide +kernel
theorem dX3_skipLetters_24 : decode cX3_skipLetters 24 = .ok (.aload_n 0, 1) := by decide +kernel
theorem dX3_skipLetters_25 : decode cX3_skipLetters 25 = .ok (.getfield 22, 3) := by decide +kernel
theorem dX3_skipLetters_28 : decode cX3_skipLetters 28 = .ok (.baload, 1) := by decide +kernel
theorem dX3_skipLetters_29 : decode cX3_skipLetters 29 = .ok (.bipush 97, 2) := by decide +kernel
theorem dX3_skipLetters_31 : decode cX3_skipLetters 31 = .ok (.if_icmp .lt 33, 3) := by decide +kernel
theorem dX3_skipLetters_34 : decode cX3_skipLetters 34 = .ok (.aload_n 0, 1) := by decide +kernel
theorem dX3_skipLetters_35 : decode cX3_skipLetters 35 = .ok (.getfield 9, 3) := by decide +kernel
theorem dX3_skipLetters_38 : decode cX3_skipLetters 38 = .ok (.aload_n 0, 1) := by decide +kernel
theorem dX3_skipLetters_39 : decode cX3_skipLetters 39 = .ok (.getfield 22, 3) := by decide +kernel
theorem dX3_skipLetters_42 : decode cX3_skipLetters 42 = .ok (.baload, 1) := by decide +kernel
theorem dX3_skipLetters_43 : decode cX3_skipLetters 43 = .ok (.bipush 122, 2) := by decide +kernel
theorem dX3_skipLetters_45 : decode cX3_skipLetters 45 = .ok (.if_icmp .gt 19, 3) := by decide +kernel
theorem dX3_skipLetters_48 : decode cX3_skipLetters 48 = .ok (.aload_n 0, 1) := by decide +kernel
theorem dX3_skipLetters_49 : decode cX3_skipLetters 49 = .ok (.dup, 1) := by decide +kernel
theorem dX3_skipLetters_50 : decode cX3_skipLetters 50 = .ok (.getfield 22, 3) := by decide +kernel
theorem dX3_skipLetters_53 : decode cX3_skipLetters 53 = .ok (.iconst 1, 1) := by decide +kernel
theorem dX3_skipLetters_54 : decode cX3_skipLetters 54 = .ok (.iadd, 1) := by decide +kernel
theorem dX3_skipLetters_55 : decode cX3_skipLetters 55 = .ok (.putfield 22, 3) := by decide +kernel
theorem dX3_skipLetters_58 : decode cX3_skipLetters 58 = .ok (.iinc 1 1, 3) := by decide +kernel
theorem dX3_skipLetters_61 : decode cX3_skipLetters 61 = .ok (.goto (-59), 3) := by decide +kernel
theorem dX3_skipLetters_64 : decode cX3_skipLetters 64 = .ok (.return_, 1) := by decide +kernel
theorem dX3_isFigure_0 : decode cX3_isFigure 0 = .ok (.iload_n 1, 1) := by decide +kernel
theorem dX3_isFigure_1 : decode cX3_isFigure 1 = .ok (.ifCond .lt 37, 3) := by decide +kernel
theorem dX3_isFigure_4 : decode cX3_isFigure 4 = .ok (.iload_n 1, 1) := by decide +kernel
theorem dX3_isFigure_5 : decode cX3_isFigure 5 = .ok (.aload_n 0, 1) := by decide +kernel
theorem dX3_isFigure_6 : decode cX3_isFigure 6 = .ok (.getfield 19, 3) := by decide +kernel
theorem dX3_isFigure_9 : decode cX3_isFigure 9 = .ok (.if_icmp .ge 29, 3) := by decide +kernel
theorem dX3_isFigure_12 : decode cX3_isFigure 12 = .ok (.aload_n 0, 1) := by decide +kernel
theorem dX3_isFigure_13 : decode cX3_isFigure 13 = .ok (.getfield 9, 3) := by decide +kernel
theorem dX3_isFigure_16 : decode cX3_isFigure 16 = .ok (.iload_n 1, 1) := by decide +kernel
theorem dX3_isFigure_17 : decode cX3_isFigure 17 = .ok (.baload, 1) := by decide +kernel
theorem dX3_isFigure_18 : decode cX3_isFigure 18 = .ok (.bipush 48, 2) := by decide +kernel
theorem dX3_isFigure_20 : decode cX3_isFigure 20 = .ok (.if_icmp .lt 18, 3) := by decide +kernel
theorem dX3_isFigure_23 : decode cX3_isFigure 23 = .ok (.aload_n 0, 1) := by decide +kernel
theorem dX3_isFigure_24 : decode cX3_isFigure 24 = .ok (.getfield 9, 3) := by decide +kernel
theorem dX3_isFigure_27 : decode cX3_isFigure 27 = .ok (.iload_n 1, 1) := by decide +kernel
theorem dX3_isFigure_28 : decode cX3_isFigure 28 = .ok (.baload, 1) := by decide +kernel
theorem dX3_isFigure_29 : decode cX3_isFigure 29 = .ok (.bipush 57, 2) := by decide +kernel
theorem dX3_isFigure_31 : decode cX3_isFigure 31 = .ok (.if_icmp .gt 7, 3) := by decide +kernel
theorem dX3_isFigure_34 : decode cX3_isFigure 34 = .ok (.iconst 1, 1) := by decide +kernel
theorem dX3_isFigure_35 : decode cX3_isFigure 35 = .ok (.goto 4, 3) := by decide +kernel
theorem dX3_isFigure_38 : decode cX3_isFigure 38 = .ok (.iconst 0, 1) := by decide +kernel
theorem dX3_isFigure_39 : decode cX3_isFigure 39 = .ok (.ireturn, 1) := by decide +kernel
theorem dX3_isWord_0 : decode cX3_isWord 0 = .ok (.iload_n 1, 1) := by decide +kernel
theorem dX3_isWord_1 : decode cX3_isWord 1 = .ok (.ifCond .lt 16, 3) := by decide +kernel
theorem dX3_isWord_4 : decode cX3_isWord 4 = .ok (.aload_n 0, 1) := by decide +kernel
theorem dX3_isWord_5 : decode cX3_isWord 5 = .ok (.getfield 22, 3) := by decide +kernel
theorem dX3_isWord_8 : decode cX3_isWord 8 = .ok (.iload_n 1, 1) := by decide +kernel
theorem dX3_isWord_9 : decode cX3_isWord 9 = .ok (.isub, 1) := by decide +kernel
theorem dX3_isWord_10 : decode cX3_isWord 10 = .ok (.aload_n 2, 1) := by decide +kernel
theorem dX3_isWord_11 : decode cX3_isWord 11 = .ok (.invokevirtual 145, 3) := by decide +kernel
theorem dX3_isWord_14 : decode cX3_isWord 14 = .ok (.if_icmp .eq 5, 3) := by decide +kernel
theorem dX3_isWord_17 : decode cX3_isWord 17 = .ok (.iconst 0, 1) := by decide +kernel
theorem dX3_isWord_18 : decode cX3_isWord 18 = .ok (.ireturn, 1) := by decide +kernel
theorem dX3_isWord_19 : decode cX3_isWord 19 = .ok (.iconst 0, 1) := by decide +kernel
theorem dX3_isWord_20 : decode cX3_isWord 20 = .ok (.istore_n 3, 1) := by decide +kernel
theorem dX3_isWord_21 : decode cX3_isWord 21 = .ok (.iload_n 3, 1) := by decide +kernel
theorem dX3_isWord_22 : decode cX3_isWord 22 = .ok (.aload_n 2, 1) := by decide +kernel
theorem dX3_isWord_23 : decode cX3_isWord 23 = .ok (.invokevirtual 145, 3) := by decide +kernel
theorem dX3_isWord_26 : decode cX3_isWord 26 = .ok (.if_icmp .ge 37, 3) := by decide +kernel
theorem dX3_isWord_29 : decode cX3_isWord 29 = .ok (.iload_n 1, 1) := by decide +kernel
theorem dX3_isWord_30 : decode cX3_isWord 30 = .ok (.iload_n 3, 1) := by decide +kernel
theorem dX3_isWord_31 : decode cX3_isWord 31 = .ok (.iadd, 1) := by decide +kernel
theorem dX3_isWord_32 : decode cX3_isWord 32 = .ok (.aload_n 0, 1) := by decide +kernel
theorem dX3_isWord_33 : decode cX3_isWord 33 = .ok (.getfield 19, 3) := by decide +kernel
theorem dX3_isWord_36 : decode cX3_isWord 36 = .ok (.if_icmp .ge 27, 3) := by decide +kernel
theorem dX3_isWord_39 : decode cX3_isWord 39 = .ok (.aload_n 0, 1) := by decide +kernel
theorem dX3_isWord_40 : decode cX3_isWord 40 = .ok (.getfield 9, 3) := by decide +kernel
theorem dX3_isWord_43 : decode cX3_isWord 43 = .ok (.iload_n 1, 1) := by decide +kernel
theorem dX3_isWord_44 : decode cX3_isWord 44 = .ok (.iload_n 3, 1) := by decide +kernel
theorem dX3_isWord_45 : decode cX3_isWord 45 = .ok (.iadd, 1) := by decide +kernel
theorem dX3_isWord_46 : decode cX3_isWord 46 = .ok (.baload, 1) := by decide +kernel
theorem dX3_isWord_47 : decode cX3_isWord 47 = .ok (.aload_n 2, 1) := by decide +kernel
theorem dX3_isWord_48 : decode cX3_isWord 48 = .ok (.iload_n 3, 1) := by decide +kernel
theorem dX3_isWord_49 : decode cX3_isWord 49 = .ok (.invokevirtual 150, 3) := by decide +kernel
theorem dX3_isWord_52 : decode cX3_isWord 52 = .ok (.if_icmp .eq 5, 3) := by decide +kernel
theorem dX3_isWord_55 : decode cX3_isWord 55 = .ok (.iconst 0, 1) := by decide +kernel
theorem dX3_isWord_56 : decode cX3_isWord 56 = .ok (.ireturn, 1) := by decide +kernel
theorem dX3_isWord_57 : decode cX3_isWord 57 = .ok (.iinc 3 1, 3) := by decide +kernel
theorem dX3_isWord_60 : decode cX3_isWord 60 = .ok (.goto (-39), 3) := by decide +kernel
theorem dX3_isWord_63 : decode cX3_isWord 63 = .ok (.iconst 1, 1) := by decide +kernel
theorem dX3_isWord_64 : decode cX3_isWord 64 = .ok (.ireturn, 1) := by decide +kernel
theorem dX3_fail_0 : decode cX3_fail 0 = .ok (.aload_n 0, 1) := by decide +kernel
theorem dX3_fail_1 : decode cX3_fail 1 = .ok (.getfield 25, 3) := by decide +kernel
theorem dX3_fail_4 : decode cX3_fail 4 = .ok (.ifCond .ne 13, 3) := by decide +kernel
theorem dX3_fail_7 : decode cX3_fail 7 = .ok (.aload_n 0, 1) := by decide +kernel
theorem dX3_fail_8 : decode cX3_fail 8 = .ok (.iload_n 1, 1) := by decide +kernel
theorem dX3_fail_9 : decode cX3_fail 9 = .ok (.putfield 25, 3) := by decide +kernel
theorem dX3_fail_12 : decode cX3_fail 12 = .ok (.aload_n 0, 1) := by decide +kernel
theorem dX3_fail_13 : decode cX3_fail 13 = .ok (.iload_n 2, 1) := by decide +kernel
theorem dX3_fail_14 : decode cX3_fail 14 = .ok (.putfield 15, 3) := by decide +kernel
theorem dX3_fail_17 : decode cX3_fail 17 = .ok (.return_, 1) := by decide +kernel
theorem dX4_init_0 : decode cX4_init 0 = .ok (.aload_n 0, 1) := by decide +kernel
theorem dX4_init_1 : decode cX4_init 1 = .ok (.invokespecial 3, 3) := by decide +kernel
theorem dX4_init_4 : decode cX4_init 4 = .ok (.iload_n 1, 1) := by decide +kernel
theorem dX4_init_5 : decode cX4_init 5 = .ok (.ifCond .ge 7, 3) := by decide +kernel
theorem dX4_init_8 : decode cX4_init 8 = .ok (.iconst 0, 1) := by decide +kernel
theorem dX4_init_9 : decode cX4_init 9 = .ok (.goto 4, 3) := by decide +kernel
theorem dX4_init_12 : decode cX4_init 12 = .ok (.iload_n 1, 1) := by decide +kernel
theorem dX4_init_13 : decode cX4_init 13 = .ok (.istore_n 2, 1) := by decide +kernel
theorem dX4_init_14 : decode cX4_init 14 = .ok (.aload_n 0, 1) := by decide +kernel
theorem dX4_init_15 : decode cX4_init 15 = .ok (.iload_n 2, 1) := by decide +kernel
theorem dX4_init_16 : decode cX4_init 16 = .ok (.newarray .int, 2) := by decide +kernel
theorem dX4_init_18 : decode cX4_init 18 = .ok (.putfield 9, 3) := by decide +kernel
theorem dX4_init_21 : decode cX4_init 21 = .ok (.aload_n 0, 1) := by decide +kernel
theorem dX4_init_22 : decode cX4_init 22 = .ok (.iload_n 2, 1) := by decide +kernel
theorem dX4_init_23 : decode cX4_init 23 = .ok (.newarray .int, 2) := by decide +kernel
theorem dX4_init_25 : decode cX4_init 25 = .ok (.putfield 15, 3) := by decide +kernel
theorem dX4_init_28 : decode cX4_init 28 = .ok (.aload_n 0, 1) := by decide +kernel
theorem dX4_init_29 : decode cX4_init 29 = .ok (.iload_n 2, 1) := by decide +kernel
theorem dX4_init_30 : decode cX4_init 30 = .ok (.newarray .int, 2) := by decide +kernel
theorem dX4_init_32 : decode cX4_init 32 = .ok (.putfield 18, 3) := by decide +kernel
theorem dX4_init_35 : decode cX4_init 35 = .ok (.return_, 1) := by decide +kernel
theorem dX4_add_0 : decode cX4_add 0 = .ok (.aload_n 0, 1) := by decide +kernel
theorem dX4_add_1 : decode cX4_add 1 = .ok (.getfield 21, 3) := by decide +kernel
theorem dX4_add_4 : decode cX4_add 4 = .ok (.aload_n 0, 1) := by decide +kernel
theorem dX4_add_5 : decode cX4_add 5 = .ok (.getfield 9, 3) := by decide +kernel
theorem dX4_add_8 : decode cX4_add 8 = .ok (.arraylength, 1) := by decide +kernel
theorem dX4_add_9 : decode cX4_add 9 = .ok (.if_icmp .lt 5, 3) := by decide +kernel
theorem dX4_add_12 : decode cX4_add 12 = .ok (.iconst 0, 1) := by decide +kernel
theorem dX4_add_13 : decode cX4_add 13 = .ok (.ireturn, 1) := by decide +kernel
theorem dX4_add_14 : decode cX4_add 14 = .ok (.aload_n 0, 1) := by decide +kernel
theorem dX4_add_15 : decode cX4_add 15 = .ok (.getfield 9, 3) := by decide +kernel
theorem dX4_add_18 : decode cX4_add 18 = .ok (.aload_n 0, 1) := by decide +kernel
theorem dX4_add_19 : decode cX4_add 19 = .ok (.getfield 21, 3) := by decide +kernel
theorem dX4_add_22 : decode cX4_add 22 = .ok (.iload_n 1, 1) := by decide +kernel
theorem dX4_add_23 : decode cX4_add 23 = .ok (.iastore, 1) := by decide +kernel
theorem dX4_add_24 : decode cX4_add 24 = .ok (.aload_n 0, 1) := by decide +kernel
theorem dX4_add_25 : decode cX4_add 25 = .ok (.getfield 15, 3) := by decide +kernel
theorem dX4_add_28 : decode cX4_add 28 = .ok (.aload_n 0, 1) := by decide +kernel
theorem dX4_add_29 : decode cX4_add 29 = .ok (.getfield 21, 3) := by decide +kernel
theorem dX4_add_32 : decode cX4_add 32 = .ok (.iload_n 2, 1) := by decide +kernel
theorem dX4_add_33 : decode cX4_add 33 = .ok (.iastore, 1) := by decide +kernel
theorem dX4_add_34 : decode cX4_add 34 = .ok (.aload_n 0, 1) := by decide +kernel
theorem dX4_add_35 : decode cX4_add 35 = .ok (.getfield 18, 3) := by decide +kernel
theorem dX4_add_38 : decode cX4_add 38 = .ok (.aload_n 0, 1) := by decide +kernel
theorem dX4_add_39 : decode cX4_add 39 = .ok (.getfield 21, 3) := by decide +kernel
theorem dX4_add_42 : decode cX4_add 42 = .ok (.iload_n 3, 1) := by decide +kernel
theorem dX4_add_43 : decode cX4_add 43 = .ok (.iastore, 1) := by decide +kernel
theorem dX4_add_44 : decode cX4_add 44 = .ok (.aload_n 0, 1) := by decide +kernel
theorem dX4_add_45 : decode cX4_add 45 = .ok (.dup, 1) := by decide +kernel
theorem dX4_add_46 : decode cX4_add 46 = .ok (.getfield 21, 3) := by decide +kernel
theorem dX4_add_49 : decode cX4_add 49 = .ok (.iconst 1, 1) := by decide +kernel
theorem dX4_add_50 : decode cX4_add 50 = .ok (.iadd, 1) := by decide +kernel
theorem dX4_add_51 : decode cX4_add 51 = .ok (.putfield 21, 3) := by decide +kernel
theorem dX4_add_54 : decode cX4_add 54 = .ok (.iconst 1, 1) := by decide +kernel
theorem dX4_add_55 : decode cX4_add 55 = .ok (.ireturn, 1) := by decide +kernel
theorem dX4_clear_0 : decode cX4_clear 0 = .ok (.aload_n 0, 1) := by decide +kernel
theorem dX4_clear_1 : decode cX4_clear 1 = .ok (.iconst 0, 1) := by decide +kernel
theorem dX4_clear_2 : decode cX4_clear 2 = .ok (.putfield 21, 3) := by decide +kernel
theorem dX4_clear_5 : decode cX4_clear 5 = .ok (.return_, 1) := by decide +kernel
theorem dX4_first_0 : decode cX4_first 0 = .ok (.iload_n 1, 1) := by decide +kernel
theorem dX4_first_1 : decode cX4_first 1 = .ok (.ifCond .lt 20, 3) := by decide +kernel
theorem dX4_first_4 : decode cX4_first 4 = .ok (.iload_n 1, 1) := by decide +kernel
theorem dX4_first_5 : decode cX4_first 5 = .ok (.aload_n 0, 1) := by decide +kernel
theorem dX4_first_6 : decode cX4_first 6 = .ok (.getfield 21, 3) := by decide +kernel
theorem dX4_first_9 : decode cX4_first 9 = .ok (.if_icmp .ge 12, 3) := by decide +kernel
theorem dX4_first_12 : decode cX4_first 12 = .ok (.aload_n 0, 1) := by decide +kernel
theorem dX4_first_13 : decode cX4_first 13 = .ok (.getfield 9, 3) := by decide +kernel
theorem dX4_first_16 : decode cX4_first 16 = .ok (.iload_n 1, 1) := by decide +kernel
theorem dX4_first_17 : decode cX4_first 17 = .ok (.iaload, 1) := by decide +kernel
theorem dX4_first_18 : decode cX4_first 18 = .ok (.goto 4, 3) := by decide +kernel
theorem dX4_first_21 : decode cX4_first 21 = .ok (.iconst (-1), 1) := by decide +kernel
theorem dX4_first_22 : decode cX4_first 22 = .ok (.ireturn, 1) := by decide +kernel
theorem dX4_second_0 : decode cX4_second 0 = .ok (.iload_n 1, 1) := by decide +kernel
theorem dX4_second_1 : decode cX4_second 1 = .ok (.ifCond .lt 20, 3) := by decide +kernel
theorem dX4_second_4 : decode cX4_second 4 = .ok (.iload_n 1, 1) := by decide +kernel
theorem dX4_second_5 : decode cX4_second 5 = .ok (.aload_n 0, 1) := by decide +kernel
theorem dX4_second_6 : decode cX4_second 6 = .ok (.getfield 21, 3) := by decide +kernel
theorem dX4_second_9 : decode cX4_second 9 = .ok (.if_icmp .ge 12, 3) := by decide +kernel
theorem dX4_second_12 : decode cX4_second 12 = .ok (.aload_n 0, 1) := by decide +kernel
theorem dX4_second_13 : decode cX4_second 13 = .ok (.getfield 15, 3) := by decide +kernel
theorem dX4_second_16 : decode cX4_second 16 = .ok (.iload_n 1, 1) := by decide +kernel
theorem dX4_second_17 : decode cX4_second 17 = .ok (.iaload, 1) := by decide +kernel
theorem dX4_second_18 : decode cX4_second 18 = .ok (.goto 4, 3) := by decide +kernel
theorem dX4_second_21 : decode cX4_second 21 = .ok (.iconst (-1), 1) := by decide +kernel
theorem dX4_second_22 : decode cX4_second 22 = .ok (.ireturn, 1) := by decide +kernel
theorem dX4_third_0 : decode cX4_third 0 = .ok (.iload_n 1, 1) := by decide +kernel
theorem dX4_third_1 : decode cX4_third 1 = .ok (.ifCond .lt 20, 3) := by decide +kernel
theorem dX4_third_4 : decode cX4_third 4 = .ok (.iload_n 1, 1) := by decide +kernel
theorem dX4_third_5 : decode cX4_third 5 = .ok (.aload_n 0, 1) := by decide +kernel
theorem dX4_third_6 : decode cX4_third 6 = .ok (.getfield 21, 3) := by decide +kernel
theorem dX4_third_9 : decode cX4_third 9 = .ok (.if_icmp .ge 12, 3) := by decide +kernel
theorem dX4_third_12 : decode cX4_third 12 = .ok (.aload_n 0, 1) := by decide +kernel
theorem dX4_third_13 : decode cX4_third 13 = .ok (.getfield 18, 3) := by decide +kernel
theorem dX4_third_16 : decode cX4_third 16 = .ok (.iload_n 1, 1) := by decide +kernel
theorem dX4_third_17 : decode cX4_third 17 = .ok (.iaload, 1) := by decide +kernel
theorem dX4_third_18 : decode cX4_third 18 = .ok (.goto 4, 3) := by decide +kernel
theorem dX4_third_21 : decode cX4_third 21 = .ok (.iconst (-1), 1) := by decide +kernel
theorem dX4_third_22 : decode cX4_third 22 = .ok (.ireturn, 1) := by decide +kernel
theorem dX5_init_0 : decode cX5_init 0 = .ok (.aload_n 0, 1) := by decide +kernel
theorem dX5_init_1 : decode cX5_init 1 = .ok (.invokespecial 3, 3) := by decide +kernel
theorem dX5_init_4 : decode cX5_init 4 = .ok (.aload_n 0, 1) := by decide +kernel
theorem dX5_init_5 : decode cX5_init 5 = .ok (.bipush 6, 2) := by decide +kernel
theorem dX5_init_7 : decode cX5_init 7 = .ok (.newarray .long, 2) := by decide +kernel
theorem dX5_init_9 : decode cX5_init 9 = .ok (.putfield 9, 3) := by decide +kernel
theorem dX5_init_12 : decode cX5_init 12 = .ok (.aload_n 0, 1) := by decide +kernel
theorem dX5_init_13 : decode cX5_init 13 = .ok (.aload_n 1, 1) := by decide +kernel
theorem dX5_init_14 : decode cX5_init 14 = .ok (.putfield 15, 3) := by decide +kernel
theorem dX5_init_17 : decode cX5_init 17 = .ok (.aload_n 0, 1) := by decide +kernel
theorem dX5_init_18 : decode cX5_init 18 = .ok (.aload_n 2, 1) := by decide +kernel
theorem dX5_init_19 : decode cX5_init 19 = .ok (.putfield 19, 3) := by decide +kernel
theorem dX5_init_22 : decode cX5_init 22 = .ok (.return_, 1) := by decide +kernel
theorem dX5_darken_0 : decode cX5_darken 0 = .ok (.iconst 0, 1) := by decide +kernel
theorem dX5_darken_1 : decode cX5_darken 1 = .ok (.istore_n 1, 1) := by decide +kernel
theorem dX5_darken_2 : decode cX5_darken 2 = .ok (.iload_n 1, 1) := by decide +kernel
theorem dX5_darken_3 : decode cX5_darken 3 = .ok (.aload_n 0, 1) := by decide +kernel
theorem dX5_darken_4 : decode cX5_darken 4 = .ok (.getfield 15, 3) := by decide +kernel
theorem dX5_darken_7 : decode cX5_darken 7 = .ok (.getfield 23, 3) := by decide +kernel
theorem dX5_darken_10 : decode cX5_darken 10 = .ok (.if_icmp .ge 71, 3) := by decide +kernel
theorem dX5_darken_13 : decode cX5_darken 13 = .ok (.aload_n 0, 1) := by decide +kernel
theorem dX5_darken_14 : decode cX5_darken 14 = .ok (.getfield 9, 3) := by decide +kernel
theorem dX5_darken_17 : decode cX5_darken 17 = .ok (.iload_n 1, 1) := by decide +kernel
theorem dX5_darken_18 : decode cX5_darken 18 = .ok (.lconst 0, 1) := by decide +kernel
theorem dX5_darken_19 : decode cX5_darken 19 = .ok (.lastore, 1) := by decide +kernel
theorem dX5_darken_20 : decode cX5_darken 20 = .ok (.iconst 0, 1) := by decide +kernel
theorem dX5_darken_21 : decode cX5_darken 21 = .ok (.istore_n 2, 1) := by decide +kernel
theorem dX5_darken_22 : decode cX5_darken 22 = .ok (.iload_n 2, 1) := by decide +kernel
theorem dX5_darken_23 : decode cX5_darken 23 = .ok (.aload_n 0, 1) := by decide +kernel
theorem dX5_darken_24 : decode cX5_darken 24 = .ok (.getfield 15, 3) := by decide +kernel
theorem dX5_darken_27 : decode cX5_darken 27 = .ok (.getfield 29, 3) := by decide +kernel
theorem dX5_darken_30 : decode cX5_darken 30 = .ok (.if_icmp .ge 45, 3) := by decide +kernel
theorem dX5_darken_33 : decode cX5_darken 33 = .ok (.aload_n 0, 1) := by decide +kernel
theorem dX5_darken_34 : decode cX5_darken 34 = .ok (.getfield 19, 3) := by decide +kernel
theorem dX5_darken_37 : decode cX5_darken 37 = .ok (.getfield 32, 3) := by decide +kernel
theorem dX5_darken_40 : decode cX5_darken 40 = .ok (.iload_n 2, 1) := by decide +kernel
theorem dX5_darken_41 : decode cX5_darken 41 = .ok (.iaload, 1) := by decide +kernel
theorem dX5_darken_42 : decode cX5_darken 42 = .ok (.ifCond .le 27, 3) := by decide +kernel
theorem dX5_darken_45 : decode cX5_darken 45 = .ok (.aload_n 0, 1) := by decide +kernel
theorem dX5_darken_46 : decode cX5_darken 46 = .ok (.getfield 9, 3) := by decide +kernel
theorem dX5_darken_49 : decode cX5_darken 49 = .ok (.iload_n 1, 1) := by decide +kernel
theorem dX5_darken_50 : decode cX5_darken 50 = .ok (.dup2, 1) := by decide +kernel
theorem dX5_darken_51 : decode cX5_darken 51 = .ok (.laload, 1) := by decide +kernel
theorem dX5_darken_52 : decode cX5_darken 52 = .ok (.aload_n 0, 1) := by decide +kernel
theorem dX5_darken_53 : decode cX5_darken 53 = .ok (.iload_n 2, 1) := by decide +kernel
theorem dX5_darken_54 : decode cX5_darken 54 = .ok (.aload_n 0, 1) := by decide +kernel
theorem dX5_darken_55 : decode cX5_darken 55 = .ok (.getfield 19, 3) := by decide +kernel
theorem dX5_darken_58 : decode cX5_darken 58 = .ok (.getfield 32, 3) := by decide +kernel
theorem dX5_darken_61 : decode cX5_darken 61 = .ok (.iload_n 2, 1) := by decide +kernel
theorem dX5_darken_62 : decode cX5_darken 62 = .ok (.iaload, 1) := by decide +kernel
theorem dX5_darken_63 : decode cX5_darken 63 = .ok (.iload_n 1, 1) := by decide +kernel
theorem dX5_darken_64 : decode cX5_darken 64 = .ok (.invokevirtual 38, 3) := by decide +kernel
theorem dX5_darken_67 : decode cX5_darken 67 = .ok (.lor, 1) := by decide +kernel
theorem dX5_darken_68 : decode cX5_darken 68 = .ok (.lastore, 1) := by decide +kernel
theorem dX5_darken_69 : decode cX5_darken 69 = .ok (.iinc 2 1, 3) := by decide +kernel
theorem dX5_darken_72 : decode cX5_darken 72 = .ok (.goto (-50), 3) := by decide +kernel
theorem dX5_darken_75 : decode cX5_darken 75 = .ok (.iinc 1 1, 3) := by decide +kernel
theorem dX5_darken_78 : decode cX5_darken 78 = .ok (.goto (-76), 3) := by decide +kernel
theorem dX5_darken_81 : decode cX5_darken 81 = .ok (.return_, 1) := by decide +kernel
theorem dX5_isDark_0 : decode cX5_isDark 0 = .ok (.aload_n 0, 1) := by decide +kernel
theorem dX5_isDark_1 : decode cX5_isDark 1 = .ok (.getfield 15, 3) := by decide +kernel
theorem dX5_isDark_4 : decode cX5_isDark 4 = .ok (.iload_n 1, 1) := by decide +kernel
theorem dX5_isDark_5 : decode cX5_isDark 5 = .ok (.invokevirtual 42, 3) := by decide +kernel
theorem dX5_isDark_8 : decode cX5_isDark 8 = .ok (.ifCond .eq 33, 3) := by decide +kernel
theorem dX5_isDark_11 : decode cX5_isDark 11 = .ok (.aload_n 0, 1) := by decide +kernel
theorem dX5_isDark_12 : decode cX5_isDark 12 = .ok (.getfield 15, 3) := by decide +kernel
theorem dX5_isDark_15 : decode cX5_isDark 15 = .ok (.iload_n 2, 1) := by decide +kernel
theorem dX5_isDark_16 : decode cX5_isDark 16 = .ok (.invokevirtual 46, 3) := by decide +kernel
theorem dX5_isDark_19 : decode cX5_isDark 19 = .ok (.ifCond .eq 22, 3) := by decide +kernel
theorem dX5_isDark_22 : decode cX5_isDark 22 = .ok (.aload_n 0, 1) := by decide +kernel
theorem dX5_isDark_23 : decode cX5_isDark 23 = .ok (.getfield 9, 3) := by decide +kernel
theorem dX5_isDark_26 : decode cX5_isDark 26 = .ok (.iload_n 2, 1) := by decide +kernel
theorem dX5_isDark_27 : decode cX5_isDark 27 = .ok (.laload, 1) := by decide +kernel
theorem dX5_isDark_28 : decode cX5_isDark 28 = .ok (.iload_n 1, 1) := by decide +kernel
theorem dX5_isDark_29 : decode cX5_isDark 29 = .ok (.lshr, 1) := by decide +kernel
theorem dX5_isDark_30 : decode cX5_isDark 30 = .ok (.lconst 1, 1) := by decide +kernel
theorem dX5_isDark_31 : decode cX5_isDark 31 = .ok (.land, 1) := by decide +kernel
theorem dX5_isDark_32 : decode cX5_isDark 32 = .ok (.lconst 0, 1) := by decide +kernel
theorem dX5_isDark_33 : decode cX5_isDark 33 = .ok (.lcmp, 1) := by decide +kernel
theorem dX5_isDark_34 : decode cX5_isDark 34 = .ok (.ifCond .eq 7, 3) := by decide +kernel
theorem dX5_isDark_37 : decode cX5_isDark 37 = .ok (.iconst 1, 1) := by decide +kernel
theorem dX5_isDark_38 : decode cX5_isDark 38 = .ok (.goto 4, 3) := by decide +kernel
theorem dX5_isDark_41 : decode cX5_isDark 41 = .ok (.iconst 0, 1) := by decide +kernel
theorem dX5_isDark_42 : decode cX5_isDark 42 = .ok (.ireturn, 1) := by decide +kernel
theorem dX5_shadowFrom_0 : decode cX5_shadowFrom 0 = .ok (.iload_n 1, 1) := by decide +kernel
theorem dX5_shadowFrom_1 : decode cX5_shadowFrom 1 = .ok (.ifCond .lt 44, 3) := by decide +kernel
theorem dX5_shadowFrom_4 : decode cX5_shadowFrom 4 = .ok (.iload_n 1, 1) := by decide +kernel
theorem dX5_shadowFrom_5 : decode cX5_shadowFrom 5 = .ok (.aload_n 0, 1) := by decide +kernel
theorem dX5_shadowFrom_6 : decode cX5_shadowFrom 6 = .ok (.getfield 15, 3) := by decide +kernel
theorem dX5_shadowFrom_9 : decode cX5_shadowFrom 9 = .ok (.getfield 29, 3) := by decide +kernel
theorem dX5_shadowFrom_12 : decode cX5_shadowFrom 12 = .ok (.if_icmp .ge 33, 3) := by decide +kernel
theorem dX5_shadowFrom_15 : decode cX5_shadowFrom 15 = .ok (.iload_n 3, 1) := by decide +kernel
theorem dX5_shadowFrom_16 : decode cX5_shadowFrom 16 = .ok (.ifCond .lt 29, 3) := by decide +kernel
theorem dX5_shadowFrom_19 : decode cX5_shadowFrom 19 = .ok (.iload_n 3, 1) := by decide +kernel
theorem dX5_shadowFrom_20 : decode cX5_shadowFrom 20 = .ok (.aload_n 0, 1) := by decide +kernel
theorem dX5_shadowFrom_21 : decode cX5_shadowFrom 21 = .ok (.getfield 15, 3) := by decide +kernel
theorem dX5_shadowFrom_24 : decode cX5_shadowFrom 24 = .ok (.getfield 23, 3) := by decide +kernel
theorem dX5_shadowFrom_27 : decode cX5_shadowFrom 27 = .ok (.if_icmp .ge 18, 3) := by decide +kernel
theorem dX5_shadowFrom_30 : decode cX5_shadowFrom 30 = .ok (.aload_n 0, 1) := by decide +kernel
theorem dX5_shadowFrom_31 : decode cX5_shadowFrom 31 = .ok (.getfield 9, 3) := by decide +kernel
theorem dX5_shadowFrom_34 : decode cX5_shadowFrom 34 = .ok (.iload_n 3, 1) := by decide +kernel
theorem dX5_shadowFrom_35 : decode cX5_shadowFrom 35 = .ok (.laload, 1) := by decide +kernel
theorem dX5_shadowFrom_36 : decode cX5_shadowFrom 36 = .ok (.iload_n 1, 1) := by decide +kernel
theorem dX5_shadowFrom_37 : decode cX5_shadowFrom 37 = .ok (.lshr, 1) := by decide +kernel
theorem dX5_shadowFrom_38 : decode cX5_shadowFrom 38 = .ok (.lconst 1, 1) := by decide +kernel
theorem dX5_shadowFrom_39 : decode cX5_shadowFrom 39 = .ok (.land, 1) := by decide +kernel
theorem dX5_shadowFrom_40 : decode cX5_shadowFrom 40 = .ok (.lconst 0, 1) := by decide +kernel
theorem dX5_shadowFrom_41 : decode cX5_shadowFrom 41 = .ok (.lcmp, 1) := by decide +kernel
theorem dX5_shadowFrom_42 : decode cX5_shadowFrom 42 = .ok (.ifCond .eq 5, 3) := by decide +kernel
theorem dX5_shadowFrom_45 : decode cX5_shadowFrom 45 = .ok (.lconst 0, 1) := by decide +kernel
theorem dX5_shadowFrom_46 : decode cX5_shadowFrom 46 = .ok (.lreturn, 1) := by decide +kernel
theorem dX5_shadowFrom_47 : decode cX5_shadowFrom 47 = .ok (.lconst 0, 1) := by decide +kernel
theorem dX5_shadowFrom_48 : decode cX5_shadowFrom 48 = .ok (.lstore 4, 2) := by decide +kernel
theorem dX5_shadowFrom_50 : decode cX5_shadowFrom 50 = .ok (.iload_n 2, 1) := by decide +kernel
theorem dX5_shadowFrom_51 : decode cX5_shadowFrom 51 = .ok (.aload_n 0, 1) := by decide +kernel
theorem dX5_shadowFrom_52 : decode cX5_shadowFrom 52 = .ok (.getfield 15, 3) := by decide +kernel
theorem dX5_shadowFrom_55 : decode cX5_shadowFrom 55 = .ok (.getfield 49, 3) := by decide +kernel
theorem dX5_shadowFrom_58 : decode cX5_shadowFrom 58 = .ok (.iload_n 3, 1) := by decide +kernel
theorem dX5_shadowFrom_59 : decode cX5_shadowFrom 59 = .ok (.iaload, 1) := by decide +kernel
theorem dX5_shadowFrom_60 : decode cX5_shadowFrom 60 = .ok (.imul, 1) := by decide +kernel
theorem dX5_shadowFrom_61 : decode cX5_shadowFrom 61 = .ok (.istore 6, 2) := by decide +kernel
theorem dX5_shadowFrom_63 : decode cX5_shadowFrom 63 = .ok (.aload_n 0, 1) := by decide +kernel
theorem dX5_shadowFrom_64 : decode cX5_shadowFrom 64 = .ok (.getfield 15, 3) := by decide +kernel
theorem dX5_shadowFrom_67 : decode cX5_shadowFrom 67 = .ok (.getfield 52, 3) := by decide +kernel
theorem dX5_shadowFrom_70 : decode cX5_shadowFrom 70 = .ok (.iload_n 3, 1) := by decide +kernel
theorem dX5_shadowFrom_71 : decode cX5_shadowFrom 71 = .ok (.aaload, 1) := by decide +kernel
theorem dX5_shadowFrom_72 : decode cX5_shadowFrom 72 = .ok (.iload_n 1, 1) := by decide +kernel
theorem dX5_shadowFrom_73 : decode cX5_shadowFrom 73 = .ok (.iaload, 1) := by decide +kernel
theorem dX5_shadowFrom_74 : decode cX5_shadowFrom 74 = .ok (.istore 7, 2) := by decide +kernel
theorem dX5_shadowFrom_76 : decode cX5_shadowFrom 76 = .ok (.iconst 0, 1) := by decide +kernel
theorem dX5_shadowFrom_77 : decode cX5_shadowFrom 77 = .ok (.istore 8, 2) := by decide +kernel
theorem dX5_shadowFrom_79 : decode cX5_shadowFrom 79 = .ok (.iload 8, 2) := by decide +kernel
theorem dX5_shadowFrom_81 : decode cX5_shadowFrom 81 = .ok (.iload 6, 2) := by decide +kernel
theorem dX5_shadowFrom_83 : decode cX5_shadowFrom 83 = .ok (.if_icmp .ge 65, 3) := by decide +kernel
theorem dX5_shadowFrom_86 : decode cX5_shadowFrom 86 = .ok (.iload 7, 2) := by decide +kernel
theorem dX5_shadowFrom_88 : decode cX5_shadowFrom 88 = .ok (.ifCond .lt 60, 3) := by decide +kernel
theorem dX5_shadowFrom_91 : decode cX5_shadowFrom 91 = .ok (.iload 7, 2) := by decide +kernel
theorem dX5_shadowFrom_93 : decode cX5_shadowFrom 93 = .ok (.aload_n 0, 1) := by decide +kernel
theorem dX5_shadowFrom_94 : decode cX5_shadowFrom 94 = .ok (.getfield 15, 3) := by decide +kernel
theorem dX5_shadowFrom_97 : decode cX5_shadowFrom 97 = .ok (.getfield 29, 3) := by decide +kernel
theorem dX5_shadowFrom_100 : decode cX5_shadowFrom 100 = .ok (.if_icmp .ge 48, 3) := by decide +kernel
theorem dX5_shadowFrom_103 : decode cX5_shadowFrom 103 = .ok (.aload_n 0, 1) := by decide +kernel
theorem dX5_shadowFrom_104 : decode cX5_shadowFrom 104 = .ok (.getfield 19, 3) := by decide +kernel
theorem dX5_shadowFrom_107 : decode cX5_shadowFrom 107 = .ok (.getfield 32, 3) := by decide +kernel
theorem dX5_shadowFrom_110 : decode cX5_shadowFrom 110 = .ok (.iload 7, 2) := by decide +kernel
theorem dX5_shadowFrom_112 : decode cX5_shadowFrom 112 = .ok (.iaload, 1) := by decide +kernel
theorem dX5_shadowFrom_113 : decode cX5_shadowFrom 113 = .ok (.ifCond .le 6, 3) := by decide +kernel
theorem dX5_shadowFrom_116 : decode cX5_shadowFrom 116 = .ok (.goto 32, 3) := by decide +kernel
theorem dX5_shadowFrom_119 : decode cX5_shadowFrom 119 = .ok (.lload 4, 2) := by decide +kernel
theorem dX5_shadowFrom_121 : decode cX5_shadowFrom 121 = .ok (.lconst 1, 1) := by decide +kernel
theorem dX5_shadowFrom_122 : decode cX5_shadowFrom 122 = .ok (.iload 7, 2) := by decide +kernel
theorem dX5_shadowFrom_124 : decode cX5_shadowFrom 124 = .ok (.lshl, 1) := by decide +kernel
theorem dX5_shadowFrom_125 : decode cX5_shadowFrom 125 = .ok (.lor, 1) := by decide +kernel
theorem dX5_shadowFrom_126 : decode cX5_shadowFrom 126 = .ok (.lstore 4, 2) := by decide +kernel
theorem dX5_shadowFrom_128 : decode cX5_shadowFrom 128 = .ok (.aload_n 0, 1) := by decide +kernel
theorem dX5_shadowFrom_129 : decode cX5_shadowFrom 129 = .ok (.getfield 15, 3) := by decide +kernel
theorem dX5_shadowFrom_132 : decode cX5_shadowFrom 132 = .ok (.getfield 52, 3) := by decide +kernel
theorem dX5_shadowFrom_135 : decode cX5_shadowFrom 135 = .ok (.iload_n 3, 1) := by decide +kernel
theorem dX5_shadowFrom_136 : decode cX5_shadowFrom 136 = .ok (.aaload, 1) := by decide +kernel
theorem dX5_shadowFrom_137 : decode cX5_shadowFrom 137 = .ok (.iload 7, 2) := by decide +kernel
theorem dX5_shadowFrom_139 : decode cX5_shadowFrom 139 = .ok (.iaload, 1) := by decide +kernel
theorem dX5_shadowFrom_140 : decode cX5_shadowFrom 140 = .ok (.istore 7, 2) := by decide +kernel
theorem dX5_shadowFrom_142 : decode cX5_shadowFrom 142 = .ok (.iinc 8 1, 3) := by decide +kernel
theorem dX5_shadowFrom_145 : decode cX5_shadowFrom 145 = .ok (.goto (-66), 3) := by decide +kernel
theorem dX5_shadowFrom_148 : decode cX5_shadowFrom 148 = .ok (.lload 4, 2) := by decide +kernel
theorem dX5_shadowFrom_150 : decode cX5_shadowFrom 150 = .ok (.lreturn, 1) := by decide +kernel
theorem dX5_tallOf_0 : decode cX5_tallOf 0 = .ok (.iload_n 1, 1) := by decide +kernel
theorem dX5_tallOf_1 : decode cX5_tallOf 1 = .ok (.ifCond .lt 36, 3) := by decide +kernel
theorem dX5_tallOf_4 : decode cX5_tallOf 4 = .ok (.iload_n 1, 1) := by decide +kernel
theorem dX5_tallOf_5 : decode cX5_tallOf 5 = .ok (.aload_n 0, 1) := by decide +kernel
theorem dX5_tallOf_6 : decode cX5_tallOf 6 = .ok (.getfield 15, 3) := by decide +kernel
theorem dX5_tallOf_9 : decode cX5_tallOf 9 = .ok (.getfield 56, 3) := by decide +kernel
theorem dX5_tallOf_12 : decode cX5_tallOf 12 = .ok (.if_icmp .ge 25, 3) := by decide +kernel
theorem dX5_tallOf_15 : decode cX5_tallOf 15 = .ok (.aload_n 0, 1) := by decide +kernel
theorem dX5_tallOf_16 : decode cX5_tallOf 16 = .ok (.getfield 15, 3) := by decide +kernel
theorem dX5_tallOf_19 : decode cX5_tallOf 19 = .ok (.getfield 59, 3) := by decide +kernel
theorem dX5_tallOf_22 : decode cX5_tallOf 22 = .ok (.iload_n 1, 1) := by decide +kernel
theorem dX5_tallOf_23 : decode cX5_tallOf 23 = .ok (.iaload, 1) := by decide +kernel
theorem dX5_tallOf_24 : decode cX5_tallOf 24 = .ok (.aload_n 0, 1) := by decide +kernel
theorem dX5_tallOf_25 : decode cX5_tallOf 25 = .ok (.getfield 19, 3) := by decide +kernel
theorem dX5_tallOf_28 : decode cX5_tallOf 28 = .ok (.getfield 62, 3) := by decide +kernel
theorem dX5_tallOf_31 : decode cX5_tallOf 31 = .ok (.iload_n 1, 1) := by decide +kernel
theorem dX5_tallOf_32 : decode cX5_tallOf 32 = .ok (.iaload, 1) := by decide +kernel
theorem dX5_tallOf_33 : decode cX5_tallOf 33 = .ok (.isub, 1) := by decide +kernel
theorem dX5_tallOf_34 : decode cX5_tallOf 34 = .ok (.goto 4, 3) := by decide +kernel
theorem dX5_tallOf_37 : decode cX5_tallOf 37 = .ok (.iconst 0, 1) := by decide +kernel
theorem dX5_tallOf_38 : decode cX5_tallOf 38 = .ok (.ireturn, 1) := by decide +kernel
theorem dX5_somebodyIsOn_0 : decode cX5_somebodyIsOn 0 = .ok (.iconst 0, 1) := by decide +kernel
theorem dX5_somebodyIsOn_1 : decode cX5_somebodyIsOn 1 = .ok (.istore_n 2, 1) := by decide +kernel
theorem dX5_somebodyIsOn_2 : decode cX5_somebodyIsOn 2 = .ok (.iload_n 2, 1) := by decide +kernel
theorem dX5_somebodyIsOn_3 : decode cX5_somebodyIsOn 3 = .ok (.aload_n 0, 1) := by decide +kernel
theorem dX5_somebodyIsOn_4 : decode cX5_somebodyIsOn 4 = .ok (.getfield 15, 3) := by decide +kernel
theorem dX5_somebodyIsOn_7 : decode cX5_somebodyIsOn 7 = .ok (.getfield 56, 3) := by decide +kernel
theorem dX5_somebodyIsOn_10 : decode cX5_somebodyIsOn 10 = .ok (.if_icmp .ge 24, 3) := by decide +kernel
theorem dX5_somebodyIsOn_13 : decode cX5_somebodyIsOn 13 = .ok (.aload_n 0, 1) := by decide +kernel
theorem dX5_somebodyIsOn_14 : decode cX5_somebodyIsOn 14 = .ok (.getfield 19, 3) := by decide +kernel
theorem dX5_somebodyIsOn_17 : decode cX5_somebodyIsOn 17 = .ok (.getfield 65, 3) := by decide +kernel
theorem dX5_somebodyIsOn_20 : decode cX5_somebodyIsOn 20 = .ok (.iload_n 2, 1) := by decide +kernel
theorem dX5_somebodyIsOn_21 : decode cX5_somebodyIsOn 21 = .ok (.iaload, 1) := by decide +kernel
theorem dX5_somebodyIsOn_22 : decode cX5_somebodyIsOn 22 = .ok (.iload_n 1, 1) := by decide +kernel
theorem dX5_somebodyIsOn_23 : decode cX5_somebodyIsOn 23 = .ok (.if_icmp .ne 5, 3) := by decide +kernel
theorem dX5_somebodyIsOn_26 : decode cX5_somebodyIsOn 26 = .ok (.iconst 1, 1) := by decide +kernel
theorem dX5_somebodyIsOn_27 : decode cX5_somebodyIsOn 27 = .ok (.ireturn, 1) := by decide +kernel
theorem dX5_somebodyIsOn_28 : decode cX5_somebodyIsOn 28 = .ok (.iinc 2 1, 3) := by decide +kernel
theorem dX5_somebodyIsOn_31 : decode cX5_somebodyIsOn 31 = .ok (.goto (-29), 3) := by decide +kernel
theorem dX5_somebodyIsOn_34 : decode cX5_somebodyIsOn 34 = .ok (.iconst 0, 1) := by decide +kernel
theorem dX5_somebodyIsOn_35 : decode cX5_somebodyIsOn 35 = .ok (.ireturn, 1) := by decide +kernel
theorem dX5_castersOn_0 : decode cX5_castersOn 0 = .ok (.iconst 0, 1) := by decide +kernel
theorem dX5_castersOn_1 : decode cX5_castersOn 1 = .ok (.istore_n 3, 1) := by decide +kernel
theorem dX5_castersOn_2 : decode cX5_castersOn 2 = .ok (.iconst 0, 1) := by decide +kernel
theorem dX5_castersOn_3 : decode cX5_castersOn 3 = .ok (.istore 4, 2) := by decide +kernel
theorem dX5_castersOn_5 : decode cX5_castersOn 5 = .ok (.iload 4, 2) := by decide +kernel
theorem dX5_castersOn_7 : decode cX5_castersOn 7 = .ok (.aload_n 0, 1) := by decide +kernel
theorem dX5_castersOn_8 : decode cX5_castersOn 8 = .ok (.getfield 15, 3) := by decide +kernel
theorem dX5_castersOn_11 : decode cX5_castersOn 11 = .ok (.getfield 56, 3) := by decide +kernel
theorem dX5_castersOn_14 : decode cX5_castersOn 14 = .ok (.if_icmp .ge 46, 3) := by decide +kernel
theorem dX5_castersOn_17 : decode cX5_castersOn 17 = .ok (.aload_n 0, 1) := by decide +kernel
theorem dX5_castersOn_18 : decode cX5_castersOn 18 = .ok (.aload_n 0, 1) := by decide +kernel
theorem dX5_castersOn_19 : decode cX5_castersOn 19 = .ok (.getfield 19, 3) := by decide +kernel
theorem dX5_castersOn_22 : decode cX5_castersOn 22 = .ok (.getfield 65, 3) := by decide +kernel
theorem dX5_castersOn_25 : decode cX5_castersOn 25 = .ok (.iload 4, 2) := by decide +kernel
theorem dX5_castersOn_27 : decode cX5_castersOn 27 = .ok (.iaload, 1) := by decide +kernel
theorem dX5_castersOn_28 : decode cX5_castersOn 28 = .ok (.aload_n 0, 1) := by decide +kernel
theorem dX5_castersOn_29 : decode cX5_castersOn 29 = .ok (.iload 4, 2) := by decide +kernel
theorem dX5_castersOn_31 : decode cX5_castersOn 31 = .ok (.invokevirtual 68, 3) := by decide +kernel
theorem dX5_castersOn_34 : decode cX5_castersOn 34 = .ok (.iload_n 2, 1) := by decide +kernel
theorem dX5_castersOn_35 : decode cX5_castersOn 35 = .ok (.invokevirtual 38, 3) := by decide +kernel
theorem dX5_castersOn_38 : decode cX5_castersOn 38 = .ok (.iload_n 1, 1) := by decide +kernel
theorem dX5_castersOn_39 : decode cX5_castersOn 39 = .ok (.lshr, 1) := by decide +kernel
theorem dX5_castersOn_40 : decode cX5_castersOn 40 = .ok (.lconst 1, 1) := by decide +kernel
theorem dX5_castersOn_41 : decode cX5_castersOn 41 = .ok (.land, 1) := by decide +kernel
theorem dX5_castersOn_42 : decode cX5_castersOn 42 = .ok (.lconst 0, 1) := by decide +kernel
theorem dX5_castersOn_43 : decode cX5_castersOn 43 = .ok (.lcmp, 1) := by decide +kernel
theorem dX5_castersOn_44 : decode cX5_castersOn 44 = .ok (.ifCond .eq 10, 3) := by decide +kernel
theorem dX5_castersOn_47 : decode cX5_castersOn 47 = .ok (.iload_n 3, 1) := by decide +kernel
theorem dX5_castersOn_48 : decode cX5_castersOn 48 = .ok (.iconst 1, 1) := by decide +kernel
theorem dX5_castersOn_49 : decode cX5_castersOn 49 = .ok (.iload 4, 2) := by decide +kernel
theorem dX5_castersOn_51 : decode cX5_castersOn 51 = .ok (.ishl, 1) := by decide +kernel
theorem dX5_castersOn_52 : decode cX5_castersOn 52 = .ok (.ior, 1) := by decide +kernel
theorem dX5_castersOn_53 : decode cX5_castersOn 53 = .ok (.istore_n 3, 1) := by decide +kernel
theorem dX5_castersOn_54 : decode cX5_castersOn 54 = .ok (.iinc 4 1, 3) := by decide +kernel
theorem dX5_castersOn_57 : decode cX5_castersOn 57 = .ok (.goto (-52), 3) := by decide +kernel
theorem dX5_castersOn_60 : decode cX5_castersOn 60 = .ok (.iload_n 3, 1) := by decide +kernel
theorem dX5_castersOn_61 : decode cX5_castersOn 61 = .ok (.ireturn, 1) := by decide +kernel
theorem dX5_owerOf_0 : decode cX5_owerOf 0 = .ok (.iconst 0, 1) := by decide +kernel
theorem dX5_owerOf_1 : decode cX5_owerOf 1 = .ok (.istore_n 3, 1) := by decide +kernel
theorem dX5_owerOf_2 : decode cX5_owerOf 2 = .ok (.iload_n 3, 1) := by decide +kernel
theorem dX5_owerOf_3 : decode cX5_owerOf 3 = .ok (.aload_n 0, 1) := by decide +kernel
theorem dX5_owerOf_4 : decode cX5_owerOf 4 = .ok (.getfield 15, 3) := by decide +kernel
theorem dX5_owerOf_7 : decode cX5_owerOf 7 = .ok (.getfield 56, 3) := by decide +kernel
theorem dX5_owerOf_10 : decode cX5_owerOf 10 = .ok (.if_icmp .ge 41, 3) := by decide +kernel
theorem dX5_owerOf_13 : decode cX5_owerOf 13 = .ok (.aload_n 0, 1) := by decide +kernel
theorem dX5_owerOf_14 : decode cX5_owerOf 14 = .ok (.iload_n 3, 1) := by decide +kernel
theorem dX5_owerOf_15 : decode cX5_owerOf 15 = .ok (.aload_n 0, 1) := by decide +kernel
theorem dX5_owerOf_16 : decode cX5_owerOf 16 = .ok (.getfield 19, 3) := by decide +kernel
theorem dX5_owerOf_19 : decode cX5_owerOf 19 = .ok (.getfield 65, 3) := by decide +kernel
theorem dX5_owerOf_22 : decode cX5_owerOf 22 = .ok (.iload_n 3, 1) := by decide +kernel
theorem dX5_owerOf_23 : decode cX5_owerOf 23 = .ok (.iaload, 1) := by decide +kernel
theorem dX5_owerOf_24 : decode cX5_owerOf 24 = .ok (.aload_n 0, 1) := by decide +kernel
theorem dX5_owerOf_25 : decode cX5_owerOf 25 = .ok (.iload_n 3, 1) := by decide +kernel
theorem dX5_owerOf_26 : decode cX5_owerOf 26 = .ok (.invokevirtual 68, 3) := by decide +kernel
theorem dX5_owerOf_29 : decode cX5_owerOf 29 = .ok (.iconst (-1), 1) := by decide +kernel
theorem dX5_owerOf_30 : decode cX5_owerOf 30 = .ok (.iload_n 2, 1) := by decide +kernel
theorem dX5_owerOf_31 : decode cX5_owerOf 31 = .ok (.invokevirtual 72, 3) := by decide +kernel
theorem dX5_owerOf_34 : decode cX5_owerOf 34 = .ok (.iload_n 1, 1) := by decide +kernel
theorem dX5_owerOf_35 : decode cX5_owerOf 35 = .ok (.lshr, 1) := by decide +kernel
theorem dX5_owerOf_36 : decode cX5_owerOf 36 = .ok (.lconst 1, 1) := by decide +kernel
theorem dX5_owerOf_37 : decode cX5_owerOf 37 = .ok (.land, 1) := by decide +kernel
theorem dX5_owerOf_38 : decode cX5_owerOf 38 = .ok (.lconst 0, 1) := by decide +kernel
theorem dX5_owerOf_39 : decode cX5_owerOf 39 = .ok (.lcmp, 1) := by decide +kernel
theorem dX5_owerOf_40 : decode cX5_owerOf 40 = .ok (.ifCond .eq 5, 3) := by decide +kernel
theorem dX5_owerOf_43 : decode cX5_owerOf 43 = .ok (.iload_n 3, 1) := by decide +kernel
theorem dX5_owerOf_44 : decode cX5_owerOf 44 = .ok (.ireturn, 1) := by decide +kernel
theorem dX5_owerOf_45 : decode cX5_owerOf 45 = .ok (.iinc 3 1, 3) := by decide +kernel
theorem dX5_owerOf_48 : decode cX5_owerOf 48 = .ok (.goto (-46), 3) := by decide +kernel
theorem dX5_owerOf_51 : decode cX5_owerOf 51 = .ok (.iconst (-1), 1) := by decide +kernel
theorem dX5_owerOf_52 : decode cX5_owerOf 52 = .ok (.ireturn, 1) := by decide +kernel
theorem dX5_isAhead_0 : decode cX5_isAhead 0 = .ok (.aload_n 0, 1) := by decide +kernel
theorem dX5_isAhead_1 : decode cX5_isAhead 1 = .ok (.getfield 19, 3) := by decide +kernel
theorem dX5_isAhead_4 : decode cX5_isAhead 4 = .ok (.getfield 76, 3) := by decide +kernel
theorem dX5_isAhead_7 : decode cX5_isAhead 7 = .ok (.iconst 1, 1) := by decide +kernel
theorem dX5_isAhead_8 : decode cX5_isAhead 8 = .ok (.if_icmp .ne 21, 3) := by decide +kernel
theorem dX5_isAhead_11 : decode cX5_isAhead 11 = .ok (.iload_n 2, 1) := by decide +kernel
theorem dX5_isAhead_12 : decode cX5_isAhead 12 = .ok (.iload 4, 2) := by decide +kernel
theorem dX5_isAhead_14 : decode cX5_isAhead 14 = .ok (.if_icmp .eq 15, 3) := by decide +kernel
theorem dX5_isAhead_17 : decode cX5_isAhead 17 = .ok (.iload_n 2, 1) := by decide +kernel
theorem dX5_isAhead_18 : decode cX5_isAhead 18 = .ok (.iload 4, 2) := by decide +kernel
theorem dX5_isAhead_20 : decode cX5_isAhead 20 = .ok (.if_icmp .le 7, 3) := by decide +kernel
theorem dX5_isAhead_23 : decode cX5_isAhead 23 = .ok (.iconst 1, 1) := by decide +kernel
theorem dX5_isAhead_24 : decode cX5_isAhead 24 = .ok (.goto 4, 3) := by decide +kernel
theorem dX5_isAhead_27 : decode cX5_isAhead 27 = .ok (.iconst 0, 1) := by decide +kernel
theorem dX5_isAhead_28 : decode cX5_isAhead 28 = .ok (.ireturn, 1) := by decide +kernel
theorem dX5_isAhead_29 : decode cX5_isAhead 29 = .ok (.iload_n 1, 1) := by decide +kernel
theorem dX5_isAhead_30 : decode cX5_isAhead 30 = .ok (.iload_n 3, 1) := by decide +kernel
theorem dX5_isAhead_31 : decode cX5_isAhead 31 = .ok (.if_icmp .ge 7, 3) := by decide +kernel
theorem dX5_isAhead_34 : decode cX5_isAhead 34 = .ok (.iconst 1, 1) := by decide +kernel
theorem dX5_isAhead_35 : decode cX5_isAhead 35 = .ok (.goto 4, 3) := by decide +kernel
theorem dX5_isAhead_38 : decode cX5_isAhead 38 = .ok (.iconst 0, 1) := by decide +kernel
theorem dX5_isAhead_39 : decode cX5_isAhead 39 = .ok (.ireturn, 1) := by decide +kernel
theorem dX5_owedCells_0 : decode cX5_owedCells 0 = .ok (.aload_n 0, 1) := by decide +kernel
theorem dX5_owedCells_1 : decode cX5_owedCells 1 = .ok (.getfield 15, 3) := by decide +kernel
theorem dX5_owedCells_4 : decode cX5_owedCells 4 = .ok (.iload 5, 2) := by decide +kernel
theorem dX5_owedCells_6 : decode cX5_owedCells 6 = .ok (.invokevirtual 46, 3) := by decide +kernel
theorem dX5_owedCells_9 : decode cX5_owedCells 9 = .ok (.ifCond .ne 5, 3) := by decide +kernel
theorem dX5_owedCells_12 : decode cX5_owedCells 12 = .ok (.lconst 0, 1) := by decide +kernel
theorem dX5_owedCells_13 : decode cX5_owedCells 13 = .ok (.lreturn, 1) := by decide +kernel
theorem dX5_owedCells_14 : decode cX5_owedCells 14 = .ok (.aload_n 0, 1) := by decide +kernel
theorem dX5_owedCells_15 : decode cX5_owedCells 15 = .ok (.iload_n 2, 1) := by decide +kernel
theorem dX5_owedCells_16 : decode cX5_owedCells 16 = .ok (.iload_n 3, 1) := by decide +kernel
theorem dX5_owedCells_17 : decode cX5_owedCells 17 = .ok (.iload 5, 2) := by decide +kernel
theorem dX5_owedCells_19 : decode cX5_owedCells 19 = .ok (.invokevirtual 38, 3) := by decide +kernel
theorem dX5_owedCells_22 : decode cX5_owedCells 22 = .ok (.aload_n 0, 1) := by decide +kernel
theorem dX5_owedCells_23 : decode cX5_owedCells 23 = .ok (.getfield 9, 3) := by decide +kernel
theorem dX5_owedCells_26 : decode cX5_owedCells 26 = .ok (.iload 5, 2) := by decide +kernel
theorem dX5_owedCells_28 : decode cX5_owedCells 28 = .ok (.laload, 1) := by decide +kernel
theorem dX5_owedCells_29 : decode cX5_owedCells 29 = .ok (.ldc2_w 79, 3) := by decide +kernel
theorem dX5_owedCells_32 : decode cX5_owedCells 32 = .ok (.lxor, 1) := by decide +kernel
theorem dX5_owedCells_33 : decode cX5_owedCells 33 = .ok (.land, 1) := by decide +kernel
theorem dX5_owedCells_34 : decode cX5_owedCells 34 = .ok (.lstore 6, 2) := by decide +kernel
theorem dX5_owedCells_36 : decode cX5_owedCells 36 = .ok (.iconst 0, 1) := by decide +kernel
theorem dX5_owedCells_37 : decode cX5_owedCells 37 = .ok (.istore 8, 2) := by decide +kernel
theorem dX5_owedCells_39 : decode cX5_owedCells 39 = .ok (.iload 8, 2) := by decide +kernel
theorem dX5_owedCells_41 : decode cX5_owedCells 41 = .ok (.aload_n 0, 1) := by decide +kernel
theorem dX5_owedCells_42 : decode cX5_owedCells 42 = .ok (.getfield 15, 3) := by decide +kernel
theorem dX5_owedCells_45 : decode cX5_owedCells 45 = .ok (.getfield 56, 3) := by decide +kernel
theorem dX5_owedCells_48 : decode cX5_owedCells 48 = .ok (.if_icmp .ge 77, 3) := by decide +kernel
theorem dX5_owedCells_51 : decode cX5_owedCells 51 = .ok (.lload 6, 2) := by decide +kernel
theorem dX5_owedCells_53 : decode cX5_owedCells 53 = .ok (.lconst 0, 1) := by decide +kernel
theorem dX5_owedCells_54 : decode cX5_owedCells 54 = .ok (.lcmp, 1) := by decide +kernel
theorem dX5_owedCells_55 : decode cX5_owedCells 55 = .ok (.ifCond .eq 70, 3) := by decide +kernel
theorem dX5_owedCells_58 : decode cX5_owedCells 58 = .ok (.aload_n 0, 1) := by decide +kernel
theorem dX5_owedCells_59 : decode cX5_owedCells 59 = .ok (.iload 8, 2) := by decide +kernel
theorem dX5_owedCells_61 : decode cX5_owedCells 61 = .ok (.invokevirtual 68, 3) := by decide +kernel
theorem dX5_owedCells_64 : decode cX5_owedCells 64 = .ok (.istore 9, 2) := by decide +kernel
theorem dX5_owedCells_66 : decode cX5_owedCells 66 = .ok (.iload 8, 2) := by decide +kernel
theorem dX5_owedCells_68 : decode cX5_owedCells 68 = .ok (.iload_n 1, 1) := by decide +kernel
theorem dX5_owedCells_69 : decode cX5_owedCells 69 = .ok (.if_icmp .eq 50, 3) := by decide +kernel
theorem dX5_owedCells_72 : decode cX5_owedCells 72 = .ok (.iload 8, 2) := by decide +kernel
theorem dX5_owedCells_74 : decode cX5_owedCells 74 = .ok (.iload 4, 2) := by decide +kernel
theorem dX5_owedCells_76 : decode cX5_owedCells 76 = .ok (.if_icmp .eq 43, 3) := by decide +kernel
theorem dX5_owedCells_79 : decode cX5_owedCells 79 = .ok (.aload_n 0, 1) := by decide +kernel
theorem dX5_owedCells_80 : decode cX5_owedCells 80 = .ok (.iload 8, 2) := by decide +kernel
theorem dX5_owedCells_82 : decode cX5_owedCells 82 = .ok (.iload 9, 2) := by decide +kernel
theorem dX5_owedCells_84 : decode cX5_owedCells 84 = .ok (.iload_n 1, 1) := by decide +kernel
theorem dX5_owedCells_85 : decode cX5_owedCells 85 = .ok (.iload_n 3, 1) := by decide +kernel
theorem dX5_owedCells_86 : decode cX5_owedCells 86 = .ok (.invokevirtual 81, 3) := by decide +kernel
theorem dX5_owedCells_89 : decode cX5_owedCells 89 = .ok (.ifCond .eq 30, 3) := by decide +kernel
theorem dX5_owedCells_92 : decode cX5_owedCells 92 = .ok (.lload 6, 2) := by decide +kernel
theorem dX5_owedCells_94 : decode cX5_owedCells 94 = .ok (.aload_n 0, 1) := by decide +kernel
theorem dX5_owedCells_95 : decode cX5_owedCells 95 = .ok (.aload_n 0, 1) := by decide +kernel
theorem dX5_owedCells_96 : decode cX5_owedCells 96 = .ok (.getfield 19, 3) := by decide +kernel
theorem dX5_owedCells_99 : decode cX5_owedCells 99 = .ok (.getfield 65, 3) := by decide +kernel
theorem dX5_owedCells_102 : decode cX5_owedCells 102 = .ok (.iload 8, 2) := by decide +kernel
theorem dX5_owedCells_104 : decode cX5_owedCells 104 = .ok (.iaload, 1) := by decide +kernel
theorem dX5_owedCells_105 : decode cX5_owedCells 105 = .ok (.iload 9, 2) := by decide +kernel
theorem dX5_owedCells_107 : decode cX5_owedCells 107 = .ok (.iload 5, 2) := by decide +kernel
theorem dX5_owedCells_109 : decode cX5_owedCells 109 = .ok (.invokevirtual 38, 3) := by decide +kernel
theorem dX5_owedCells_112 : decode cX5_owedCells 112 = .ok (.ldc2_w 79, 3) := by decide +kernel
theorem dX5_owedCells_115 : decode cX5_owedCells 115 = .ok (.lxor, 1) := by decide +kernel
theorem dX5_owedCells_116 : decode cX5_owedCells 116 = .ok (.land, 1) := by decide +kernel
theorem dX5_owedCells_117 : decode cX5_owedCells 117 = .ok (.lstore 6, 2) := by decide +kernel
theorem dX5_owedCells_119 : decode cX5_owedCells 119 = .ok (.iinc 8 1, 3) := by decide +kernel
theorem dX5_owedCells_122 : decode cX5_owedCells 122 = .ok (.goto (-83), 3) := by decide +kernel
theorem dX5_owedCells_125 : decode cX5_owedCells 125 = .ok (.lload 6, 2) := by decide +kernel
theorem dX5_owedCells_127 : decode cX5_owedCells 127 = .ok (.lreturn, 1) := by decide +kernel
theorem dX5_owedAt_0 : decode cX5_owedAt 0 = .ok (.aload_n 0, 1) := by decide +kernel
theorem dX5_owedAt_1 : decode cX5_owedAt 1 = .ok (.iload_n 1, 1) := by decide +kernel
theorem dX5_owedAt_2 : decode cX5_owedAt 2 = .ok (.iload_n 2, 1) := by decide +kernel
theorem dX5_owedAt_3 : decode cX5_owedAt 3 = .ok (.aload_n 0, 1) := by decide +kernel
theorem dX5_owedAt_4 : decode cX5_owedAt 4 = .ok (.iload_n 1, 1) := by decide +kernel
theorem dX5_owedAt_5 : decode cX5_owedAt 5 = .ok (.invokevirtual 68, 3) := by decide +kernel
theorem dX5_owedAt_8 : decode cX5_owedAt 8 = .ok (.iconst (-1), 1) := by decide +kernel
theorem dX5_owedAt_9 : decode cX5_owedAt 9 = .ok (.iload_n 3, 1) := by decide +kernel
theorem dX5_owedAt_10 : decode cX5_owedAt 10 = .ok (.invokevirtual 72, 3) := by decide +kernel
theorem dX5_owedAt_13 : decode cX5_owedAt 13 = .ok (.invokestatic 85, 3) := by decide +kernel
theorem dX5_owedAt_16 : decode cX5_owedAt 16 = .ok (.ireturn, 1) := by decide +kernel
theorem dX5_meanAt_0 : decode cX5_meanAt 0 = .ok (.iconst 0, 1) := by decide +kernel
theorem dX5_meanAt_1 : decode cX5_meanAt 1 = .ok (.istore 5, 2) := by decide +kernel
theorem dX5_meanAt_3 : decode cX5_meanAt 3 = .ok (.iconst 0, 1) := by decide +kernel
theorem dX5_meanAt_4 : decode cX5_meanAt 4 = .ok (.istore 6, 2) := by decide +kernel
theorem dX5_meanAt_6 : decode cX5_meanAt 6 = .ok (.iload 6, 2) := by decide +kernel
theorem dX5_meanAt_8 : decode cX5_meanAt 8 = .ok (.aload_n 0, 1) := by decide +kernel
theorem dX5_meanAt_9 : decode cX5_meanAt 9 = .ok (.getfield 15, 3) := by decide +kernel
theorem dX5_meanAt_12 : decode cX5_meanAt 12 = .ok (.getfield 23, 3) := by decide +kernel
theorem dX5_meanAt_15 : decode cX5_meanAt 15 = .ok (.if_icmp .ge 39, 3) := by decide +kernel
theorem dX5_meanAt_18 : decode cX5_meanAt 18 = .ok (.iload 5, 2) := by decide +kernel
theorem dX5_meanAt_20 : decode cX5_meanAt 20 = .ok (.aload_n 0, 1) := by decide +kernel
theorem dX5_meanAt_21 : decode cX5_meanAt 21 = .ok (.iload_n 1, 1) := by decide +kernel
theorem dX5_meanAt_22 : decode cX5_meanAt 22 = .ok (.iload_n 2, 1) := by decide +kernel
theorem dX5_meanAt_23 : decode cX5_meanAt 23 = .ok (.iload_n 3, 1) := by decide +kernel
theorem dX5_meanAt_24 : decode cX5_meanAt 24 = .ok (.iload 4, 2) := by decide +kernel
theorem dX5_meanAt_26 : decode cX5_meanAt 26 = .ok (.iload 6, 2) := by decide +kernel
theorem dX5_meanAt_28 : decode cX5_meanAt 28 = .ok (.invokevirtual 72, 3) := by decide +kernel
theorem dX5_meanAt_31 : decode cX5_meanAt 31 = .ok (.invokestatic 85, 3) := by decide +kernel
theorem dX5_meanAt_34 : decode cX5_meanAt 34 = .ok (.aload_n 0, 1) := by decide +kernel
theorem dX5_meanAt_35 : decode cX5_meanAt 35 = .ok (.getfield 15, 3) := by decide +kernel
theorem dX5_meanAt_38 : decode cX5_meanAt 38 = .ok (.getfield 91, 3) := by decide +kernel
theorem dX5_meanAt_41 : decode cX5_meanAt 41 = .ok (.iload 6, 2) := by decide +kernel
theorem dX5_meanAt_43 : decode cX5_meanAt 43 = .ok (.iaload, 1) := by decide +kernel
theorem dX5_meanAt_44 : decode cX5_meanAt 44 = .ok (.imul, 1) := by decide +kernel
theorem dX5_meanAt_45 : decode cX5_meanAt 45 = .ok (.iadd, 1) := by decide +kernel
theorem dX5_meanAt_46 : decode cX5_meanAt 46 = .ok (.istore 5, 2) := by decide +kernel
theorem dX5_meanAt_48 : decode cX5_meanAt 48 = .ok (.iinc 6 1, 3) := by decide +kernel
theorem dX5_meanAt_51 : decode cX5_meanAt 51 = .ok (.goto (-45), 3) := by decide +kernel
theorem dX5_meanAt_54 : decode cX5_meanAt 54 = .ok (.iload 5, 2) := by decide +kernel
theorem dX5_meanAt_56 : decode cX5_meanAt 56 = .ok (.ireturn, 1) := by decide +kernel
theorem dX5_meanOf_0 : decode cX5_meanOf 0 = .ok (.aload_n 0, 1) := by decide +kernel
theorem dX5_meanOf_1 : decode cX5_meanOf 1 = .ok (.getfield 15, 3) := by decide +kernel
theorem dX5_meanOf_4 : decode cX5_meanOf 4 = .ok (.iload_n 1, 1) := by decide +kernel
theorem dX5_meanOf_5 : decode cX5_meanOf 5 = .ok (.invokevirtual 94, 3) := by decide +kernel
theorem dX5_meanOf_8 : decode cX5_meanOf 8 = .ok (.ifCond .eq 26, 3) := by decide +kernel
theorem dX5_meanOf_11 : decode cX5_meanOf 11 = .ok (.aload_n 0, 1) := by decide +kernel
theorem dX5_meanOf_12 : decode cX5_meanOf 12 = .ok (.iload_n 1, 1) := by decide +kernel
theorem dX5_meanOf_13 : decode cX5_meanOf 13 = .ok (.aload_n 0, 1) := by decide +kernel
theorem dX5_meanOf_14 : decode cX5_meanOf 14 = .ok (.getfield 19, 3) := by decide +kernel
theorem dX5_meanOf_17 : decode cX5_meanOf 17 = .ok (.getfield 65, 3) := by decide +kernel
theorem dX5_meanOf_20 : decode cX5_meanOf 20 = .ok (.iload_n 1, 1) := by decide +kernel
theorem dX5_meanOf_21 : decode cX5_meanOf 21 = .ok (.iaload, 1) := by decide +kernel
theorem dX5_meanOf_22 : decode cX5_meanOf 22 = .ok (.aload_n 0, 1) := by decide +kernel
theorem dX5_meanOf_23 : decode cX5_meanOf 23 = .ok (.iload_n 1, 1) := by decide +kernel
theorem dX5_meanOf_24 : decode cX5_meanOf 24 = .ok (.invokevirtual 68, 3) := by decide +kernel
theorem dX5_meanOf_27 : decode cX5_meanOf 27 = .ok (.iconst (-1), 1) := by decide +kernel
theorem dX5_meanOf_28 : decode cX5_meanOf 28 = .ok (.invokevirtual 97, 3) := by decide +kernel
theorem dX5_meanOf_31 : decode cX5_meanOf 31 = .ok (.goto 4, 3) := by decide +kernel
theorem dX5_meanOf_34 : decode cX5_meanOf 34 = .ok (.iconst 0, 1) := by decide +kernel
theorem dX5_meanOf_35 : decode cX5_meanOf 35 = .ok (.ireturn, 1) := by decide +kernel
theorem dX5_meanOfAll_0 : decode cX5_meanOfAll 0 = .ok (.iconst 0, 1) := by decide +kernel
theorem dX5_meanOfAll_1 : decode cX5_meanOfAll 1 = .ok (.istore_n 1, 1) := by decide +kernel
theorem dX5_meanOfAll_2 : decode cX5_meanOfAll 2 = .ok (.iconst 0, 1) := by decide +kernel
theorem dX5_meanOfAll_3 : decode cX5_meanOfAll 3 = .ok (.istore_n 2, 1) := by decide +kernel
theorem dX5_meanOfAll_4 : decode cX5_meanOfAll 4 = .ok (.iload_n 2, 1) := by decide +kernel
theorem dX5_meanOfAll_5 : decode cX5_meanOfAll 5 = .ok (.aload_n 0, 1) := by decide +kernel
theorem dX5_meanOfAll_6 : decode cX5_meanOfAll 6 = .ok (.getfield 15, 3) := by decide +kernel
theorem dX5_meanOfAll_9 : decode cX5_meanOfAll 9 = .ok (.getfield 56, 3) := by decide +kernel
theorem dX5_meanOfAll_12 : decode cX5_meanOfAll 12 = .ok (.if_icmp .ge 32, 3) := by decide +kernel
theorem dX5_meanOfAll_15 : decode cX5_meanOfAll 15 = .ok (.iload_n 1, 1) := by decide +kernel
theorem dX5_meanOfAll_16 : decode cX5_meanOfAll 16 = .ok (.aload_n 0, 1) := by decide +kernel
theorem dX5_meanOfAll_17 : decode cX5_meanOfAll 17 = .ok (.iload_n 2, 1) := by decide +kernel
theorem dX5_meanOfAll_18 : decode cX5_meanOfAll 18 = .ok (.aload_n 0, 1) := by decide +kernel
theorem dX5_meanOfAll_19 : decode cX5_meanOfAll 19 = .ok (.getfield 19, 3) := by decide +kernel
theorem dX5_meanOfAll_22 : decode cX5_meanOfAll 22 = .ok (.getfield 65, 3) := by decide +kernel
theorem dX5_meanOfAll_25 : decode cX5_meanOfAll 25 = .ok (.iload_n 2, 1) := by decide +kernel
theorem dX5_meanOfAll_26 : decode cX5_meanOfAll 26 = .ok (.iaload, 1) := by decide +kernel
theorem dX5_meanOfAll_27 : decode cX5_meanOfAll 27 = .ok (.aload_n 0, 1) := by decide +kernel
theorem dX5_meanOfAll_28 : decode cX5_meanOfAll 28 = .ok (.iload_n 2, 1) := by decide +kernel
theorem dX5_meanOfAll_29 : decode cX5_meanOfAll 29 = .ok (.invokevirtual 68, 3) := by decide +kernel
theorem dX5_meanOfAll_32 : decode cX5_meanOfAll 32 = .ok (.iconst (-1), 1) := by decide +kernel
theorem dX5_meanOfAll_33 : decode cX5_meanOfAll 33 = .ok (.invokevirtual 97, 3) := by decide +kernel
theorem dX5_meanOfAll_36 : decode cX5_meanOfAll 36 = .ok (.iadd, 1) := by decide +kernel
theorem dX5_meanOfAll_37 : decode cX5_meanOfAll 37 = .ok (.istore_n 1, 1) := by decide +kernel
theorem dX5_meanOfAll_38 : decode cX5_meanOfAll 38 = .ok (.iinc 2 1, 3) := by decide +kernel
theorem dX5_meanOfAll_41 : decode cX5_meanOfAll 41 = .ok (.goto (-37), 3) := by decide +kernel
theorem dX5_meanOfAll_44 : decode cX5_meanOfAll 44 = .ok (.iload_n 1, 1) := by decide +kernel
theorem dX5_meanOfAll_45 : decode cX5_meanOfAll 45 = .ok (.ireturn, 1) := by decide +kernel
theorem dX5_worstAt_0 : decode cX5_worstAt 0 = .ok (.iconst 0, 1) := by decide +kernel
theorem dX5_worstAt_1 : decode cX5_worstAt 1 = .ok (.istore_n 3, 1) := by decide +kernel
theorem dX5_worstAt_2 : decode cX5_worstAt 2 = .ok (.iconst 0, 1) := by decide +kernel
theorem dX5_worstAt_3 : decode cX5_worstAt 3 = .ok (.istore 4, 2) := by decide +kernel
theorem dX5_worstAt_5 : decode cX5_worstAt 5 = .ok (.iload 4, 2) := by decide +kernel
theorem dX5_worstAt_7 : decode cX5_worstAt 7 = .ok (.aload_n 0, 1) := by decide +kernel
theorem dX5_worstAt_8 : decode cX5_worstAt 8 = .ok (.getfield 15, 3) := by decide +kernel
theorem dX5_worstAt_11 : decode cX5_worstAt 11 = .ok (.getfield 23, 3) := by decide +kernel
theorem dX5_worstAt_14 : decode cX5_worstAt 14 = .ok (.if_icmp .ge 35, 3) := by decide +kernel
theorem dX5_worstAt_17 : decode cX5_worstAt 17 = .ok (.aload_n 0, 1) := by decide +kernel
theorem dX5_worstAt_18 : decode cX5_worstAt 18 = .ok (.getfield 15, 3) := by decide +kernel
theorem dX5_worstAt_21 : decode cX5_worstAt 21 = .ok (.getfield 91, 3) := by decide +kernel
theorem dX5_worstAt_24 : decode cX5_worstAt 24 = .ok (.iload 4, 2) := by decide +kernel
theorem dX5_worstAt_26 : decode cX5_worstAt 26 = .ok (.iaload, 1) := by decide +kernel
theorem dX5_worstAt_27 : decode cX5_worstAt 27 = .ok (.ifCond .le 16, 3) := by decide +kernel
theorem dX5_worstAt_30 : decode cX5_worstAt 30 = .ok (.iload_n 3, 1) := by decide +kernel
theorem dX5_worstAt_31 : decode cX5_worstAt 31 = .ok (.aload_n 0, 1) := by decide +kernel
theorem dX5_worstAt_32 : decode cX5_worstAt 32 = .ok (.iload_n 1, 1) := by decide +kernel
theorem dX5_worstAt_33 : decode cX5_worstAt 33 = .ok (.iload_n 2, 1) := by decide +kernel
theorem dX5_worstAt_34 : decode cX5_worstAt 34 = .ok (.iload 4, 2) := by decide +kernel
theorem dX5_worstAt_36 : decode cX5_worstAt 36 = .ok (.invokevirtual 101, 3) := by decide +kernel
theorem dX5_worstAt_39 : decode cX5_worstAt 39 = .ok (.invokestatic 105, 3) := by decide +kernel
theorem dX5_worstAt_42 : decode cX5_worstAt 42 = .ok (.istore_n 3, 1) := by decide +kernel
theorem dX5_worstAt_43 : decode cX5_worstAt 43 = .ok (.iinc 4 1, 3) := by decide +kernel
theorem dX5_worstAt_46 : decode cX5_worstAt 46 = .ok (.goto (-41), 3) := by decide +kernel
theorem dX5_worstAt_49 : decode cX5_worstAt 49 = .ok (.iload_n 3, 1) := by decide +kernel
theorem dX5_worstAt_50 : decode cX5_worstAt 50 = .ok (.ireturn, 1) := by decide +kernel
theorem dX5_owedByAll_0 : decode cX5_owedByAll 0 = .ok (.iconst 0, 1) := by decide +kernel
theorem dX5_owedByAll_1 : decode cX5_owedByAll 1 = .ok (.istore_n 2, 1) := by decide +kernel
theorem dX5_owedByAll_2 : decode cX5_owedByAll 2 = .ok (.iconst 0, 1) := by decide +kernel
theorem dX5_owedByAll_3 : decode cX5_owedByAll 3 = .ok (.istore_n 3, 1) := by decide +kernel
theorem dX5_owedByAll_4 : decode cX5_owedByAll 4 = .ok (.iload_n 3, 1) := by decide +kernel
theorem dX5_owedByAll_5 : decode cX5_owedByAll 5 = .ok (.aload_n 0, 1) := by decide +kernel
theorem dX5_owedByAll_6 : decode cX5_owedByAll 6 = .ok (.getfield 15, 3) := by decide +kernel
theorem dX5_owedByAll_9 : decode cX5_owedByAll 9 = .ok (.getfield 56, 3) := by decide +kernel
theorem dX5_owedByAll_12 : decode cX5_owedByAll 12 = .ok (.if_icmp .ge 27, 3) := by decide +kernel
theorem dX5_owedByAll_15 : decode cX5_owedByAll 15 = .ok (.iload_n 2, 1) := by decide +kernel
theorem dX5_owedByAll_16 : decode cX5_owedByAll 16 = .ok (.aload_n 0, 1) := by decide +kernel
theorem dX5_owedByAll_17 : decode cX5_owedByAll 17 = .ok (.iload_n 3, 1) := by decide +kernel
theorem dX5_owedByAll_18 : decode cX5_owedByAll 18 = .ok (.aload_n 0, 1) := by decide +kernel
theorem dX5_owedByAll_19 : decode cX5_owedByAll 19 = .ok (.getfield 19, 3) := by decide +kernel
theorem dX5_owedByAll_22 : decode cX5_owedByAll 22 = .ok (.getfield 65, 3) := by decide +kernel
theorem dX5_owedByAll_25 : decode cX5_owedByAll 25 = .ok (.iload_n 3, 1) := by decide +kernel
theorem dX5_owedByAll_26 : decode cX5_owedByAll 26 = .ok (.iaload, 1) := by decide +kernel
theorem dX5_owedByAll_27 : decode cX5_owedByAll 27 = .ok (.iload_n 1, 1) := by decide +kernel
theorem dX5_owedByAll_28 : decode cX5_owedByAll 28 = .ok (.invokevirtual 101, 3) := by decide +kernel
theorem dX5_owedByAll_31 : decode cX5_owedByAll 31 = .ok (.iadd, 1) := by decide +kernel
theorem dX5_owedByAll_32 : decode cX5_owedByAll 32 = .ok (.istore_n 2, 1) := by decide +kernel
theorem dX5_owedByAll_33 : decode cX5_owedByAll 33 = .ok (.iinc 3 1, 3) := by decide +kernel
theorem dX5_owedByAll_36 : decode cX5_owedByAll 36 = .ok (.goto (-32), 3) := by decide +kernel
theorem dX5_owedByAll_39 : decode cX5_owedByAll 39 = .ok (.iload_n 2, 1) := by decide +kernel
theorem dX5_owedByAll_40 : decode cX5_owedByAll 40 = .ok (.ireturn, 1) := by decide +kernel
theorem dX5_richestHour_0 : decode cX5_richestHour 0 = .ok (.iconst (-1), 1) := by decide +kernel
theorem dX5_richestHour_1 : decode cX5_richestHour 1 = .ok (.istore_n 1, 1) := by decide +kernel
theorem dX5_richestHour_2 : decode cX5_richestHour 2 = .ok (.iconst (-1), 1) := by decide +kernel
theorem dX5_richestHour_3 : decode cX5_richestHour 3 = .ok (.istore_n 2, 1) := by decide +kernel
theorem dX5_richestHour_4 : decode cX5_richestHour 4 = .ok (.iconst 0, 1) := by decide +kernel
theorem dX5_richestHour_5 : decode cX5_richestHour 5 = .ok (.istore_n 3, 1) := by decide +kernel
theorem dX5_richestHour_6 : decode cX5_richestHour 6 = .ok (.iload_n 3, 1) := by decide +kernel
theorem dX5_richestHour_7 : decode cX5_richestHour 7 = .ok (.aload_n 0, 1) := by decide +kernel
theorem dX5_richestHour_8 : decode cX5_richestHour 8 = .ok (.getfield 15, 3) := by decide +kernel
theorem dX5_richestHour_11 : decode cX5_richestHour 11 = .ok (.getfield 23, 3) := by decide +kernel
theorem dX5_richestHour_14 : decode cX5_richestHour 14 = .ok (.if_icmp .ge 27, 3) := by decide +kernel
theorem dX5_richestHour_17 : decode cX5_richestHour 17 = .ok (.aload_n 0, 1) := by decide +kernel
theorem dX5_richestHour_18 : decode cX5_richestHour 18 = .ok (.iload_n 3, 1) := by decide +kernel
theorem dX5_richestHour_19 : decode cX5_richestHour 19 = .ok (.invokevirtual 111, 3) := by decide +kernel
theorem dX5_richestHour_22 : decode cX5_richestHour 22 = .ok (.istore 4, 2) := by decide +kernel
theorem dX5_richestHour_24 : decode cX5_richestHour 24 = .ok (.iload 4, 2) := by decide +kernel
theorem dX5_richestHour_26 : decode cX5_richestHour 26 = .ok (.iload_n 2, 1) := by decide +kernel
theorem dX5_richestHour_27 : decode cX5_richestHour 27 = .ok (.if_icmp .le 8, 3) := by decide +kernel
theorem dX5_richestHour_30 : decode cX5_richestHour 30 = .ok (.iload 4, 2) := by decide +kernel
theorem dX5_richestHour_32 : decode cX5_richestHour 32 = .ok (.istore_n 2, 1) := by decide +kernel
theorem dX5_richestHour_33 : decode cX5_richestHour 33 = .ok (.iload_n 3, 1) := by decide +kernel
theorem dX5_richestHour_34 : decode cX5_richestHour 34 = .ok (.istore_n 1, 1) := by decide +kernel
theorem dX5_richestHour_35 : decode cX5_richestHour 35 = .ok (.iinc 3 1, 3) := by decide +kernel
theorem dX5_richestHour_38 : decode cX5_richestHour 38 = .ok (.goto (-32), 3) := by decide +kernel
theorem dX5_richestHour_41 : decode cX5_richestHour 41 = .ok (.iload_n 1, 1) := by decide +kernel
theorem dX5_richestHour_42 : decode cX5_richestHour 42 = .ok (.ireturn, 1) := by decide +kernel
theorem dX6_init_0 : decode cX6_init 0 = .ok (.aload_n 0, 1) := by decide +kernel
theorem dX6_init_1 : decode cX6_init 1 = .ok (.invokespecial 3, 3) := by decide +kernel
theorem dX6_init_4 : decode cX6_init 4 = .ok (.aload_n 0, 1) := by decide +kernel
theorem dX6_init_5 : decode cX6_init 5 = .ok (.bipush 6, 2) := by decide +kernel
theorem dX6_init_7 : decode cX6_init 7 = .ok (.newarray .int, 2) := by decide +kernel
theorem dX6_init_9 : decode cX6_init 9 = .ok (.putfield 9, 3) := by decide +kernel
theorem dX6_init_12 : decode cX6_init 12 = .ok (.aload_n 0, 1) := by decide +kernel
theorem dX6_init_13 : decode cX6_init 13 = .ok (.bipush 6, 2) := by decide +kernel
theorem dX6_init_15 : decode cX6_init 15 = .ok (.newarray .int, 2) := by decide +kernel
theorem dX6_init_17 : decode cX6_init 17 = .ok (.putfield 15, 3) := by decide +kernel
theorem dX6_init_20 : decode cX6_init 20 = .ok (.aload_n 0, 1) := by decide +kernel
theorem dX6_init_21 : decode cX6_init 21 = .ok (.bipush 6, 2) := by decide +kernel
theorem dX6_init_23 : decode cX6_init 23 = .ok (.newarray .int, 2) := by decide +kernel
theorem dX6_init_25 : decode cX6_init 25 = .ok (.putfield 18, 3) := by decide +kernel
theorem dX6_init_28 : decode cX6_init 28 = .ok (.aload_n 0, 1) := by decide +kernel
theorem dX6_init_29 : decode cX6_init 29 = .ok (.bipush 48, 2) := by decide +kernel
theorem dX6_init_31 : decode cX6_init 31 = .ok (.newarray .int, 2) := by decide +kernel
theorem dX6_init_33 : decode cX6_init 33 = .ok (.putfield 21, 3) := by decide +kernel
theorem dX6_init_36 : decode cX6_init 36 = .ok (.return_, 1) := by decide +kernel
theorem dX6_begin_0 : decode cX6_begin 0 = .ok (.iconst 0, 1) := by decide +kernel
theorem dX6_begin_1 : decode cX6_begin 1 = .ok (.istore_n 2, 1) := by decide +kernel
theorem dX6_begin_2 : decode cX6_begin 2 = .ok (.iload_n 2, 1) := by decide +kernel
theorem dX6_begin_3 : decode cX6_begin 3 = .ok (.bipush 6, 2) := by decide +kernel
theorem dX6_begin_5 : decode cX6_begin 5 = .ok (.if_icmp .ge 35, 3) := by decide +kernel
theorem dX6_begin_8 : decode cX6_begin 8 = .ok (.aload_n 0, 1) := by decide +kernel
theorem dX6_begin_9 : decode cX6_begin 9 = .ok (.getfield 9, 3) := by decide +kernel
theorem dX6_begin_12 : decode cX6_begin 12 = .ok (.iload_n 2, 1) := by decide +kernel
theorem dX6_begin_13 : decode cX6_begin 13 = .ok (.aload_n 1, 1) := by decide +kernel
theorem dX6_begin_14 : decode cX6_begin 14 = .ok (.getfield 24, 3) := by decide +kernel
theorem dX6_begin_17 : decode cX6_begin 17 = .ok (.iload_n 2, 1) := by decide +kernel
theorem dX6_begin_18 : decode cX6_begin 18 = .ok (.iaload, 1) := by decide +kernel
theorem dX6_begin_19 : decode cX6_begin 19 = .ok (.iastore, 1) := by decide +kernel
theorem dX6_begin_20 : decode cX6_begin 20 = .ok (.aload_n 0, 1) := by decide +kernel
theorem dX6_begin_21 : decode cX6_begin 21 = .ok (.getfield 15, 3) := by decide +kernel
theorem dX6_begin_24 : decode cX6_begin 24 = .ok (.iload_n 2, 1) := by decide +kernel
theorem dX6_begin_25 : decode cX6_begin 25 = .ok (.iconst 0, 1) := by decide +kernel
theorem dX6_begin_26 : decode cX6_begin 26 = .ok (.iastore, 1) := by decide +kernel
theorem dX6_begin_27 : decode cX6_begin 27 = .ok (.aload_n 0, 1) := by decide +kernel
theorem dX6_begin_28 : decode cX6_begin 28 = .ok (.getfield 18, 3) := by decide +kernel
theorem dX6_begin_31 : decode cX6_begin 31 = .ok (.iload_n 2, 1) := by decide +kernel
theorem dX6_begin_32 : decode cX6_begin 32 = .ok (.iconst 0, 1) := by decide +kernel
theorem dX6_begin_33 : decode cX6_begin 33 = .ok (.iastore, 1) := by decide +kernel
theorem dX6_begin_34 : decode cX6_begin 34 = .ok (.iinc 2 1, 3) := by decide +kernel
theorem dX6_begin_37 : decode cX6_begin 37 = .ok (.goto (-35), 3) := by decide +kernel
theorem dX6_begin_40 : decode cX6_begin 40 = .ok (.iconst 0, 1) := by decide +kernel
theorem dX6_begin_41 : decode cX6_begin 41 = .ok (.istore_n 2, 1) := by decide +kernel
theorem dX6_begin_42 : decode cX6_begin 42 = .ok (.iload_n 2, 1) := by decide +kernel
theorem dX6_begin_43 : decode cX6_begin 43 = .ok (.bipush 48, 2) := by decide +kernel
theorem dX6_begin_45 : decode cX6_begin 45 = .ok (.if_icmp .ge 21, 3) := by decide +kernel
theorem dX6_begin_48 : decode cX6_begin 48 = .ok (.aload_n 0, 1) := by decide +kernel
theorem dX6_begin_49 : decode cX6_begin 49 = .ok (.getfield 21, 3) := by decide +kernel
theorem dX6_begin_52 : decode cX6_begin 52 = .ok (.iload_n 2, 1) := by decide +kernel
theorem dX6_begin_53 : decode cX6_begin 53 = .ok (.aload_n 1, 1) := by decide +kernel
theorem dX6_begin_54 : decode cX6_begin 54 = .ok (.getfield 29, 3) := by decide +kernel
theorem dX6_begin_57 : decode cX6_begin 57 = .ok (.iload_n 2, 1) := by decide +kernel
theorem dX6_begin_58 : decode cX6_begin 58 = .ok (.iaload, 1) := by decide +kernel
theorem dX6_begin_59 : decode cX6_begin 59 = .ok (.iastore, 1) := by decide +kernel
theorem dX6_begin_60 : decode cX6_begin 60 = .ok (.iinc 2 1, 3) := by decide +kernel
theorem dX6_begin_63 : decode cX6_begin 63 = .ok (.goto (-21), 3) := by decide +kernel
theorem dX6_begin_66 : decode cX6_begin 66 = .ok (.aload_n 0, 1) := by decide +kernel
theorem dX6_begin_67 : decode cX6_begin 67 = .ok (.iconst 0, 1) := by decide +kernel
theorem dX6_begin_68 : decode cX6_begin 68 = .ok (.putfield 30, 3) := by decide +kernel
theorem dX6_begin_71 : decode cX6_begin 71 = .ok (.return_, 1) := by decide +kernel
theorem dX6_copyFrom_0 : decode cX6_copyFrom 0 = .ok (.iconst 0, 1) := by decide +kernel
theorem dX6_copyFrom_1 : decode cX6_copyFrom 1 = .ok (.istore_n 2, 1) := by decide +kernel
theorem dX6_copyFrom_2 : decode cX6_copyFrom 2 = .ok (.iload_n 2, 1) := by decide +kernel
theorem dX6_copyFrom_3 : decode cX6_copyFrom 3 = .ok (.bipush 6, 2) := by decide +kernel
theorem dX6_copyFrom_5 : decode cX6_copyFrom 5 = .ok (.if_icmp .ge 45, 3) := by decide +kernel
theorem dX6_copyFrom_8 : decode cX6_copyFrom 8 = .ok (.aload_n 0, 1) := by decide +kernel
theorem dX6_copyFrom_9 : decode cX6_copyFrom 9 = .ok (.getfield 9, 3) := by decide +kernel
theorem dX6_copyFrom_12 : decode cX6_copyFrom 12 = .ok (.iload_n 2, 1) := by decide +kernel
theorem dX6_copyFrom_13 : decode cX6_copyFrom 13 = .ok (.aload_n 1, 1) := by decide +kernel
theorem dX6_copyFrom_14 : decode cX6_copyFrom 14 = .ok (.getfield 9, 3) := by decide +kernel
theorem dX6_copyFrom_17 : decode cX6_copyFrom 17 = .ok (.iload_n 2, 1) := by decide +kernel
theorem dX6_copyFrom_18 : decode cX6_copyFrom 18 = .ok (.iaload, 1) := by decide +kernel
theorem dX6_copyFrom_19 : decode cX6_copyFrom 19 = .ok (.iastore, 1) := by decide +kernel
theorem dX6_copyFrom_20 : decode cX6_copyFrom 20 = .ok (.aload_n 0, 1) := by decide +kernel
theorem dX6_copyFrom_21 : decode cX6_copyFrom 21 = .ok (.getfield 15, 3) := by decide +kernel
theorem dX6_copyFrom_24 : decode cX6_copyFrom 24 = .ok (.iload_n 2, 1) := by decide +kernel
theorem dX6_copyFrom_25 : decode cX6_copyFrom 25 = .ok (.aload_n 1, 1) := by decide +kernel
theorem dX6_copyFrom_26 : decode cX6_copyFrom 26 = .ok (.getfield 15, 3) := by decide +kernel
theorem dX6_copyFrom_29 : decode cX6_copyFrom 29 = .ok (.iload_n 2, 1) := by decide +kernel
theorem dX6_copyFrom_30 : decode cX6_copyFrom 30 = .ok (.iaload, 1) := by decide +kernel
theorem dX6_copyFrom_31 : decode cX6_copyFrom 31 = .ok (.iastore, 1) := by decide +kernel
theorem dX6_copyFrom_32 : decode cX6_copyFrom 32 = .ok (.aload_n 0, 1) := by decide +kernel
theorem dX6_copyFrom_33 : decode cX6_copyFrom 33 = .ok (.getfield 18, 3) := by decide +kernel
theorem dX6_copyFrom_36 : decode cX6_copyFrom 36 = .ok (.iload_n 2, 1) := by decide +kernel
theorem dX6_copyFrom_37 : decode cX6_copyFrom 37 = .ok (.aload_n 1, 1) := by decide +kernel
theorem dX6_copyFrom_38 : decode cX6_copyFrom 38 = .ok (.getfield 18, 3) := by decide +kernel
theorem dX6_copyFrom_41 : decode cX6_copyFrom 41 = .ok (.iload_n 2, 1) := by decide +kernel
theorem dX6_copyFrom_42 : decode cX6_copyFrom 42 = .ok (.iaload, 1) := by decide +kernel
theorem dX6_copyFrom_43 : decode cX6_copyFrom 43 = .ok (.iastore, 1) := by decide +kernel
theorem dX6_copyFrom_44 : decode cX6_copyFrom 44 = .ok (.iinc 2 1, 3) := by decide +kernel
theorem dX6_copyFrom_47 : decode cX6_copyFrom 47 = .ok (.goto (-45), 3) := by decide +kernel
theorem dX6_copyFrom_50 : decode cX6_copyFrom 50 = .ok (.iconst 0, 1) := by decide +kernel
theorem dX6_copyFrom_51 : decode cX6_copyFrom 51 = .ok (.istore_n 2, 1) := by decide +kernel
theorem dX6_copyFrom_52 : decode cX6_copyFrom 52 = .ok (.iload_n 2, 1) := by decide +kernel
theorem dX6_copyFrom_53 : decode cX6_copyFrom 53 = .ok (.bipush 48, 2) := by decide +kernel
theorem dX6_copyFrom_55 : decode cX6_copyFrom 55 = .ok (.if_icmp .ge 21, 3) := by decide +kernel
theorem dX6_copyFrom_58 : decode cX6_copyFrom 58 = .ok (.aload_n 0, 1) := by decide +kernel
theorem dX6_copyFrom_59 : decode cX6_copyFrom 59 = .ok (.getfield 21, 3) := by decide +kernel
theorem dX6_copyFrom_62 : decode cX6_copyFrom 62 = .ok (.iload_n 2, 1) := by decide +kernel
theorem dX6_copyFrom_63 : decode cX6_copyFrom 63 = .ok (.aload_n 1, 1) := by decide +kernel
theorem dX6_copyFrom_64 : decode cX6_copyFrom 64 = .ok (.getfield 21, 3) := by decide +kernel
theorem dX6_copyFrom_67 : decode cX6_copyFrom 67 = .ok (.iload_n 2, 1) := by decide +kernel
theorem dX6_copyFrom_68 : decode cX6_copyFrom 68 = .ok (.iaload, 1) := by decide +kernel
theorem dX6_copyFrom_69 : decode cX6_copyFrom 69 = .ok (.iastore, 1) := by decide +kernel
theorem dX6_copyFrom_70 : decode cX6_copyFrom 70 = .ok (.iinc 2 1, 3) := by decide +kernel
theorem dX6_copyFrom_73 : decode cX6_copyFrom 73 = .ok (.goto (-21), 3) := by decide +kernel
theorem dX6_copyFrom_76 : decode cX6_copyFrom 76 = .ok (.aload_n 0, 1) := by decide +kernel
theorem dX6_copyFrom_77 : decode cX6_copyFrom 77 = .ok (.aload_n 1, 1) := by decide +kernel
theorem dX6_copyFrom_78 : decode cX6_copyFrom 78 = .ok (.getfield 30, 3) := by decide +kernel
theorem dX6_copyFrom_81 : decode cX6_copyFrom 81 = .ok (.putfield 30, 3) := by decide +kernel
theorem dX6_copyFrom_84 : decode cX6_copyFrom 84 = .ok (.aload_n 0, 1) := by decide +kernel
theorem dX6_copyFrom_85 : decode cX6_copyFrom 85 = .ok (.aload_n 1, 1) := by decide +kernel
theorem dX6_copyFrom_86 : decode cX6_copyFrom 86 = .ok (.getfield 34, 3) := by decide +kernel
theorem dX6_copyFrom_89 : decode cX6_copyFrom 89 = .ok (.putfield 34, 3) := by decide +kernel
theorem dX6_copyFrom_92 : decode cX6_copyFrom 92 = .ok (.aload_n 0, 1) := by decide +kernel
theorem dX6_copyFrom_93 : decode cX6_copyFrom 93 = .ok (.aload_n 1, 1) := by decide +kernel
theorem dX6_copyFrom_94 : decode cX6_copyFrom 94 = .ok (.getfield 37, 3) := by decide +kernel
theorem dX6_copyFrom_97 : decode cX6_copyFrom 97 = .ok (.putfield 37, 3) := by decide +kernel
theorem dX6_copyFrom_100 : decode cX6_copyFrom 100 = .ok (.return_, 1) := by decide +kernel
theorem dX6_draw_0 : decode cX6_draw 0 = .ok (.iload_n 1, 1) := by decide +kernel
theorem dX6_draw_1 : decode cX6_draw 1 = .ok (.iconst 1, 1) := by decide +kernel
theorem dX6_draw_2 : decode cX6_draw 2 = .ok (.if_icmp .ge 5, 3) := by decide +kernel
theorem dX6_draw_5 : decode cX6_draw 5 = .ok (.iconst 0, 1) := by decide +kernel
theorem dX6_draw_6 : decode cX6_draw 6 = .ok (.ireturn, 1) := by decide +kernel
theorem dX6_draw_7 : decode cX6_draw 7 = .ok (.aload_n 0, 1) := by decide +kernel
theorem dX6_draw_8 : decode cX6_draw 8 = .ok (.aload_n 0, 1) := by decide +kernel
theorem dX6_draw_9 : decode cX6_draw 9 = .ok (.getfield 37, 3) := by decide +kernel
theorem dX6_draw_12 : decode cX6_draw 12 = .ok (.i2l, 1) := by decide +kernel
theorem dX6_draw_13 : decode cX6_draw 13 = .ok (.ldc2_w 40, 3) := by decide +kernel
theorem dX6_draw_16 : decode cX6_draw 16 = .ok (.lmul, 1) := by decide +kernel
theorem dX6_draw_17 : decode cX6_draw 17 = .ok (.ldc2_w 42, 3) := by decide +kernel
theorem dX6_draw_20 : decode cX6_draw 20 = .ok (.ladd, 1) := by decide +kernel
theorem dX6_draw_21 : decode cX6_draw 21 = .ok (.ldc2_w 44, 3) := by decide +kernel
theorem dX6_draw_24 : decode cX6_draw 24 = .ok (.land, 1) := by decide +kernel
theorem dX6_draw_25 : decode cX6_draw 25 = .ok (.l2i, 1) := by decide +kernel
theorem dX6_draw_26 : decode cX6_draw 26 = .ok (.putfield 37, 3) := by decide +kernel
theorem dX6_draw_29 : decode cX6_draw 29 = .ok (.aload_n 0, 1) := by decide +kernel
theorem dX6_draw_30 : decode cX6_draw 30 = .ok (.getfield 37, 3) := by decide +kernel
theorem dX6_draw_33 : decode cX6_draw 33 = .ok (.ldc 46, 2) := by decide +kernel
theorem dX6_draw_35 : decode cX6_draw 35 = .ok (.idiv, 1) := by decide +kernel
theorem dX6_draw_36 : decode cX6_draw 36 = .ok (.iload_n 1, 1) := by decide +kernel
theorem dX6_draw_37 : decode cX6_draw 37 = .ok (.irem, 1) := by decide +kernel
theorem dX6_draw_38 : decode cX6_draw 38 = .ok (.ireturn, 1) := by decide +kernel
theorem dX7_init_0 : decode cX7_init 0 = .ok (.aload_n 0, 1) := by decide +kernel
theorem dX7_init_1 : decode cX7_init 1 = .ok (.invokespecial 3, 3) := by decide +kernel
theorem dX7_init_4 : decode cX7_init 4 = .ok (.aload_n 0, 1) := by decide +kernel
theorem dX7_init_5 : decode cX7_init 5 = .ok (.bipush 6, 2) := by decide +kernel
theorem dX7_init_7 : decode cX7_init 7 = .ok (.bipush 48, 2) := by decide +kernel
theorem dX7_init_9 : decode cX7_init 9 = .ok (.multianewarray 9 2, 4) := by decide +kernel
theorem dX7_init_13 : decode cX7_init 13 = .ok (.putfield 11, 3) := by decide +kernel
theorem dX7_init_16 : decode cX7_init 16 = .ok (.aload_n 0, 1) := by decide +kernel
theorem dX7_init_17 : decode cX7_init 17 = .ok (.aload_n 1, 1) := by decide +kernel
theorem dX7_init_18 : decode cX7_init 18 = .ok (.putfield 16, 3) := by decide +kernel
theorem dX7_init_21 : decode cX7_init 21 = .ok (.aload_n 0, 1) := by decide +kernel
theorem dX7_init_22 : decode cX7_init 22 = .ok (.aload_n 1, 1) := by decide +kernel
theorem dX7_init_23 : decode cX7_init 23 = .ok (.getfield 20, 3) := by decide +kernel
theorem dX7_init_26 : decode cX7_init 26 = .ok (.putfield 26, 3) := by decide +kernel
theorem dX7_init_29 : decode cX7_init 29 = .ok (.aload_n 0, 1) := by decide +kernel
theorem dX7_init_30 : decode cX7_init 30 = .ok (.aload_n 1, 1) := by decide +kernel
theorem dX7_init_31 : decode cX7_init 31 = .ok (.getfield 27, 3) := by decide +kernel
theorem dX7_init_34 : decode cX7_init 34 = .ok (.putfield 31, 3) := by decide +kernel
theorem dX7_init_37 : decode cX7_init 37 = .ok (.aload_n 0, 1) := by decide +kernel
theorem dX7_init_38 : decode cX7_init 38 = .ok (.aload_n 2, 1) := by decide +kernel
theorem dX7_init_39 : decode cX7_init 39 = .ok (.putfield 32, 3) := by decide +kernel
theorem dX7_init_42 : decode cX7_init 42 = .ok (.return_, 1) := by decide +kernel
theorem dX7_leastMean_0 : decode cX7_leastMean 0 = .ok (.aload_n 0, 1) := by decide +kernel
theorem dX7_leastMean_1 : decode cX7_leastMean 1 = .ok (.getfield 26, 3) := by decide +kernel
theorem dX7_leastMean_4 : decode cX7_leastMean 4 = .ok (.iload_n 1, 1) := by decide +kernel
theorem dX7_leastMean_5 : decode cX7_leastMean 5 = .ok (.invokevirtual 36, 3) := by decide +kernel
theorem dX7_leastMean_8 : decode cX7_leastMean 8 = .ok (.ifCond .eq 13, 3) := by decide +kernel
theorem dX7_leastMean_11 : decode cX7_leastMean 11 = .ok (.aload_n 0, 1) := by decide +kernel
theorem dX7_leastMean_12 : decode cX7_leastMean 12 = .ok (.getfield 26, 3) := by decide +kernel
theorem dX7_leastMean_15 : decode cX7_leastMean 15 = .ok (.getfield 42, 3) := by decide +kernel
theorem dX7_leastMean_18 : decode cX7_leastMean 18 = .ok (.ifCond .ne 5, 3) := by decide +kernel
theorem dX7_leastMean_21 : decode cX7_leastMean 21 = .ok (.iconst 0, 1) := by decide +kernel
theorem dX7_leastMean_22 : decode cX7_leastMean 22 = .ok (.ireturn, 1) := by decide +kernel
theorem dX7_leastMean_23 : decode cX7_leastMean 23 = .ok (.aload_n 0, 1) := by decide +kernel
theorem dX7_leastMean_24 : decode cX7_leastMean 24 = .ok (.getfield 26, 3) := by decide +kernel
theorem dX7_leastMean_27 : decode cX7_leastMean 27 = .ok (.getfield 42, 3) := by decide +kernel
theorem dX7_leastMean_30 : decode cX7_leastMean 30 = .ok (.iconst 1, 1) := by decide +kernel
theorem dX7_leastMean_31 : decode cX7_leastMean 31 = .ok (.isub, 1) := by decide +kernel
theorem dX7_leastMean_32 : decode cX7_leastMean 32 = .ok (.istore_n 2, 1) := by decide +kernel
theorem dX7_leastMean_33 : decode cX7_leastMean 33 = .ok (.iload_n 2, 1) := by decide +kernel
theorem dX7_leastMean_34 : decode cX7_leastMean 34 = .ok (.ifCond .lt 43, 3) := by decide +kernel
theorem dX7_leastMean_37 : decode cX7_leastMean 37 = .ok (.iconst 0, 1) := by decide +kernel
theorem dX7_leastMean_38 : decode cX7_leastMean 38 = .ok (.istore_n 3, 1) := by decide +kernel
theorem dX7_leastMean_39 : decode cX7_leastMean 39 = .ok (.iload_n 3, 1) := by decide +kernel
theorem dX7_leastMean_40 : decode cX7_leastMean 40 = .ok (.aload_n 0, 1) := by decide +kernel
theorem dX7_leastMean_41 : decode cX7_leastMean 41 = .ok (.getfield 26, 3) := by decide +kernel
theorem dX7_leastMean_44 : decode cX7_leastMean 44 = .ok (.getfield 46, 3) := by decide +kernel
theorem dX7_leastMean_47 : decode cX7_leastMean 47 = .ok (.if_icmp .ge 24, 3) := by decide +kernel
theorem dX7_leastMean_50 : decode cX7_leastMean 50 = .ok (.aload_n 0, 1) := by decide +kernel
theorem dX7_leastMean_51 : decode cX7_leastMean 51 = .ok (.getfield 11, 3) := by decide +kernel
theorem dX7_leastMean_54 : decode cX7_leastMean 54 = .ok (.iload_n 2, 1) := by decide +kernel
theorem dX7_leastMean_55 : decode cX7_leastMean 55 = .ok (.aaload, 1) := by decide +kernel
theorem dX7_leastMean_56 : decode cX7_leastMean 56 = .ok (.iload_n 3, 1) := by decide +kernel
theorem dX7_leastMean_57 : decode cX7_leastMean 57 = .ok (.aload_n 0, 1) := by decide +kernel
theorem dX7_leastMean_58 : decode cX7_leastMean 58 = .ok (.iload_n 1, 1) := by decide +kernel
theorem dX7_leastMean_59 : decode cX7_leastMean 59 = .ok (.iload_n 3, 1) := by decide +kernel
theorem dX7_leastMean_60 : decode cX7_leastMean 60 = .ok (.iload_n 2, 1) := by decide +kernel
theorem dX7_leastMean_61 : decode cX7_leastMean 61 = .ok (.invokevirtual 49, 3) := by decide +kernel
theorem dX7_leastMean_64 : decode cX7_leastMean 64 = .ok (.iastore, 1) := by decide +kernel
theorem dX7_leastMean_65 : decode cX7_leastMean 65 = .ok (.iinc 3 1, 3) := by decide +kernel
theorem dX7_leastMean_68 : decode cX7_leastMean 68 = .ok (.goto (-29), 3) := by decide +kernel
theorem dX7_leastMean_71 : decode cX7_leastMean 71 = .ok (.iinc 2 (-1), 3) := by decide +kernel
theorem dX7_leastMean_74 : decode cX7_leastMean 74 = .ok (.goto (-41), 3) := by decide +kernel
theorem dX7_leastMean_77 : decode cX7_leastMean 77 = .ok (.aload_n 0, 1) := by decide +kernel
theorem dX7_leastMean_78 : decode cX7_leastMean 78 = .ok (.getfield 31, 3) := by decide +kernel
theorem dX7_leastMean_81 : decode cX7_leastMean 81 = .ok (.getfield 53, 3) := by decide +kernel
theorem dX7_leastMean_84 : decode cX7_leastMean 84 = .ok (.iload_n 1, 1) := by decide +kernel
theorem dX7_leastMean_85 : decode cX7_leastMean 85 = .ok (.iaload, 1) := by decide +kernel
theorem dX7_leastMean_86 : decode cX7_leastMean 86 = .ok (.istore_n 2, 1) := by decide +kernel
theorem dX7_leastMean_87 : decode cX7_leastMean 87 = .ok (.aload_n 0, 1) := by decide +kernel
theorem dX7_leastMean_88 : decode cX7_leastMean 88 = .ok (.getfield 26, 3) := by decide +kernel
theorem dX7_leastMean_91 : decode cX7_leastMean 91 = .ok (.iload_n 2, 1) := by decide +kernel
theorem dX7_leastMean_92 : decode cX7_leastMean 92 = .ok (.invokevirtual 59, 3) := by decide +kernel
theorem dX7_leastMean_95 : decode cX7_leastMean 95 = .ok (.ifCond .eq 27, 3) := by decide +kernel
theorem dX7_leastMean_98 : decode cX7_leastMean 98 = .ok (.aload_n 0, 1) := by decide +kernel
theorem dX7_leastMean_99 : decode cX7_leastMean 99 = .ok (.getfield 11, 3) := by decide +kernel
theorem dX7_leastMean_102 : decode cX7_leastMean 102 = .ok (.iconst 0, 1) := by decide +kernel
theorem dX7_leastMean_103 : decode cX7_leastMean 103 = .ok (.aaload, 1) := by decide +kernel
theorem dX7_leastMean_104 : decode cX7_leastMean 104 = .ok (.iload_n 2, 1) := by decide +kernel
theorem dX7_leastMean_105 : decode cX7_leastMean 105 = .ok (.iaload, 1) := by decide +kernel
theorem dX7_leastMean_106 : decode cX7_leastMean 106 = .ok (.ldc 62, 2) := by decide +kernel
theorem dX7_leastMean_108 : decode cX7_leastMean 108 = .ok (.if_icmp .ge 14, 3) := by decide +kernel
theorem dX7_leastMean_111 : decode cX7_leastMean 111 = .ok (.aload_n 0, 1) := by decide +kernel
theorem dX7_leastMean_112 : decode cX7_leastMean 112 = .ok (.getfield 11, 3) := by decide +kernel
theorem dX7_leastMean_115 : decode cX7_leastMean 115 = .ok (.iconst 0, 1) := by decide +kernel
theorem dX7_leastMean_116 : decode cX7_leastMean 116 = .ok (.aaload, 1) := by decide +kernel
theorem dX7_leastMean_117 : decode cX7_leastMean 117 = .ok (.iload_n 2, 1) := by decide +kernel
theorem dX7_leastMean_118 : decode cX7_leastMean 118 = .ok (.iaload, 1) := by decide +kernel
theorem dX7_leastMean_119 : decode cX7_leastMean 119 = .ok (.goto 4, 3) := by decide +kernel
theorem dX7_leastMean_122 : decode cX7_leastMean 122 = .ok (.iconst (-1), 1) := by decide +kernel
theorem dX7_leastMean_123 : decode cX7_leastMean 123 = .ok (.ireturn, 1) := by decide +kernel
theorem dX7_leastFrom_0 : decode cX7_leastFrom 0 = .ok (.aload_n 0, 1) := by decide +kernel
theorem dX7_leastFrom_1 : decode cX7_leastFrom 1 = .ok (.getfield 26, 3) := by decide +kernel
theorem dX7_leastFrom_4 : decode cX7_leastFrom 4 = .ok (.iload_n 3, 1) := by decide +kernel
theorem dX7_leastFrom_5 : decode cX7_leastFrom 5 = .ok (.invokevirtual 63, 3) := by decide +kernel
theorem dX7_leastFrom_8 : decode cX7_leastFrom 8 = .ok (.ifCond .eq 13, 3) := by decide +kernel
theorem dX7_leastFrom_11 : decode cX7_leastFrom 11 = .ok (.aload_n 0, 1) := by decide +kernel
theorem dX7_leastFrom_12 : decode cX7_leastFrom 12 = .ok (.iload_n 1, 1) := by decide +kernel
theorem dX7_leastFrom_13 : decode cX7_leastFrom 13 = .ok (.iload_n 2, 1) := by decide +kernel
theorem dX7_leastFrom_14 : decode cX7_leastFrom 14 = .ok (.iload_n 3, 1) := by decide +kernel
theorem dX7_leastFrom_15 : decode cX7_leastFrom 15 = .ok (.invokevirtual 66, 3) := by decide +kernel
theorem dX7_leastFrom_18 : decode cX7_leastFrom 18 = .ok (.ifCond .ne 6, 3) := by decide +kernel
theorem dX7_leastFrom_21 : decode cX7_leastFrom 21 = .ok (.ldc 62, 2) := by decide +kernel
theorem dX7_leastFrom_23 : decode cX7_leastFrom 23 = .ok (.ireturn, 1) := by decide +kernel
theorem dX7_leastFrom_24 : decode cX7_leastFrom 24 = .ok (.iconst 0, 1) := by decide +kernel
theorem dX7_leastFrom_25 : decode cX7_leastFrom 25 = .ok (.istore 4, 2) := by decide +kernel
theorem dX7_leastFrom_27 : decode cX7_leastFrom 27 = .ok (.iload_n 3, 1) := by decide +kernel
theorem dX7_leastFrom_28 : decode cX7_leastFrom 28 = .ok (.iconst 1, 1) := by decide +kernel
theorem dX7_leastFrom_29 : decode cX7_leastFrom 29 = .ok (.iadd, 1) := by decide +kernel
theorem dX7_leastFrom_30 : decode cX7_leastFrom 30 = .ok (.aload_n 0, 1) := by decide +kernel
theorem dX7_leastFrom_31 : decode cX7_leastFrom 31 = .ok (.getfield 26, 3) := by decide +kernel
theorem dX7_leastFrom_34 : decode cX7_leastFrom 34 = .ok (.getfield 42, 3) := by decide +kernel
theorem dX7_leastFrom_37 : decode cX7_leastFrom 37 = .ok (.if_icmp .ge 43, 3) := by decide +kernel
theorem dX7_leastFrom_40 : decode cX7_leastFrom 40 = .ok (.aload_n 0, 1) := by decide +kernel
theorem dX7_leastFrom_41 : decode cX7_leastFrom 41 = .ok (.iload_n 2, 1) := by decide +kernel
theorem dX7_leastFrom_42 : decode cX7_leastFrom 42 = .ok (.iload_n 3, 1) := by decide +kernel
theorem dX7_leastFrom_43 : decode cX7_leastFrom 43 = .ok (.iconst 1, 1) := by decide +kernel
theorem dX7_leastFrom_44 : decode cX7_leastFrom 44 = .ok (.iadd, 1) := by decide +kernel
theorem dX7_leastFrom_45 : decode cX7_leastFrom 45 = .ok (.invokevirtual 70, 3) := by decide +kernel
theorem dX7_leastFrom_48 : decode cX7_leastFrom 48 = .ok (.istore 5, 2) := by decide +kernel
theorem dX7_leastFrom_50 : decode cX7_leastFrom 50 = .ok (.aload_n 0, 1) := by decide +kernel
theorem dX7_leastFrom_51 : decode cX7_leastFrom 51 = .ok (.getfield 26, 3) := by decide +kernel
theorem dX7_leastFrom_54 : decode cX7_leastFrom 54 = .ok (.iload 5, 2) := by decide +kernel
theorem dX7_leastFrom_56 : decode cX7_leastFrom 56 = .ok (.invokevirtual 59, 3) := by decide +kernel
theorem dX7_leastFrom_59 : decode cX7_leastFrom 59 = .ok (.ifCond .eq 17, 3) := by decide +kernel
theorem dX7_leastFrom_62 : decode cX7_leastFrom 62 = .ok (.aload_n 0, 1) := by decide +kernel
theorem dX7_leastFrom_63 : decode cX7_leastFrom 63 = .ok (.getfield 11, 3) := by decide +kernel
theorem dX7_leastFrom_66 : decode cX7_leastFrom 66 = .ok (.iload_n 3, 1) := by decide +kernel
theorem dX7_leastFrom_67 : decode cX7_leastFrom 67 = .ok (.iconst 1, 1) := by decide +kernel
theorem dX7_leastFrom_68 : decode cX7_leastFrom 68 = .ok (.iadd, 1) := by decide +kernel
theorem dX7_leastFrom_69 : decode cX7_leastFrom 69 = .ok (.aaload, 1) := by decide +kernel
theorem dX7_leastFrom_70 : decode cX7_leastFrom 70 = .ok (.iload 5, 2) := by decide +kernel
theorem dX7_leastFrom_72 : decode cX7_leastFrom 72 = .ok (.iaload, 1) := by decide +kernel
theorem dX7_leastFrom_73 : decode cX7_leastFrom 73 = .ok (.goto 5, 3) := by decide +kernel
theorem dX7_leastFrom_76 : decode cX7_leastFrom 76 = .ok (.ldc 62, 2) := by decide +kernel
theorem dX7_leastFrom_78 : decode cX7_leastFrom 78 = .ok (.istore 4, 2) := by decide +kernel
theorem dX7_leastFrom_80 : decode cX7_leastFrom 80 = .ok (.iload 4, 2) := by decide +kernel
theorem dX7_leastFrom_82 : decode cX7_leastFrom 82 = .ok (.ldc 62, 2) := by decide +kernel
theorem dX7_leastFrom_84 : decode cX7_leastFrom 84 = .ok (.if_icmp .ne 8, 3) := by decide +kernel
theorem dX7_leastFrom_87 : decode cX7_leastFrom 87 = .ok (.ldc 62, 2) := by decide +kernel
theorem dX7_leastFrom_89 : decode cX7_leastFrom 89 = .ok (.goto 26, 3) := by decide +kernel
theorem dX7_leastFrom_92 : decode cX7_leastFrom 92 = .ok (.iload 4, 2) := by decide +kernel
theorem dX7_leastFrom_94 : decode cX7_leastFrom 94 = .ok (.aload_n 0, 1) := by decide +kernel
theorem dX7_leastFrom_95 : decode cX7_leastFrom 95 = .ok (.getfield 16, 3) := by decide +kernel
theorem dX7_leastFrom_98 : decode cX7_leastFrom 98 = .ok (.iload_n 1, 1) := by decide +kernel
theorem dX7_leastFrom_99 : decode cX7_leastFrom 99 = .ok (.iload_n 2, 1) := by decide +kernel
theorem dX7_leastFrom_100 : decode cX7_leastFrom 100 = .ok (.iload_n 3, 1) := by decide +kernel
theorem dX7_leastFrom_101 : decode cX7_leastFrom 101 = .ok (.invokevirtual 74, 3) := by decide +kernel
theorem dX7_leastFrom_104 : decode cX7_leastFrom 104 = .ok (.aload_n 0, 1) := by decide +kernel
theorem dX7_leastFrom_105 : decode cX7_leastFrom 105 = .ok (.getfield 26, 3) := by decide +kernel
theorem dX7_leastFrom_108 : decode cX7_leastFrom 108 = .ok (.getfield 77, 3) := by decide +kernel
theorem dX7_leastFrom_111 : decode cX7_leastFrom 111 = .ok (.iload_n 3, 1) := by decide +kernel
theorem dX7_leastFrom_112 : decode cX7_leastFrom 112 = .ok (.iaload, 1) := by decide +kernel
theorem dX7_leastFrom_113 : decode cX7_leastFrom 113 = .ok (.imul, 1) := by decide +kernel
theorem dX7_leastFrom_114 : decode cX7_leastFrom 114 = .ok (.iadd, 1) := by decide +kernel
theorem dX7_leastFrom_115 : decode cX7_leastFrom 115 = .ok (.ireturn, 1) := by decide +kernel
theorem dX7_mayBeOn_0 : decode cX7_mayBeOn 0 = .ok (.aload_n 0, 1) := by decide +kernel
theorem dX7_mayBeOn_1 : decode cX7_mayBeOn 1 = .ok (.getfield 26, 3) := by decide +kernel
theorem dX7_mayBeOn_4 : decode cX7_mayBeOn 4 = .ok (.iload_n 2, 1) := by decide +kernel
theorem dX7_mayBeOn_5 : decode cX7_mayBeOn 5 = .ok (.invokevirtual 59, 3) := by decide +kernel
theorem dX7_mayBeOn_8 : decode cX7_mayBeOn 8 = .ok (.ifCond .eq 15, 3) := by decide +kernel
theorem dX7_mayBeOn_11 : decode cX7_mayBeOn 11 = .ok (.aload_n 0, 1) := by decide +kernel
theorem dX7_mayBeOn_12 : decode cX7_mayBeOn 12 = .ok (.getfield 31, 3) := by decide +kernel
theorem dX7_mayBeOn_15 : decode cX7_mayBeOn 15 = .ok (.getfield 80, 3) := by decide +kernel
theorem dX7_mayBeOn_18 : decode cX7_mayBeOn 18 = .ok (.iload_n 2, 1) := by decide +kernel
theorem dX7_mayBeOn_19 : decode cX7_mayBeOn 19 = .ok (.iaload, 1) := by decide +kernel
theorem dX7_mayBeOn_20 : decode cX7_mayBeOn 20 = .ok (.ifCond .le 5, 3) := by decide +kernel
theorem dX7_mayBeOn_23 : decode cX7_mayBeOn 23 = .ok (.iconst 0, 1) := by decide +kernel
theorem dX7_mayBeOn_24 : decode cX7_mayBeOn 24 = .ok (.ireturn, 1) := by decide +kernel
theorem dX7_mayBeOn_25 : decode cX7_mayBeOn 25 = .ok (.iconst 0, 1) := by decide +kernel
theorem dX7_mayBeOn_26 : decode cX7_mayBeOn 26 = .ok (.istore 4, 2) := by decide +kernel
theorem dX7_mayBeOn_28 : decode cX7_mayBeOn 28 = .ok (.iload 4, 2) := by decide +kernel
theorem dX7_mayBeOn_30 : decode cX7_mayBeOn 30 = .ok (.aload_n 0, 1) := by decide +kernel
theorem dX7_mayBeOn_31 : decode cX7_mayBeOn 31 = .ok (.getfield 32, 3) := by decide +kernel
theorem dX7_mayBeOn_34 : decode cX7_mayBeOn 34 = .ok (.getfield 83, 3) := by decide +kernel
theorem dX7_mayBeOn_37 : decode cX7_mayBeOn 37 = .ok (.if_icmp .ge 50, 3) := by decide +kernel
theorem dX7_mayBeOn_40 : decode cX7_mayBeOn 40 = .ok (.aload_n 0, 1) := by decide +kernel
theorem dX7_mayBeOn_41 : decode cX7_mayBeOn 41 = .ok (.getfield 32, 3) := by decide +kernel
theorem dX7_mayBeOn_44 : decode cX7_mayBeOn 44 = .ok (.iload 4, 2) := by decide +kernel
theorem dX7_mayBeOn_46 : decode cX7_mayBeOn 46 = .ok (.invokevirtual 88, 3) := by decide +kernel
theorem dX7_mayBeOn_49 : decode cX7_mayBeOn 49 = .ok (.iload_n 1, 1) := by decide +kernel
theorem dX7_mayBeOn_50 : decode cX7_mayBeOn 50 = .ok (.if_icmp .ne 31, 3) := by decide +kernel
theorem dX7_mayBeOn_53 : decode cX7_mayBeOn 53 = .ok (.aload_n 0, 1) := by decide +kernel
theorem dX7_mayBeOn_54 : decode cX7_mayBeOn 54 = .ok (.getfield 32, 3) := by decide +kernel
theorem dX7_mayBeOn_57 : decode cX7_mayBeOn 57 = .ok (.iload 4, 2) := by decide +kernel
theorem dX7_mayBeOn_59 : decode cX7_mayBeOn 59 = .ok (.invokevirtual 92, 3) := by decide +kernel
theorem dX7_mayBeOn_62 : decode cX7_mayBeOn 62 = .ok (.iload_n 3, 1) := by decide +kernel
theorem dX7_mayBeOn_63 : decode cX7_mayBeOn 63 = .ok (.if_icmp .ne 18, 3) := by decide +kernel
theorem dX7_mayBeOn_66 : decode cX7_mayBeOn 66 = .ok (.aload_n 0, 1) := by decide +kernel
theorem dX7_mayBeOn_67 : decode cX7_mayBeOn 67 = .ok (.getfield 32, 3) := by decide +kernel
theorem dX7_mayBeOn_70 : decode cX7_mayBeOn 70 = .ok (.iload 4, 2) := by decide +kernel
theorem dX7_mayBeOn_72 : decode cX7_mayBeOn 72 = .ok (.invokevirtual 95, 3) := by decide +kernel
theorem dX7_mayBeOn_75 : decode cX7_mayBeOn 75 = .ok (.iload_n 2, 1) := by decide +kernel
theorem dX7_mayBeOn_76 : decode cX7_mayBeOn 76 = .ok (.if_icmp .eq 5, 3) := by decide +kernel
theorem dX7_mayBeOn_79 : decode cX7_mayBeOn 79 = .ok (.iconst 0, 1) := by decide +kernel
theorem dX7_mayBeOn_80 : decode cX7_mayBeOn 80 = .ok (.ireturn, 1) := by decide +kernel
theorem dX7_mayBeOn_81 : decode cX7_mayBeOn 81 = .ok (.iinc 4 1, 3) := by decide +kernel
theorem dX7_mayBeOn_84 : decode cX7_mayBeOn 84 = .ok (.goto (-56), 3) := by decide +kernel
theorem dX7_mayBeOn_87 : decode cX7_mayBeOn 87 = .ok (.iconst 1, 1) := by decide +kernel
theorem dX7_mayBeOn_88 : decode cX7_mayBeOn 88 = .ok (.ireturn, 1) := by decide +kernel
theorem dX7_bestNext_0 : decode cX7_bestNext 0 = .ok (.iconst (-1), 1) := by decide +kernel
theorem dX7_bestNext_1 : decode cX7_bestNext 1 = .ok (.istore_n 3, 1) := by decide +kernel
theorem dX7_bestNext_2 : decode cX7_bestNext 2 = .ok (.ldc 62, 2) := by decide +kernel
theorem dX7_bestNext_4 : decode cX7_bestNext 4 = .ok (.istore 4, 2) := by decide +kernel
theorem dX7_bestNext_6 : decode cX7_bestNext 6 = .ok (.aload_n 0, 1) := by decide +kernel
theorem dX7_bestNext_7 : decode cX7_bestNext 7 = .ok (.getfield 26, 3) := by decide +kernel
theorem dX7_bestNext_10 : decode cX7_bestNext 10 = .ok (.iload_n 1, 1) := by decide +kernel
theorem dX7_bestNext_11 : decode cX7_bestNext 11 = .ok (.invokevirtual 59, 3) := by decide +kernel
theorem dX7_bestNext_14 : decode cX7_bestNext 14 = .ok (.ifCond .ne 5, 3) := by decide +kernel
theorem dX7_bestNext_17 : decode cX7_bestNext 17 = .ok (.iconst (-1), 1) := by decide +kernel
theorem dX7_bestNext_18 : decode cX7_bestNext 18 = .ok (.ireturn, 1) := by decide +kernel
theorem dX7_bestNext_19 : decode cX7_bestNext 19 = .ok (.iconst (-1), 1) := by decide +kernel
theorem dX7_bestNext_20 : decode cX7_bestNext 20 = .ok (.istore 5, 2) := by decide +kernel
theorem dX7_bestNext_22 : decode cX7_bestNext 22 = .ok (.iload 5, 2) := by decide +kernel
theorem dX7_bestNext_24 : decode cX7_bestNext 24 = .ok (.iconst 1, 1) := by decide +kernel
theorem dX7_bestNext_25 : decode cX7_bestNext 25 = .ok (.if_icmp .gt 106, 3) := by decide +kernel
theorem dX7_bestNext_28 : decode cX7_bestNext 28 = .ok (.iconst (-1), 1) := by decide +kernel
theorem dX7_bestNext_29 : decode cX7_bestNext 29 = .ok (.istore 6, 2) := by decide +kernel
theorem dX7_bestNext_31 : decode cX7_bestNext 31 = .ok (.iload 6, 2) := by decide +kernel
theorem dX7_bestNext_33 : decode cX7_bestNext 33 = .ok (.iconst 1, 1) := by decide +kernel
theorem dX7_bestNext_34 : decode cX7_bestNext 34 = .ok (.if_icmp .gt 91, 3) := by decide +kernel
theorem dX7_bestNext_37 : decode cX7_bestNext 37 = .ok (.aload_n 0, 1) := by decide +kernel
theorem dX7_bestNext_38 : decode cX7_bestNext 38 = .ok (.getfield 26, 3) := by decide +kernel
theorem dX7_bestNext_41 : decode cX7_bestNext 41 = .ok (.aload_n 0, 1) := by decide +kernel
theorem dX7_bestNext_42 : decode cX7_bestNext 42 = .ok (.getfield 26, 3) := by decide +kernel
theorem dX7_bestNext_45 : decode cX7_bestNext 45 = .ok (.iload_n 1, 1) := by decide +kernel
theorem dX7_bestNext_46 : decode cX7_bestNext 46 = .ok (.invokevirtual 98, 3) := by decide +kernel
theorem dX7_bestNext_49 : decode cX7_bestNext 49 = .ok (.iload 6, 2) := by decide +kernel
theorem dX7_bestNext_51 : decode cX7_bestNext 51 = .ok (.iadd, 1) := by decide +kernel
theorem dX7_bestNext_52 : decode cX7_bestNext 52 = .ok (.aload_n 0, 1) := by decide +kernel
theorem dX7_bestNext_53 : decode cX7_bestNext 53 = .ok (.getfield 26, 3) := by decide +kernel
theorem dX7_bestNext_56 : decode cX7_bestNext 56 = .ok (.iload_n 1, 1) := by decide +kernel
theorem dX7_bestNext_57 : decode cX7_bestNext 57 = .ok (.invokevirtual 101, 3) := by decide +kernel
theorem dX7_bestNext_60 : decode cX7_bestNext 60 = .ok (.iload 5, 2) := by decide +kernel
theorem dX7_bestNext_62 : decode cX7_bestNext 62 = .ok (.iadd, 1) := by decide +kernel
theorem dX7_bestNext_63 : decode cX7_bestNext 63 = .ok (.invokevirtual 104, 3) := by decide +kernel
theorem dX7_bestNext_66 : decode cX7_bestNext 66 = .ok (.istore 7, 2) := by decide +kernel
theorem dX7_bestNext_68 : decode cX7_bestNext 68 = .ok (.aload_n 0, 1) := by decide +kernel
theorem dX7_bestNext_69 : decode cX7_bestNext 69 = .ok (.getfield 26, 3) := by decide +kernel
theorem dX7_bestNext_72 : decode cX7_bestNext 72 = .ok (.iload 7, 2) := by decide +kernel
theorem dX7_bestNext_74 : decode cX7_bestNext 74 = .ok (.invokevirtual 59, 3) := by decide +kernel
theorem dX7_bestNext_77 : decode cX7_bestNext 77 = .ok (.ifCond .eq 42, 3) := by decide +kernel
theorem dX7_bestNext_80 : decode cX7_bestNext 80 = .ok (.aload_n 0, 1) := by decide +kernel
theorem dX7_bestNext_81 : decode cX7_bestNext 81 = .ok (.getfield 26, 3) := by decide +kernel
theorem dX7_bestNext_84 : decode cX7_bestNext 84 = .ok (.iload_n 2, 1) := by decide +kernel
theorem dX7_bestNext_85 : decode cX7_bestNext 85 = .ok (.invokevirtual 63, 3) := by decide +kernel
theorem dX7_bestNext_88 : decode cX7_bestNext 88 = .ok (.ifCond .eq 31, 3) := by decide +kernel
theorem dX7_bestNext_91 : decode cX7_bestNext 91 = .ok (.aload_n 0, 1) := by decide +kernel
theorem dX7_bestNext_92 : decode cX7_bestNext 92 = .ok (.getfield 11, 3) := by decide +kernel
theorem dX7_bestNext_95 : decode cX7_bestNext 95 = .ok (.iload_n 2, 1) := by decide +kernel
theorem dX7_bestNext_96 : decode cX7_bestNext 96 = .ok (.aaload, 1) := by decide +kernel
theorem dX7_bestNext_97 : decode cX7_bestNext 97 = .ok (.iload 7, 2) := by decide +kernel
theorem dX7_bestNext_99 : decode cX7_bestNext 99 = .ok (.iaload, 1) := by decide +kernel
theorem dX7_bestNext_100 : decode cX7_bestNext 100 = .ok (.iload 4, 2) := by decide +kernel
theorem dX7_bestNext_102 : decode cX7_bestNext 102 = .ok (.if_icmp .ge 17, 3) := by decide +kernel
theorem dX7_bestNext_105 : decode cX7_bestNext 105 = .ok (.aload_n 0, 1) := by decide +kernel
theorem dX7_bestNext_106 : decode cX7_bestNext 106 = .ok (.getfield 11, 3) := by decide +kernel
theorem dX7_bestNext_109 : decode cX7_bestNext 109 = .ok (.iload_n 2, 1) := by decide +kernel
theorem dX7_bestNext_110 : decode cX7_bestNext 110 = .ok (.aaload, 1) := by decide +kernel
theorem dX7_bestNext_111 : decode cX7_bestNext 111 = .ok (.iload 7, 2) := by decide +kernel
theorem dX7_bestNext_113 : decode cX7_bestNext 113 = .ok (.iaload, 1) := by decide +kernel
theorem dX7_bestNext_114 : decode cX7_bestNext 114 = .ok (.istore 4, 2) := by decide +kernel
theorem dX7_bestNext_116 : decode cX7_bestNext 116 = .ok (.iload 7, 2) := by decide +kernel
theorem dX7_bestNext_118 : decode cX7_bestNext 118 = .ok (.istore_n 3, 1) := by decide +kernel
theorem dX7_bestNext_119 : decode cX7_bestNext 119 = .ok (.iinc 6 1, 3) := by decide +kernel
theorem dX7_bestNext_122 : decode cX7_bestNext 122 = .ok (.goto (-91), 3) := by decide +kernel
theorem dX7_bestNext_125 : decode cX7_bestNext 125 = .ok (.iinc 5 1, 3) := by decide +kernel
theorem dX7_bestNext_128 : decode cX7_bestNext 128 = .ok (.goto (-106), 3) := by decide +kernel
theorem dX7_bestNext_131 : decode cX7_bestNext 131 = .ok (.iload_n 3, 1) := by decide +kernel
theorem dX7_bestNext_132 : decode cX7_bestNext 132 = .ok (.ireturn, 1) := by decide +kernel
theorem dX7_cellAtHour_0 : decode cX7_cellAtHour 0 = .ok (.aload_n 0, 1) := by decide +kernel
theorem dX7_cellAtHour_1 : decode cX7_cellAtHour 1 = .ok (.getfield 26, 3) := by decide +kernel
theorem dX7_cellAtHour_4 : decode cX7_cellAtHour 4 = .ok (.iload_n 1, 1) := by decide +kernel
theorem dX7_cellAtHour_5 : decode cX7_cellAtHour 5 = .ok (.invokevirtual 36, 3) := by decide +kernel
theorem dX7_cellAtHour_8 : decode cX7_cellAtHour 8 = .ok (.ifCond .eq 15, 3) := by decide +kernel
theorem dX7_cellAtHour_11 : decode cX7_cellAtHour 11 = .ok (.aload_n 0, 1) := by decide +kernel
theorem dX7_cellAtHour_12 : decode cX7_cellAtHour 12 = .ok (.getfield 31, 3) := by decide +kernel
theorem dX7_cellAtHour_15 : decode cX7_cellAtHour 15 = .ok (.getfield 53, 3) := by decide +kernel
theorem dX7_cellAtHour_18 : decode cX7_cellAtHour 18 = .ok (.iload_n 1, 1) := by decide +kernel
theorem dX7_cellAtHour_19 : decode cX7_cellAtHour 19 = .ok (.iaload, 1) := by decide +kernel
theorem dX7_cellAtHour_20 : decode cX7_cellAtHour 20 = .ok (.goto 4, 3) := by decide +kernel
theorem dX7_cellAtHour_23 : decode cX7_cellAtHour 23 = .ok (.iconst (-1), 1) := by decide +kernel
theorem dX7_cellAtHour_24 : decode cX7_cellAtHour 24 = .ok (.istore_n 3, 1) := by decide +kernel
theorem dX7_cellAtHour_25 : decode cX7_cellAtHour 25 = .ok (.iconst 1, 1) := by decide +kernel
theorem dX7_cellAtHour_26 : decode cX7_cellAtHour 26 = .ok (.istore 4, 2) := by decide +kernel
theorem dX7_cellAtHour_28 : decode cX7_cellAtHour 28 = .ok (.iload 4, 2) := by decide +kernel
theorem dX7_cellAtHour_30 : decode cX7_cellAtHour 30 = .ok (.iload_n 2, 1) := by decide +kernel
theorem dX7_cellAtHour_31 : decode cX7_cellAtHour 31 = .ok (.if_icmp .gt 29, 3) := by decide +kernel
theorem dX7_cellAtHour_34 : decode cX7_cellAtHour 34 = .ok (.iload 4, 2) := by decide +kernel
theorem dX7_cellAtHour_36 : decode cX7_cellAtHour 36 = .ok (.aload_n 0, 1) := by decide +kernel
theorem dX7_cellAtHour_37 : decode cX7_cellAtHour 37 = .ok (.getfield 26, 3) := by decide +kernel
theorem dX7_cellAtHour_40 : decode cX7_cellAtHour 40 = .ok (.getfield 42, 3) := by decide +kernel
theorem dX7_cellAtHour_43 : decode cX7_cellAtHour 43 = .ok (.if_icmp .ge 17, 3) := by decide +kernel
theorem dX7_cellAtHour_46 : decode cX7_cellAtHour 46 = .ok (.aload_n 0, 1) := by decide +kernel
theorem dX7_cellAtHour_47 : decode cX7_cellAtHour 47 = .ok (.iload_n 3, 1) := by decide +kernel
theorem dX7_cellAtHour_48 : decode cX7_cellAtHour 48 = .ok (.iload 4, 2) := by decide +kernel
theorem dX7_cellAtHour_50 : decode cX7_cellAtHour 50 = .ok (.invokevirtual 70, 3) := by decide +kernel
theorem dX7_cellAtHour_53 : decode cX7_cellAtHour 53 = .ok (.istore_n 3, 1) := by decide +kernel
theorem dX7_cellAtHour_54 : decode cX7_cellAtHour 54 = .ok (.iinc 4 1, 3) := by decide +kernel
theorem dX7_cellAtHour_57 : decode cX7_cellAtHour 57 = .ok (.goto (-29), 3) := by decide +kernel
theorem dX7_cellAtHour_60 : decode cX7_cellAtHour 60 = .ok (.iload_n 3, 1) := by decide +kernel
theorem dX7_cellAtHour_61 : decode cX7_cellAtHour 61 = .ok (.ireturn, 1) := by decide +kernel
theorem dJ13_bitCount_95d88_0 : decode cJ13_bitCount_95d88 0 = .ok (.lload_n 0, 1) := by decide +kernel
theorem dJ13_bitCount_95d88_1 : decode cJ13_bitCount_95d88 1 = .ok (.lload_n 0, 1) := by decide +kernel
theorem dJ13_bitCount_95d88_2 : decode cJ13_bitCount_95d88 2 = .ok (.iconst 1, 1) := by decide +kernel
theorem dJ13_bitCount_95d88_3 : decode cJ13_bitCount_95d88 3 = .ok (.lushr, 1) := by decide +kernel
theorem dJ13_bitCount_95d88_4 : decode cJ13_bitCount_95d88 4 = .ok (.ldc2_w 314, 3) := by decide +kernel
theorem dJ13_bitCount_95d88_7 : decode cJ13_bitCount_95d88 7 = .ok (.land, 1) := by decide +kernel
theorem dJ13_bitCount_95d88_8 : decode cJ13_bitCount_95d88 8 = .ok (.lsub, 1) := by decide +kernel
theorem dJ13_bitCount_95d88_9 : decode cJ13_bitCount_95d88 9 = .ok (.lstore_n 0, 1) := by decide +kernel
theorem dJ13_bitCount_95d88_10 : decode cJ13_bitCount_95d88 10 = .ok (.lload_n 0, 1) := by decide +kernel
theorem dJ13_bitCount_95d88_11 : decode cJ13_bitCount_95d88 11 = .ok (.ldc2_w 316, 3) := by decide +kernel
theorem dJ13_bitCount_95d88_14 : decode cJ13_bitCount_95d88 14 = .ok (.land, 1) := by decide +kernel
theorem dJ13_bitCount_95d88_15 : decode cJ13_bitCount_95d88 15 = .ok (.lload_n 0, 1) := by decide +kernel
theorem dJ13_bitCount_95d88_16 : decode cJ13_bitCount_95d88 16 = .ok (.iconst 2, 1) := by decide +kernel
theorem dJ13_bitCount_95d88_17 : decode cJ13_bitCount_95d88 17 = .ok (.lushr, 1) := by decide +kernel
theorem dJ13_bitCount_95d88_18 : decode cJ13_bitCount_95d88 18 = .ok (.ldc2_w 316, 3) := by decide +kernel
theorem dJ13_bitCount_95d88_21 : decode cJ13_bitCount_95d88 21 = .ok (.land, 1) := by decide +kernel
theorem dJ13_bitCount_95d88_22 : decode cJ13_bitCount_95d88 22 = .ok (.ladd, 1) := by decide +kernel
theorem dJ13_bitCount_95d88_23 : decode cJ13_bitCount_95d88 23 = .ok (.lstore_n 0, 1) := by decide +kernel
theorem dJ13_bitCount_95d88_24 : decode cJ13_bitCount_95d88 24 = .ok (.lload_n 0, 1) := by decide +kernel
theorem dJ13_bitCount_95d88_25 : decode cJ13_bitCount_95d88 25 = .ok (.lload_n 0, 1) := by decide +kernel
theorem dJ13_bitCount_95d88_26 : decode cJ13_bitCount_95d88 26 = .ok (.iconst 4, 1) := by decide +kernel
theorem dJ13_bitCount_95d88_27 : decode cJ13_bitCount_95d88 27 = .ok (.lushr, 1) := by decide +kernel
theorem dJ13_bitCount_95d88_28 : decode cJ13_bitCount_95d88 28 = .ok (.ladd, 1) := by decide +kernel
theorem dJ13_bitCount_95d88_29 : decode cJ13_bitCount_95d88 29 = .ok (.ldc2_w 318, 3) := by decide +kernel
theorem dJ13_bitCount_95d88_32 : decode cJ13_bitCount_95d88 32 = .ok (.land, 1) := by decide +kernel
theorem dJ13_bitCount_95d88_33 : decode cJ13_bitCount_95d88 33 = .ok (.lstore_n 0, 1) := by decide +kernel
theorem dJ13_bitCount_95d88_34 : decode cJ13_bitCount_95d88 34 = .ok (.lload_n 0, 1) := by decide +kernel
theorem dJ13_bitCount_95d88_35 : decode cJ13_bitCount_95d88 35 = .ok (.lload_n 0, 1) := by decide +kernel
theorem dJ13_bitCount_95d88_36 : decode cJ13_bitCount_95d88 36 = .ok (.bipush 8, 2) := by decide +kernel
theorem dJ13_bitCount_95d88_38 : decode cJ13_bitCount_95d88 38 = .ok (.lushr, 1) := by decide +kernel
theorem dJ13_bitCount_95d88_39 : decode cJ13_bitCount_95d88 39 = .ok (.ladd, 1) := by decide +kernel
theorem dJ13_bitCount_95d88_40 : decode cJ13_bitCount_95d88 40 = .ok (.lstore_n 0, 1) := by decide +kernel
theorem dJ13_bitCount_95d88_41 : decode cJ13_bitCount_95d88 41 = .ok (.lload_n 0, 1) := by decide +kernel
theorem dJ13_bitCount_95d88_42 : decode cJ13_bitCount_95d88 42 = .ok (.lload_n 0, 1) := by decide +kernel
theorem dJ13_bitCount_95d88_43 : decode cJ13_bitCount_95d88 43 = .ok (.bipush 16, 2) := by decide +kernel
theorem dJ13_bitCount_95d88_45 : decode cJ13_bitCount_95d88 45 = .ok (.lushr, 1) := by decide +kernel
theorem dJ13_bitCount_95d88_46 : decode cJ13_bitCount_95d88 46 = .ok (.ladd, 1) := by decide +kernel
theorem dJ13_bitCount_95d88_47 : decode cJ13_bitCount_95d88 47 = .ok (.lstore_n 0, 1) := by decide +kernel
theorem dJ13_bitCount_95d88_48 : decode cJ13_bitCount_95d88 48 = .ok (.lload_n 0, 1) := by decide +kernel
theorem dJ13_bitCount_95d88_49 : decode cJ13_bitCount_95d88 49 = .ok (.lload_n 0, 1) := by decide +kernel
theorem dJ13_bitCount_95d88_50 : decode cJ13_bitCount_95d88 50 = .ok (.bipush 32, 2) := by decide +kernel
theorem dJ13_bitCount_95d88_52 : decode cJ13_bitCount_95d88 52 = .ok (.lushr, 1) := by decide +kernel
theorem dJ13_bitCount_95d88_53 : decode cJ13_bitCount_95d88 53 = .ok (.ladd, 1) := by decide +kernel
theorem dJ13_bitCount_95d88_54 : decode cJ13_bitCount_95d88 54 = .ok (.lstore_n 0, 1) := by decide +kernel
theorem dJ13_bitCount_95d88_55 : decode cJ13_bitCount_95d88 55 = .ok (.lload_n 0, 1) := by decide +kernel
theorem dJ13_bitCount_95d88_56 : decode cJ13_bitCount_95d88 56 = .ok (.l2i, 1) := by decide +kernel
theorem dJ13_bitCount_95d88_57 : decode cJ13_bitCount_95d88 57 = .ok (.bipush 127, 2) := by decide +kernel
theorem dJ13_bitCount_95d88_59 : decode cJ13_bitCount_95d88 59 = .ok (.iand, 1) := by decide +kernel
theorem dJ13_bitCount_95d88_60 : decode cJ13_bitCount_95d88 60 = .ok (.ireturn, 1) := by decide +kernel
theorem dJ9_max_7cf53_0 : decode cJ9_max_7cf53 0 = .ok (.iload_n 0, 1) := by decide +kernel
theorem dJ9_max_7cf53_1 : decode cJ9_max_7cf53 1 = .ok (.iload_n 1, 1) := by decide +kernel
theorem dJ9_max_7cf53_2 : decode cJ9_max_7cf53 2 = .ok (.if_icmp .lt 7, 3) := by decide +kernel
theorem dJ9_max_7cf53_5 : decode cJ9_max_7cf53 5 = .ok (.iload_n 0, 1) := by decide +kernel
theorem dJ9_max_7cf53_6 : decode cJ9_max_7cf53 6 = .ok (.goto 4, 3) := by decide +kernel
theorem dJ9_max_7cf53_9 : decode cJ9_max_7cf53 9 = .ok (.iload_n 1, 1) := by decide +kernel
theorem dJ9_max_7cf53_10 : decode cJ9_max_7cf53 10 = .ok (.ireturn, 1) := by decide +kernel
theorem dJ9_min_7cf53_0 : decode cJ9_min_7cf53 0 = .ok (.iload_n 0, 1) := by decide +kernel
theorem dJ9_min_7cf53_1 : decode cJ9_min_7cf53 1 = .ok (.iload_n 1, 1) := by decide +kernel
theorem dJ9_min_7cf53_2 : decode cJ9_min_7cf53 2 = .ok (.if_icmp .gt 7, 3) := by decide +kernel
theorem dJ9_min_7cf53_5 : decode cJ9_min_7cf53 5 = .ok (.iload_n 0, 1) := by decide +kernel
theorem dJ9_min_7cf53_6 : decode cJ9_min_7cf53 6 = .ok (.goto 4, 3) := by decide +kernel
theorem dJ9_min_7cf53_9 : decode cJ9_min_7cf53 9 = .ok (.iload_n 1, 1) := by decide +kernel
theorem dJ9_min_7cf53_10 : decode cJ9_min_7cf53 10 = .ok (.ireturn, 1) := by decide +kernel
theorem dJ0_length_8abf5_0 : decode cJ0_length_8abf5 0 = .ok (.aload_n 0, 1) := by decide +kernel
theorem dJ0_length_8abf5_1 : decode cJ0_length_8abf5 1 = .ok (.getfield 9, 3) := by decide +kernel
theorem dJ0_length_8abf5_4 : decode cJ0_length_8abf5 4 = .ok (.arraylength, 1) := by decide +kernel
theorem dJ0_length_8abf5_5 : decode cJ0_length_8abf5 5 = .ok (.aload_n 0, 1) := by decide +kernel
theorem dJ0_length_8abf5_6 : decode cJ0_length_8abf5 6 = .ok (.invokevirtual 335, 3) := by decide +kernel
theorem dJ0_length_8abf5_9 : decode cJ0_length_8abf5 9 = .ok (.ishr, 1) := by decide +kernel
theorem dJ0_length_8abf5_10 : decode cJ0_length_8abf5 10 = .ok (.ireturn, 1) := by decide +kernel
theorem dJ0_charAt_5068e_0 : decode cJ0_charAt_5068e 0 = .ok (.aload_n 0, 1) := by decide +kernel
theorem dJ0_charAt_5068e_1 : decode cJ0_charAt_5068e 1 = .ok (.invokevirtual 492, 3) := by decide +kernel
theorem dJ0_charAt_5068e_4 : decode cJ0_charAt_5068e 4 = .ok (.ifCond .eq 12, 3) := by decide +kernel
theorem dJ0_charAt_5068e_7 : decode cJ0_charAt_5068e 7 = .ok (.aload_n 0, 1) := by decide +kernel
theorem dJ0_charAt_5068e_8 : decode cJ0_charAt_5068e 8 = .ok (.getfield 9, 3) := by decide +kernel
theorem dJ0_charAt_5068e_11 : decode cJ0_charAt_5068e 11 = .ok (.iload_n 1, 1) := by decide +kernel
theorem dJ0_charAt_5068e_12 : decode cJ0_charAt_5068e 12 = .ok (.invokestatic 495, 3) := by decide +kernel
theorem dJ0_charAt_5068e_15 : decode cJ0_charAt_5068e 15 = .ok (.ireturn, 1) := by decide +kernel
theorem dJ0_charAt_5068e_16 : decode cJ0_charAt_5068e 16 = .ok (.aload_n 0, 1) := by decide +kernel
theorem dJ0_charAt_5068e_17 : decode cJ0_charAt_5068e 17 = .ok (.getfield 9, 3) := by decide +kernel
theorem dJ0_charAt_5068e_20 : decode cJ0_charAt_5068e 20 = .ok (.iload_n 1, 1) := by decide +kernel
theorem dJ0_charAt_5068e_21 : decode cJ0_charAt_5068e 21 = .ok (.invokestatic 498, 3) := by decide +kernel
theorem dJ0_charAt_5068e_24 : decode cJ0_charAt_5068e 24 = .ok (.ireturn, 1) := by decide +kernel
theorem dJ0_coder_7d493_0 : decode cJ0_coder_7d493 0 = .ok (.getstatic 38, 3) := by decide +kernel
theorem dJ0_coder_7d493_3 : decode cJ0_coder_7d493 3 = .ok (.ifCond .eq 10, 3) := by decide +kernel
theorem dJ0_coder_7d493_6 : decode cJ0_coder_7d493 6 = .ok (.aload_n 0, 1) := by decide +kernel
theorem dJ0_coder_7d493_7 : decode cJ0_coder_7d493 7 = .ok (.getfield 15, 3) := by decide +kernel
theorem dJ0_coder_7d493_10 : decode cJ0_coder_7d493 10 = .ok (.goto 4, 3) := by decide +kernel
theorem dJ0_coder_7d493_13 : decode cJ0_coder_7d493 13 = .ok (.iconst 1, 1) := by decide +kernel
theorem dJ0_coder_7d493_14 : decode cJ0_coder_7d493 14 = .ok (.ireturn, 1) := by decide +kernel
theorem dJ0_isLatin1_aae02_0 : decode cJ0_isLatin1_aae02 0 = .ok (.getstatic 38, 3) := by decide +kernel
theorem dJ0_isLatin1_aae02_3 : decode cJ0_isLatin1_aae02 3 = .ok (.ifCond .eq 14, 3) := by decide +kernel
theorem dJ0_isLatin1_aae02_6 : decode cJ0_isLatin1_aae02 6 = .ok (.aload_n 0, 1) := by decide +kernel
theorem dJ0_isLatin1_aae02_7 : decode cJ0_isLatin1_aae02 7 = .ok (.getfield 15, 3) := by decide +kernel
theorem dJ0_isLatin1_aae02_10 : decode cJ0_isLatin1_aae02 10 = .ok (.ifCond .ne 7, 3) := by decide +kernel
theorem dJ0_isLatin1_aae02_13 : decode cJ0_isLatin1_aae02 13 = .ok (.iconst 1, 1) := by decide +kernel
theorem dJ0_isLatin1_aae02_14 : decode cJ0_isLatin1_aae02 14 = .ok (.goto 4, 3) := by decide +kernel
theorem dJ0_isLatin1_aae02_17 : decode cJ0_isLatin1_aae02 17 = .ok (.iconst 0, 1) := by decide +kernel
theorem dJ0_isLatin1_aae02_18 : decode cJ0_isLatin1_aae02 18 = .ok (.ireturn, 1) := by decide +kernel
theorem dJ0_checkIndex_df160_0 : decode cJ0_checkIndex_df160 0 = .ok (.iload_n 0, 1) := by decide +kernel
theorem dJ0_checkIndex_df160_1 : decode cJ0_checkIndex_df160 1 = .ok (.iload_n 1, 1) := by decide +kernel
theorem dJ0_checkIndex_df160_2 : decode cJ0_checkIndex_df160 2 = .ok (.getstatic 1053, 3) := by decide +kernel
theorem dJ0_checkIndex_df160_5 : decode cJ0_checkIndex_df160 5 = .ok (.invokestatic 1059, 3) := by decide +kernel
theorem dJ0_checkIndex_df160_8 : decode cJ0_checkIndex_df160 8 = .ok (.pop, 1) := by decide +kernel
theorem dJ0_checkIndex_df160_9 : decode cJ0_checkIndex_df160 9 = .ok (.return_, 1) := by decide +kernel
theorem dJ1_charAt_3b067_0 : decode cJ1_charAt_3b067 0 = .ok (.iload_n 1, 1) := by decide +kernel
theorem dJ1_charAt_3b067_1 : decode cJ1_charAt_3b067 1 = .ok (.aload_n 0, 1) := by decide +kernel
theorem dJ1_charAt_3b067_2 : decode cJ1_charAt_3b067 2 = .ok (.arraylength, 1) := by decide +kernel
theorem dJ1_charAt_3b067_3 : decode cJ1_charAt_3b067 3 = .ok (.invokestatic 9, 3) := by decide +kernel
theorem dJ1_charAt_3b067_6 : decode cJ1_charAt_3b067 6 = .ok (.aload_n 0, 1) := by decide +kernel
theorem dJ1_charAt_3b067_7 : decode cJ1_charAt_3b067 7 = .ok (.iload_n 1, 1) := by decide +kernel
theorem dJ1_charAt_3b067_8 : decode cJ1_charAt_3b067 8 = .ok (.baload, 1) := by decide +kernel
theorem dJ1_charAt_3b067_9 : decode cJ1_charAt_3b067 9 = .ok (.sipush 255, 3) := by decide +kernel
theorem dJ1_charAt_3b067_12 : decode cJ1_charAt_3b067 12 = .ok (.iand, 1) := by decide +kernel
theorem dJ1_charAt_3b067_13 : decode cJ1_charAt_3b067 13 = .ok (.i2c, 1) := by decide +kernel
theorem dJ1_charAt_3b067_14 : decode cJ1_charAt_3b067 14 = .ok (.ireturn, 1) := by decide +kernel
theorem dJ2_getChar_3b067_0 : decode cJ2_getChar_3b067 0 = .ok (.getstatic 44, 3) := by decide +kernel
theorem dJ2_getChar_3b067_3 : decode cJ2_getChar_3b067 3 = .ok (.ifCond .ne 25, 3) := by decide +kernel
theorem dJ2_getChar_3b067_6 : decode cJ2_getChar_3b067 6 = .ok (.iload_n 1, 1) := by decide +kernel
theorem dJ2_getChar_3b067_7 : decode cJ2_getChar_3b067 7 = .ok (.ifCond .lt 11, 3) := by decide +kernel
theorem dJ2_getChar_3b067_10 : decode cJ2_getChar_3b067 10 = .ok (.iload_n 1, 1) := by decide +kernel
theorem dJ2_getChar_3b067_11 : decode cJ2_getChar_3b067 11 = .ok (.aload_n 0, 1) := by decide +kernel
theorem dJ2_getChar_3b067_12 : decode cJ2_getChar_3b067 12 = .ok (.invokestatic 48, 3) := by decide +kernel
theorem dJ2_getChar_3b067_15 : decode cJ2_getChar_3b067 15 = .ok (.if_icmp .lt 13, 3) := by decide +kernel
theorem dJ2_getChar_3b067_18 : decode cJ2_getChar_3b067 18 = .ok (.new 52, 3) := by decide +kernel
theorem dJ2_getChar_3b067_21 : decode cJ2_getChar_3b067 21 = .ok (.dup, 1) := by decide +kernel
theorem dJ2_getChar_3b067_22 : decode cJ2_getChar_3b067 22 = .ok (.ldc 54, 2) := by decide +kernel
theorem dJ2_getChar_3b067_24 : decode cJ2_getChar_3b067 24 = .ok (.invokespecial 56, 3) := by decide +kernel
theorem dJ2_getChar_3b067_27 : decode cJ2_getChar_3b067 27 = .ok (.athrow, 1) := by decide +kernel
theorem dJ2_getChar_3b067_28 : decode cJ2_getChar_3b067 28 = .ok (.iload_n 1, 1) := by decide +kernel
theorem dJ2_getChar_3b067_29 : decode cJ2_getChar_3b067 29 = .ok (.iconst 1, 1) := by decide +kernel
theorem dJ2_getChar_3b067_30 : decode cJ2_getChar_3b067 30 = .ok (.ishl, 1) := by decide +kernel
theorem dJ2_getChar_3b067_31 : decode cJ2_getChar_3b067 31 = .ok (.istore_n 1, 1) := by decide +kernel
theorem dJ2_getChar_3b067_32 : decode cJ2_getChar_3b067 32 = .ok (.aload_n 0, 1) := by decide +kernel
theorem dJ2_getChar_3b067_33 : decode cJ2_getChar_3b067 33 = .ok (.iload_n 1, 1) := by decide +kernel
theorem dJ2_getChar_3b067_34 : decode cJ2_getChar_3b067 34 = .ok (.iinc 1 1, 3) := by decide +kernel
theorem dJ2_getChar_3b067_37 : decode cJ2_getChar_3b067 37 = .ok (.baload, 1) := by decide +kernel
theorem dJ2_getChar_3b067_38 : decode cJ2_getChar_3b067 38 = .ok (.sipush 255, 3) := by decide +kernel
theorem dJ2_getChar_3b067_41 : decode cJ2_getChar_3b067 41 = .ok (.iand, 1) := by decide +kernel
theorem dJ2_getChar_3b067_42 : decode cJ2_getChar_3b067 42 = .ok (.getstatic 59, 3) := by decide +kernel
theorem dJ2_getChar_3b067_45 : decode cJ2_getChar_3b067 45 = .ok (.ishl, 1) := by decide +kernel
theorem dJ2_getChar_3b067_46 : decode cJ2_getChar_3b067 46 = .ok (.aload_n 0, 1) := by decide +kernel
theorem dJ2_getChar_3b067_47 : decode cJ2_getChar_3b067 47 = .ok (.iload_n 1, 1) := by decide +kernel
theorem dJ2_getChar_3b067_48 : decode cJ2_getChar_3b067 48 = .ok (.baload, 1) := by decide +kernel
theorem dJ2_getChar_3b067_49 : decode cJ2_getChar_3b067 49 = .ok (.sipush 255, 3) := by decide +kernel
theorem dJ2_getChar_3b067_52 : decode cJ2_getChar_3b067 52 = .ok (.iand, 1) := by decide +kernel
theorem dJ2_getChar_3b067_53 : decode cJ2_getChar_3b067 53 = .ok (.getstatic 63, 3) := by decide +kernel
theorem dJ2_getChar_3b067_56 : decode cJ2_getChar_3b067 56 = .ok (.ishl, 1) := by decide +kernel
theorem dJ2_getChar_3b067_57 : decode cJ2_getChar_3b067 57 = .ok (.ior, 1) := by decide +kernel
theorem dJ2_getChar_3b067_58 : decode cJ2_getChar_3b067 58 = .ok (.i2c, 1) := by decide +kernel
theorem dJ2_getChar_3b067_59 : decode cJ2_getChar_3b067 59 = .ok (.ireturn, 1) := by decide +kernel
theorem dJ2_length_9d52b_0 : decode cJ2_length_9d52b 0 = .ok (.aload_n 0, 1) := by decide +kernel
theorem dJ2_length_9d52b_1 : decode cJ2_length_9d52b 1 = .ok (.arraylength, 1) := by decide +kernel
theorem dJ2_length_9d52b_2 : decode cJ2_length_9d52b 2 = .ok (.iconst 1, 1) := by decide +kernel
theorem dJ2_length_9d52b_3 : decode cJ2_length_9d52b 3 = .ok (.ishr, 1) := by decide +kernel
theorem dJ2_length_9d52b_4 : decode cJ2_length_9d52b 4 = .ok (.ireturn, 1) := by decide +kernel
theorem dJ2_charAt_3b067_0 : decode cJ2_charAt_3b067 0 = .ok (.iload_n 1, 1) := by decide +kernel
theorem dJ2_charAt_3b067_1 : decode cJ2_charAt_3b067 1 = .ok (.aload_n 0, 1) := by decide +kernel
theorem dJ2_charAt_3b067_2 : decode cJ2_charAt_3b067 2 = .ok (.invokestatic 67, 3) := by decide +kernel
theorem dJ2_charAt_3b067_5 : decode cJ2_charAt_3b067 5 = .ok (.aload_n 0, 1) := by decide +kernel
theorem dJ2_charAt_3b067_6 : decode cJ2_charAt_3b067 6 = .ok (.iload_n 1, 1) := by decide +kernel
theorem dJ2_charAt_3b067_7 : decode cJ2_charAt_3b067 7 = .ok (.invokestatic 71, 3) := by decide +kernel
theorem dJ2_charAt_3b067_10 : decode cJ2_charAt_3b067 10 = .ok (.ireturn, 1) := by decide +kernel
theorem dJ2_checkIndex_2214a_0 : decode cJ2_checkIndex_2214a 0 = .ok (.iload_n 0, 1) := by decide +kernel
theorem dJ2_checkIndex_2214a_1 : decode cJ2_checkIndex_2214a 1 = .ok (.aload_n 1, 1) := by decide +kernel
theorem dJ2_checkIndex_2214a_2 : decode cJ2_checkIndex_2214a 2 = .ok (.invokestatic 48, 3) := by decide +kernel
theorem dJ2_checkIndex_2214a_5 : decode cJ2_checkIndex_2214a 5 = .ok (.invokestatic 414, 3) := by decide +kernel
theorem dJ2_checkIndex_2214a_8 : decode cJ2_checkIndex_2214a 8 = .ok (.return_, 1) := by decide +kernel
theorem dJ3_checkIndex_8e157_0 : decode cJ3_checkIndex_8e157 0 = .ok (.iload_n 0, 1) := by decide +kernel
theorem dJ3_checkIndex_8e157_1 : decode cJ3_checkIndex_8e157 1 = .ok (.ifCond .lt 8, 3) := by decide +kernel
theorem dJ3_checkIndex_8e157_4 : decode cJ3_checkIndex_8e157 4 = .ok (.iload_n 0, 1) := by decide +kernel
theorem dJ3_checkIndex_8e157_5 : decode cJ3_checkIndex_8e157 5 = .ok (.iload_n 1, 1) := by decide +kernel
theorem dJ3_checkIndex_8e157_6 : decode cJ3_checkIndex_8e157 6 = .ok (.if_icmp .lt 10, 3) := by decide +kernel
theorem dJ3_checkIndex_8e157_9 : decode cJ3_checkIndex_8e157 9 = .ok (.aload_n 2, 1) := by decide +kernel
theorem dJ3_checkIndex_8e157_10 : decode cJ3_checkIndex_8e157 10 = .ok (.iload_n 0, 1) := by decide +kernel
theorem dJ3_checkIndex_8e157_11 : decode cJ3_checkIndex_8e157 11 = .ok (.iload_n 1, 1) := by decide +kernel
theorem dJ3_checkIndex_8e157_12 : decode cJ3_checkIndex_8e157 12 = .ok (.invokestatic 95, 3) := by decide +kernel
theorem dJ3_checkIndex_8e157_15 : decode cJ3_checkIndex_8e157 15 = .ok (.athrow, 1) := by decide +kernel
theorem dJ3_checkIndex_8e157_16 : decode cJ3_checkIndex_8e157 16 = .ok (.iload_n 0, 1) := by decide +kernel
theorem dJ3_checkIndex_8e157_17 : decode cJ3_checkIndex_8e157 17 = .ok (.ireturn, 1) := by decide +kernel
