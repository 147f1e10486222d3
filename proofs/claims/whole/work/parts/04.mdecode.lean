theorem dX13_thrown_0 : decode cX13_thrown 0 = .ok (.aload_n 0, 1) := by decide +kernel
theorem dX13_thrown_1 : decode cX13_thrown 1 = .ok (.getfield 193, 3) := by decide +kernel
theorem dX13_thrown_4 : decode cX13_thrown 4 = .ok (.ireturn, 1) := by decide +kernel
theorem dX13_in_0 : decode cX13_in 0 = .ok (.lload_n 0, 1) := by decide +kernel
theorem dX13_in_1 : decode cX13_in 1 = .ok (.lload_n 2, 1) := by decide +kernel
theorem dX13_in_2 : decode cX13_in 2 = .ok (.lcmp, 1) := by decide +kernel
theorem dX13_in_3 : decode cX13_in 3 = .ok (.ifCond .lt 14, 3) := by decide +kernel
theorem dX13_in_6 : decode cX13_in 6 = .ok (.lload_n 0, 1) := by decide +kernel
theorem dX13_in_7 : decode cX13_in 7 = .ok (.lload 4, 2) := by decide +kernel
theorem dX13_in_9 : decode cX13_in 9 = .ok (.lcmp, 1) := by decide +kernel
theorem dX13_in_10 : decode cX13_in 10 = .ok (.ifCond .gt 7, 3) := by decide +kernel
theorem dX13_in_13 : decode cX13_in 13 = .ok (.iconst 1, 1) := by decide +kernel
theorem dX13_in_14 : decode cX13_in 14 = .ok (.goto 4, 3) := by decide +kernel
theorem dX13_in_17 : decode cX13_in 17 = .ok (.iconst 0, 1) := by decide +kernel
theorem dX13_in_18 : decode cX13_in 18 = .ok (.ireturn, 1) := by decide +kernel
theorem dX13_four_0 : decode cX13_four 0 = .ok (.iconst 3, 1) := by decide +kernel
theorem dX13_four_1 : decode cX13_four 1 = .ok (.istore_n 2, 1) := by decide +kernel
theorem dX13_four_2 : decode cX13_four 2 = .ok (.iload_n 2, 1) := by decide +kernel
theorem dX13_four_3 : decode cX13_four 3 = .ok (.ifCond .lt 35, 3) := by decide +kernel
theorem dX13_four_6 : decode cX13_four 6 = .ok (.aload_n 0, 1) := by decide +kernel
theorem dX13_four_7 : decode cX13_four 7 = .ok (.getfield 7, 3) := by decide +kernel
theorem dX13_four_10 : decode cX13_four 10 = .ok (.aload_n 0, 1) := by decide +kernel
theorem dX13_four_11 : decode cX13_four 11 = .ok (.getfield 196, 3) := by decide +kernel
theorem dX13_four_14 : decode cX13_four 14 = .ok (.iload_n 1, 1) := by decide +kernel
theorem dX13_four_15 : decode cX13_four 15 = .ok (.bipush 8, 2) := by decide +kernel
theorem dX13_four_17 : decode cX13_four 17 = .ok (.iload_n 2, 1) := by decide +kernel
theorem dX13_four_18 : decode cX13_four 18 = .ok (.imul, 1) := by decide +kernel
theorem dX13_four_19 : decode cX13_four 19 = .ok (.ishr, 1) := by decide +kernel
theorem dX13_four_20 : decode cX13_four 20 = .ok (.i2b, 1) := by decide +kernel
theorem dX13_four_21 : decode cX13_four 21 = .ok (.bastore, 1) := by decide +kernel
theorem dX13_four_22 : decode cX13_four 22 = .ok (.aload_n 0, 1) := by decide +kernel
theorem dX13_four_23 : decode cX13_four 23 = .ok (.dup, 1) := by decide +kernel
theorem dX13_four_24 : decode cX13_four 24 = .ok (.getfield 196, 3) := by decide +kernel
theorem dX13_four_27 : decode cX13_four 27 = .ok (.iconst 1, 1) := by decide +kernel
theorem dX13_four_28 : decode cX13_four 28 = .ok (.iadd, 1) := by decide +kernel
theorem dX13_four_29 : decode cX13_four 29 = .ok (.putfield 196, 3) := by decide +kernel
theorem dX13_four_32 : decode cX13_four 32 = .ok (.iinc 2 (-1), 3) := by decide +kernel
theorem dX13_four_35 : decode cX13_four 35 = .ok (.goto (-33), 3) := by decide +kernel
theorem dX13_four_38 : decode cX13_four 38 = .ok (.return_, 1) := by decide +kernel
theorem dX13_feed_0 : decode cX13_feed 0 = .ok (.aload_n 0, 1) := by decide +kernel
theorem dX13_feed_1 : decode cX13_feed 1 = .ok (.iconst 0, 1) := by decide +kernel
theorem dX13_feed_2 : decode cX13_feed 2 = .ok (.putfield 193, 3) := by decide +kernel
theorem dX13_feed_5 : decode cX13_feed 5 = .ok (.aload_n 0, 1) := by decide +kernel
theorem dX13_feed_6 : decode cX13_feed 6 = .ok (.getfield 196, 3) := by decide +kernel
theorem dX13_feed_9 : decode cX13_feed 9 = .ok (.bipush 20, 2) := by decide +kernel
theorem dX13_feed_11 : decode cX13_feed 11 = .ok (.iadd, 1) := by decide +kernel
theorem dX13_feed_12 : decode cX13_feed 12 = .ok (.sipush 3000, 3) := by decide +kernel
theorem dX13_feed_15 : decode cX13_feed 15 = .ok (.if_icmp .le 6, 3) := by decide +kernel
theorem dX13_feed_18 : decode cX13_feed 18 = .ok (.ldc 199, 2) := by decide +kernel
theorem dX13_feed_20 : decode cX13_feed 20 = .ok (.ireturn, 1) := by decide +kernel
theorem dX13_feed_21 : decode cX13_feed 21 = .ok (.aload_n 0, 1) := by decide +kernel
theorem dX13_feed_22 : decode cX13_feed 22 = .ok (.iload_n 1, 1) := by decide +kernel
theorem dX13_feed_23 : decode cX13_feed 23 = .ok (.invokevirtual 200, 3) := by decide +kernel
theorem dX13_feed_26 : decode cX13_feed 26 = .ok (.aload_n 0, 1) := by decide +kernel
theorem dX13_feed_27 : decode cX13_feed 27 = .ok (.iload_n 2, 1) := by decide +kernel
theorem dX13_feed_28 : decode cX13_feed 28 = .ok (.invokevirtual 200, 3) := by decide +kernel
theorem dX13_feed_31 : decode cX13_feed 31 = .ok (.aload_n 0, 1) := by decide +kernel
theorem dX13_feed_32 : decode cX13_feed 32 = .ok (.iload_n 3, 1) := by decide +kernel
theorem dX13_feed_33 : decode cX13_feed 33 = .ok (.invokevirtual 200, 3) := by decide +kernel
theorem dX13_feed_36 : decode cX13_feed 36 = .ok (.aload_n 0, 1) := by decide +kernel
theorem dX13_feed_37 : decode cX13_feed 37 = .ok (.iload 4, 2) := by decide +kernel
theorem dX13_feed_39 : decode cX13_feed 39 = .ok (.invokevirtual 200, 3) := by decide +kernel
theorem dX13_feed_42 : decode cX13_feed 42 = .ok (.aload_n 0, 1) := by decide +kernel
theorem dX13_feed_43 : decode cX13_feed 43 = .ok (.iload 5, 2) := by decide +kernel
theorem dX13_feed_45 : decode cX13_feed 45 = .ok (.invokevirtual 200, 3) := by decide +kernel
theorem dX13_feed_48 : decode cX13_feed 48 = .ok (.aload_n 0, 1) := by decide +kernel
theorem dX13_feed_49 : decode cX13_feed 49 = .ok (.getfield 196, 3) := by decide +kernel
theorem dX13_feed_52 : decode cX13_feed 52 = .ok (.ireturn, 1) := by decide +kernel
theorem dX13_cut_0 : decode cX13_cut 0 = .ok (.aload_n 0, 1) := by decide +kernel
theorem dX13_cut_1 : decode cX13_cut 1 = .ok (.iconst 0, 1) := by decide +kernel
theorem dX13_cut_2 : decode cX13_cut 2 = .ok (.putfield 193, 3) := by decide +kernel
theorem dX13_cut_5 : decode cX13_cut 5 = .ok (.iload_n 1, 1) := by decide +kernel
theorem dX13_cut_6 : decode cX13_cut 6 = .ok (.i2l, 1) := by decide +kernel
theorem dX13_cut_7 : decode cX13_cut 7 = .ok (.lconst 0, 1) := by decide +kernel
theorem dX13_cut_8 : decode cX13_cut 8 = .ok (.aload_n 0, 1) := by decide +kernel
theorem dX13_cut_9 : decode cX13_cut 9 = .ok (.getfield 196, 3) := by decide +kernel
theorem dX13_cut_12 : decode cX13_cut 12 = .ok (.i2l, 1) := by decide +kernel
theorem dX13_cut_13 : decode cX13_cut 13 = .ok (.invokestatic 204, 3) := by decide +kernel
theorem dX13_cut_16 : decode cX13_cut 16 = .ok (.ifCond .ne 6, 3) := by decide +kernel
theorem dX13_cut_19 : decode cX13_cut 19 = .ok (.ldc 208, 2) := by decide +kernel
theorem dX13_cut_21 : decode cX13_cut 21 = .ok (.ireturn, 1) := by decide +kernel
theorem dX13_cut_22 : decode cX13_cut 22 = .ok (.aload_n 0, 1) := by decide +kernel
theorem dX13_cut_23 : decode cX13_cut 23 = .ok (.getfield 196, 3) := by decide +kernel
theorem dX13_cut_26 : decode cX13_cut 26 = .ok (.iload_n 1, 1) := by decide +kernel
theorem dX13_cut_27 : decode cX13_cut 27 = .ok (.isub, 1) := by decide +kernel
theorem dX13_cut_28 : decode cX13_cut 28 = .ok (.istore_n 2, 1) := by decide +kernel
theorem dX13_cut_29 : decode cX13_cut 29 = .ok (.aload_n 0, 1) := by decide +kernel
theorem dX13_cut_30 : decode cX13_cut 30 = .ok (.iload_n 1, 1) := by decide +kernel
theorem dX13_cut_31 : decode cX13_cut 31 = .ok (.putfield 196, 3) := by decide +kernel
theorem dX13_cut_34 : decode cX13_cut 34 = .ok (.iload_n 2, 1) := by decide +kernel
theorem dX13_cut_35 : decode cX13_cut 35 = .ok (.ireturn, 1) := by decide +kernel
theorem dX13_isLetter_0 : decode cX13_isLetter 0 = .ok (.iload_n 0, 1) := by decide +kernel
theorem dX13_isLetter_1 : decode cX13_isLetter 1 = .ok (.i2l, 1) := by decide +kernel
theorem dX13_isLetter_2 : decode cX13_isLetter 2 = .ok (.ldc2_w 209, 3) := by decide +kernel
theorem dX13_isLetter_5 : decode cX13_isLetter 5 = .ok (.ldc2_w 211, 3) := by decide +kernel
theorem dX13_isLetter_8 : decode cX13_isLetter 8 = .ok (.invokestatic 204, 3) := by decide +kernel
theorem dX13_isLetter_11 : decode cX13_isLetter 11 = .ok (.ireturn, 1) := by decide +kernel
theorem dX13_isFigure_0 : decode cX13_isFigure 0 = .ok (.iload_n 0, 1) := by decide +kernel
theorem dX13_isFigure_1 : decode cX13_isFigure 1 = .ok (.i2l, 1) := by decide +kernel
theorem dX13_isFigure_2 : decode cX13_isFigure 2 = .ok (.ldc2_w 213, 3) := by decide +kernel
theorem dX13_isFigure_5 : decode cX13_isFigure 5 = .ok (.ldc2_w 215, 3) := by decide +kernel
theorem dX13_isFigure_8 : decode cX13_isFigure 8 = .ok (.invokestatic 204, 3) := by decide +kernel
theorem dX13_isFigure_11 : decode cX13_isFigure 11 = .ok (.ireturn, 1) := by decide +kernel
theorem dX13_isSign_0 : decode cX13_isSign 0 = .ok (.iload_n 0, 1) := by decide +kernel
theorem dX13_isSign_1 : decode cX13_isSign 1 = .ok (.bipush 59, 2) := by decide +kernel
theorem dX13_isSign_3 : decode cX13_isSign 3 = .ok (.if_icmp .eq 81, 3) := by decide +kernel
theorem dX13_isSign_6 : decode cX13_isSign 6 = .ok (.iload_n 0, 1) := by decide +kernel
theorem dX13_isSign_7 : decode cX13_isSign 7 = .ok (.bipush 44, 2) := by decide +kernel
theorem dX13_isSign_9 : decode cX13_isSign 9 = .ok (.if_icmp .eq 75, 3) := by decide +kernel
theorem dX13_isSign_12 : decode cX13_isSign 12 = .ok (.iload_n 0, 1) := by decide +kernel
theorem dX13_isSign_13 : decode cX13_isSign 13 = .ok (.bipush 61, 2) := by decide +kernel
theorem dX13_isSign_15 : decode cX13_isSign 15 = .ok (.if_icmp .eq 69, 3) := by decide +kernel
theorem dX13_isSign_18 : decode cX13_isSign 18 = .ok (.iload_n 0, 1) := by decide +kernel
theorem dX13_isSign_19 : decode cX13_isSign 19 = .ok (.bipush 60, 2) := by decide +kernel
theorem dX13_isSign_21 : decode cX13_isSign 21 = .ok (.if_icmp .eq 63, 3) := by decide +kernel
theorem dX13_isSign_24 : decode cX13_isSign 24 = .ok (.iload_n 0, 1) := by decide +kernel
theorem dX13_isSign_25 : decode cX13_isSign 25 = .ok (.bipush 43, 2) := by decide +kernel
theorem dX13_isSign_27 : decode cX13_isSign 27 = .ok (.if_icmp .eq 57, 3) := by decide +kernel
theorem dX13_isSign_30 : decode cX13_isSign 30 = .ok (.iload_n 0, 1) := by decide +kernel
theorem dX13_isSign_31 : decode cX13_isSign 31 = .ok (.bipush 45, 2) := by decide +kernel
theorem dX13_isSign_33 : decode cX13_isSign 33 = .ok (.if_icmp .eq 51, 3) := by decide +kernel
theorem dX13_isSign_36 : decode cX13_isSign 36 = .ok (.iload_n 0, 1) := by decide +kernel
theorem dX13_isSign_37 : decode cX13_isSign 37 = .ok (.bipush 42, 2) := by decide +kernel
theorem dX13_isSign_39 : decode cX13_isSign 39 = .ok (.if_icmp .eq 45, 3) := by decide +kernel
theorem dX13_isSign_42 : decode cX13_isSign 42 = .ok (.iload_n 0, 1) := by decide +kernel
theorem dX13_isSign_43 : decode cX13_isSign 43 = .ok (.bipush 47, 2) := by decide +kernel
theorem dX13_isSign_45 : decode cX13_isSign 45 = .ok (.if_icmp .eq 39, 3) := by decide +kernel
theorem dX13_isSign_48 : decode cX13_isSign 48 = .ok (.iload_n 0, 1) := by decide +kernel
theorem dX13_isSign_49 : decode cX13_isSign 49 = .ok (.bipush 40, 2) := by decide +kernel
theorem dX13_isSign_51 : decode cX13_isSign 51 = .ok (.if_icmp .eq 33, 3) := by decide +kernel
theorem dX13_isSign_54 : decode cX13_isSign 54 = .ok (.iload_n 0, 1) := by decide +kernel
theorem dX13_isSign_55 : decode cX13_isSign 55 = .ok (.bipush 41, 2) := by decide +kernel
theorem dX13_isSign_57 : decode cX13_isSign 57 = .ok (.if_icmp .eq 27, 3) := by decide +kernel
theorem dX13_isSign_60 : decode cX13_isSign 60 = .ok (.iload_n 0, 1) := by decide +kernel
theorem dX13_isSign_61 : decode cX13_isSign 61 = .ok (.bipush 91, 2) := by decide +kernel
theorem dX13_isSign_63 : decode cX13_isSign 63 = .ok (.if_icmp .eq 21, 3) := by decide +kernel
theorem dX13_isSign_66 : decode cX13_isSign 66 = .ok (.iload_n 0, 1) := by decide +kernel
theorem dX13_isSign_67 : decode cX13_isSign 67 = .ok (.bipush 93, 2) := by decide +kernel
theorem dX13_isSign_69 : decode cX13_isSign 69 = .ok (.if_icmp .eq 15, 3) := by decide +kernel
theorem dX13_isSign_72 : decode cX13_isSign 72 = .ok (.iload_n 0, 1) := by decide +kernel
theorem dX13_isSign_73 : decode cX13_isSign 73 = .ok (.bipush 123, 2) := by decide +kernel
theorem dX13_isSign_75 : decode cX13_isSign 75 = .ok (.if_icmp .eq 9, 3) := by decide +kernel
theorem dX13_isSign_78 : decode cX13_isSign 78 = .ok (.iload_n 0, 1) := by decide +kernel
theorem dX13_isSign_79 : decode cX13_isSign 79 = .ok (.bipush 125, 2) := by decide +kernel
theorem dX13_isSign_81 : decode cX13_isSign 81 = .ok (.if_icmp .ne 7, 3) := by decide +kernel
theorem dX13_isSign_84 : decode cX13_isSign 84 = .ok (.iconst 1, 1) := by decide +kernel
theorem dX13_isSign_85 : decode cX13_isSign 85 = .ok (.goto 4, 3) := by decide +kernel
theorem dX13_isSign_88 : decode cX13_isSign 88 = .ok (.iconst 0, 1) := by decide +kernel
theorem dX13_isSign_89 : decode cX13_isSign 89 = .ok (.ireturn, 1) := by decide +kernel
theorem dX13_scan_0 : decode cX13_scan 0 = .ok (.iload_n 1, 1) := by decide +kernel
theorem dX13_scan_1 : decode cX13_scan 1 = .ok (.istore_n 2, 1) := by decide +kernel
theorem dX13_scan_2 : decode cX13_scan 2 = .ok (.iload_n 2, 1) := by decide +kernel
theorem dX13_scan_3 : decode cX13_scan 3 = .ok (.aload_n 0, 1) := by decide +kernel
theorem dX13_scan_4 : decode cX13_scan 4 = .ok (.getfield 196, 3) := by decide +kernel
theorem dX13_scan_7 : decode cX13_scan 7 = .ok (.if_icmp .ge 31, 3) := by decide +kernel
theorem dX13_scan_10 : decode cX13_scan 10 = .ok (.aload_n 0, 1) := by decide +kernel
theorem dX13_scan_11 : decode cX13_scan 11 = .ok (.getfield 7, 3) := by decide +kernel
theorem dX13_scan_14 : decode cX13_scan 14 = .ok (.iload_n 2, 1) := by decide +kernel
theorem dX13_scan_15 : decode cX13_scan 15 = .ok (.baload, 1) := by decide +kernel
theorem dX13_scan_16 : decode cX13_scan 16 = .ok (.bipush 32, 2) := by decide +kernel
theorem dX13_scan_18 : decode cX13_scan 18 = .ok (.if_icmp .eq 14, 3) := by decide +kernel
theorem dX13_scan_21 : decode cX13_scan 21 = .ok (.aload_n 0, 1) := by decide +kernel
theorem dX13_scan_22 : decode cX13_scan 22 = .ok (.getfield 7, 3) := by decide +kernel
theorem dX13_scan_25 : decode cX13_scan 25 = .ok (.iload_n 2, 1) := by decide +kernel
theorem dX13_scan_26 : decode cX13_scan 26 = .ok (.baload, 1) := by decide +kernel
theorem dX13_scan_27 : decode cX13_scan 27 = .ok (.bipush 10, 2) := by decide +kernel
theorem dX13_scan_29 : decode cX13_scan 29 = .ok (.if_icmp .ne 9, 3) := by decide +kernel
theorem dX13_scan_32 : decode cX13_scan 32 = .ok (.iinc 2 1, 3) := by decide +kernel
theorem dX13_scan_35 : decode cX13_scan 35 = .ok (.goto (-33), 3) := by decide +kernel
theorem dX13_scan_38 : decode cX13_scan 38 = .ok (.aload_n 0, 1) := by decide +kernel
theorem dX13_scan_39 : decode cX13_scan 39 = .ok (.iload_n 2, 1) := by decide +kernel
theorem dX13_scan_40 : decode cX13_scan 40 = .ok (.putfield 217, 3) := by decide +kernel
theorem dX13_scan_43 : decode cX13_scan 43 = .ok (.aload_n 0, 1) := by decide +kernel
theorem dX13_scan_44 : decode cX13_scan 44 = .ok (.iconst 0, 1) := by decide +kernel
theorem dX13_scan_45 : decode cX13_scan 45 = .ok (.putfield 220, 3) := by decide +kernel
theorem dX13_scan_48 : decode cX13_scan 48 = .ok (.iload_n 2, 1) := by decide +kernel
theorem dX13_scan_49 : decode cX13_scan 49 = .ok (.aload_n 0, 1) := by decide +kernel
theorem dX13_scan_50 : decode cX13_scan 50 = .ok (.getfield 196, 3) := by decide +kernel
theorem dX13_scan_53 : decode cX13_scan 53 = .ok (.if_icmp .ne 14, 3) := by decide +kernel
theorem dX13_scan_56 : decode cX13_scan 56 = .ok (.aload_n 0, 1) := by decide +kernel
theorem dX13_scan_57 : decode cX13_scan 57 = .ok (.iconst 0, 1) := by decide +kernel
theorem dX13_scan_58 : decode cX13_scan 58 = .ok (.putfield 223, 3) := by decide +kernel
theorem dX13_scan_61 : decode cX13_scan 61 = .ok (.aload_n 0, 1) := by decide +kernel
theorem dX13_scan_62 : decode cX13_scan 62 = .ok (.iload_n 2, 1) := by decide +kernel
theorem dX13_scan_63 : decode cX13_scan 63 = .ok (.putfield 226, 3) := by decide +kernel
theorem dX13_scan_66 : decode cX13_scan 66 = .ok (.return_, 1) := by decide +kernel
theorem dX13_scan_67 : decode cX13_scan 67 = .ok (.aload_n 0, 1) := by decide +kernel
theorem dX13_scan_68 : decode cX13_scan 68 = .ok (.getfield 7, 3) := by decide +kernel
theorem dX13_scan_71 : decode cX13_scan 71 = .ok (.iload_n 2, 1) := by decide +kernel
theorem dX13_scan_72 : decode cX13_scan 72 = .ok (.baload, 1) := by decide +kernel
theorem dX13_scan_73 : decode cX13_scan 73 = .ok (.istore_n 3, 1) := by decide +kernel
theorem dX13_scan_74 : decode cX13_scan 74 = .ok (.iload_n 3, 1) := by decide +kernel
theorem dX13_scan_75 : decode cX13_scan 75 = .ok (.invokestatic 229, 3) := by decide +kernel
theorem dX13_scan_78 : decode cX13_scan 78 = .ok (.ifCond .ne 10, 3) := by decide +kernel
theorem dX13_scan_81 : decode cX13_scan 81 = .ok (.iload_n 3, 1) := by decide +kernel
theorem dX13_scan_82 : decode cX13_scan 82 = .ok (.invokestatic 233, 3) := by decide +kernel
theorem dX13_scan_85 : decode cX13_scan 85 = .ok (.ifCond .eq 180, 3) := by decide +kernel
theorem dX13_scan_88 : decode cX13_scan 88 = .ok (.iconst 1, 1) := by decide +kernel
theorem dX13_scan_89 : decode cX13_scan 89 = .ok (.istore 4, 2) := by decide +kernel
theorem dX13_scan_91 : decode cX13_scan 91 = .ok (.aload_n 0, 1) := by decide +kernel
theorem dX13_scan_92 : decode cX13_scan 92 = .ok (.lconst 0, 1) := by decide +kernel
theorem dX13_scan_93 : decode cX13_scan 93 = .ok (.putfield 236, 3) := by decide +kernel
theorem dX13_scan_96 : decode cX13_scan 96 = .ok (.iload_n 2, 1) := by decide +kernel
theorem dX13_scan_97 : decode cX13_scan 97 = .ok (.aload_n 0, 1) := by decide +kernel
theorem dX13_scan_98 : decode cX13_scan 98 = .ok (.getfield 196, 3) := by decide +kernel
theorem dX13_scan_101 : decode cX13_scan 101 = .ok (.if_icmp .ge 104, 3) := by decide +kernel
theorem dX13_scan_104 : decode cX13_scan 104 = .ok (.aload_n 0, 1) := by decide +kernel
theorem dX13_scan_105 : decode cX13_scan 105 = .ok (.getfield 7, 3) := by decide +kernel
theorem dX13_scan_108 : decode cX13_scan 108 = .ok (.iload_n 2, 1) := by decide +kernel
theorem dX13_scan_109 : decode cX13_scan 109 = .ok (.baload, 1) := by decide +kernel
theorem dX13_scan_110 : decode cX13_scan 110 = .ok (.invokestatic 229, 3) := by decide +kernel
theorem dX13_scan_113 : decode cX13_scan 113 = .ok (.ifCond .ne 15, 3) := by decide +kernel
theorem dX13_scan_116 : decode cX13_scan 116 = .ok (.aload_n 0, 1) := by decide +kernel
theorem dX13_scan_117 : decode cX13_scan 117 = .ok (.getfield 7, 3) := by decide +kernel
theorem dX13_scan_120 : decode cX13_scan 120 = .ok (.iload_n 2, 1) := by decide +kernel
theorem dX13_scan_121 : decode cX13_scan 121 = .ok (.baload, 1) := by decide +kernel
theorem dX13_scan_122 : decode cX13_scan 122 = .ok (.invokestatic 233, 3) := by decide +kernel
theorem dX13_scan_125 : decode cX13_scan 125 = .ok (.ifCond .eq 80, 3) := by decide +kernel
theorem dX13_scan_128 : decode cX13_scan 128 = .ok (.iload 4, 2) := by decide +kernel
theorem dX13_scan_130 : decode cX13_scan 130 = .ok (.ifCond .eq 19, 3) := by decide +kernel
theorem dX13_scan_133 : decode cX13_scan 133 = .ok (.aload_n 0, 1) := by decide +kernel
theorem dX13_scan_134 : decode cX13_scan 134 = .ok (.getfield 7, 3) := by decide +kernel
theorem dX13_scan_137 : decode cX13_scan 137 = .ok (.iload_n 2, 1) := by decide +kernel
theorem dX13_scan_138 : decode cX13_scan 138 = .ok (.baload, 1) := by decide +kernel
theorem dX13_scan_139 : decode cX13_scan 139 = .ok (.invokestatic 233, 3) := by decide +kernel
theorem dX13_scan_142 : decode cX13_scan 142 = .ok (.ifCond .eq 7, 3) := by decide +kernel
theorem dX13_scan_145 : decode cX13_scan 145 = .ok (.iconst 1, 1) := by decide +kernel
theorem dX13_scan_146 : decode cX13_scan 146 = .ok (.goto 4, 3) := by decide +kernel
theorem dX13_scan_149 : decode cX13_scan 149 = .ok (.iconst 0, 1) := by decide +kernel
theorem dX13_scan_150 : decode cX13_scan 150 = .ok (.istore 4, 2) := by decide +kernel
theorem dX13_scan_152 : decode cX13_scan 152 = .ok (.aload_n 0, 1) := by decide +kernel
theorem dX13_scan_153 : decode cX13_scan 153 = .ok (.iload 4, 2) := by decide +kernel
theorem dX13_scan_155 : decode cX13_scan 155 = .ok (.ifCond .eq 37, 3) := by decide +kernel
theorem dX13_scan_158 : decode cX13_scan 158 = .ok (.iload_n 2, 1) := by decide +kernel
theorem dX13_scan_159 : decode cX13_scan 159 = .ok (.aload_n 0, 1) := by decide +kernel
theorem dX13_scan_160 : decode cX13_scan 160 = .ok (.getfield 217, 3) := by decide +kernel
theorem dX13_scan_163 : decode cX13_scan 163 = .ok (.isub, 1) := by decide +kernel
theorem dX13_scan_164 : decode cX13_scan 164 = .ok (.bipush 9, 2) := by decide +kernel
theorem dX13_scan_166 : decode cX13_scan 166 = .ok (.if_icmp .ge 26, 3) := by decide +kernel
theorem dX13_scan_169 : decode cX13_scan 169 = .ok (.ldc2_w 240, 3) := by decide +kernel
theorem dX13_scan_172 : decode cX13_scan 172 = .ok (.aload_n 0, 1) := by decide +kernel
theorem dX13_scan_173 : decode cX13_scan 173 = .ok (.getfield 236, 3) := by decide +kernel
theorem dX13_scan_176 : decode cX13_scan 176 = .ok (.lmul, 1) := by decide +kernel
theorem dX13_scan_177 : decode cX13_scan 177 = .ok (.aload_n 0, 1) := by decide +kernel
theorem dX13_scan_178 : decode cX13_scan 178 = .ok (.getfield 7, 3) := by decide +kernel
theorem dX13_scan_181 : decode cX13_scan 181 = .ok (.iload_n 2, 1) := by decide +kernel
theorem dX13_scan_182 : decode cX13_scan 182 = .ok (.baload, 1) := by decide +kernel
theorem dX13_scan_183 : decode cX13_scan 183 = .ok (.i2l, 1) := by decide +kernel
theorem dX13_scan_184 : decode cX13_scan 184 = .ok (.ladd, 1) := by decide +kernel
theorem dX13_scan_185 : decode cX13_scan 185 = .ok (.ldc2_w 213, 3) := by decide +kernel
theorem dX13_scan_188 : decode cX13_scan 188 = .ok (.lsub, 1) := by decide +kernel
theorem dX13_scan_189 : decode cX13_scan 189 = .ok (.goto 7, 3) := by decide +kernel
theorem dX13_scan_192 : decode cX13_scan 192 = .ok (.aload_n 0, 1) := by decide +kernel
theorem dX13_scan_193 : decode cX13_scan 193 = .ok (.getfield 236, 3) := by decide +kernel
theorem dX13_scan_196 : decode cX13_scan 196 = .ok (.putfield 236, 3) := by decide +kernel
theorem dX13_scan_199 : decode cX13_scan 199 = .ok (.iinc 2 1, 3) := by decide +kernel
theorem dX13_scan_202 : decode cX13_scan 202 = .ok (.goto (-106), 3) := by decide +kernel
theorem dX13_scan_205 : decode cX13_scan 205 = .ok (.aload_n 0, 1) := by decide +kernel
theorem dX13_scan_206 : decode cX13_scan 206 = .ok (.iload_n 2, 1) := by decide +kernel
theorem dX13_scan_207 : decode cX13_scan 207 = .ok (.aload_n 0, 1) := by decide +kernel
theorem dX13_scan_208 : decode cX13_scan 208 = .ok (.getfield 217, 3) := by decide +kernel
theorem dX13_scan_211 : decode cX13_scan 211 = .ok (.isub, 1) := by decide +kernel
theorem dX13_scan_212 : decode cX13_scan 212 = .ok (.putfield 220, 3) := by decide +kernel
theorem dX13_scan_215 : decode cX13_scan 215 = .ok (.aload_n 0, 1) := by decide +kernel
theorem dX13_scan_216 : decode cX13_scan 216 = .ok (.iload_n 3, 1) := by decide +kernel
theorem dX13_scan_217 : decode cX13_scan 217 = .ok (.invokestatic 229, 3) := by decide +kernel
theorem dX13_scan_220 : decode cX13_scan 220 = .ok (.ifCond .eq 20, 3) := by decide +kernel
theorem dX13_scan_223 : decode cX13_scan 223 = .ok (.aload_n 0, 1) := by decide +kernel
theorem dX13_scan_224 : decode cX13_scan 224 = .ok (.getfield 220, 3) := by decide +kernel
theorem dX13_scan_227 : decode cX13_scan 227 = .ok (.bipush 10, 2) := by decide +kernel
theorem dX13_scan_229 : decode cX13_scan 229 = .ok (.if_icmp .le 7, 3) := by decide +kernel
theorem dX13_scan_232 : decode cX13_scan 232 = .ok (.iconst 4, 1) := by decide +kernel
theorem dX13_scan_233 : decode cX13_scan 233 = .ok (.goto 26, 3) := by decide +kernel
theorem dX13_scan_236 : decode cX13_scan 236 = .ok (.iconst 1, 1) := by decide +kernel
theorem dX13_scan_237 : decode cX13_scan 237 = .ok (.goto 22, 3) := by decide +kernel
theorem dX13_scan_240 : decode cX13_scan 240 = .ok (.iload 4, 2) := by decide +kernel
theorem dX13_scan_242 : decode cX13_scan 242 = .ok (.ifCond .eq 16, 3) := by decide +kernel
theorem dX13_scan_245 : decode cX13_scan 245 = .ok (.aload_n 0, 1) := by decide +kernel
theorem dX13_scan_246 : decode cX13_scan 246 = .ok (.getfield 220, 3) := by decide +kernel
theorem dX13_scan_249 : decode cX13_scan 249 = .ok (.bipush 9, 2) := by decide +kernel
theorem dX13_scan_251 : decode cX13_scan 251 = .ok (.if_icmp .gt 7, 3) := by decide +kernel
theorem dX13_scan_254 : decode cX13_scan 254 = .ok (.iconst 2, 1) := by decide +kernel
theorem dX13_scan_255 : decode cX13_scan 255 = .ok (.goto 4, 3) := by decide +kernel
theorem dX13_scan_258 : decode cX13_scan 258 = .ok (.iconst 4, 1) := by decide +kernel
theorem dX13_scan_259 : decode cX13_scan 259 = .ok (.putfield 223, 3) := by decide +kernel
theorem dX13_scan_262 : decode cX13_scan 262 = .ok (.goto 32, 3) := by decide +kernel
theorem dX13_scan_265 : decode cX13_scan 265 = .ok (.iinc 2 1, 3) := by decide +kernel
theorem dX13_scan_268 : decode cX13_scan 268 = .ok (.aload_n 0, 1) := by decide +kernel
theorem dX13_scan_269 : decode cX13_scan 269 = .ok (.iconst 1, 1) := by decide +kernel
theorem dX13_scan_270 : decode cX13_scan 270 = .ok (.putfield 220, 3) := by decide +kernel
theorem dX13_scan_273 : decode cX13_scan 273 = .ok (.aload_n 0, 1) := by decide +kernel
theorem dX13_scan_274 : decode cX13_scan 274 = .ok (.iload_n 3, 1) := by decide +kernel
theorem dX13_scan_275 : decode cX13_scan 275 = .ok (.putfield 242, 3) := by decide +kernel
theorem dX13_scan_278 : decode cX13_scan 278 = .ok (.aload_n 0, 1) := by decide +kernel
theorem dX13_scan_279 : decode cX13_scan 279 = .ok (.iload_n 3, 1) := by decide +kernel
theorem dX13_scan_280 : decode cX13_scan 280 = .ok (.invokestatic 245, 3) := by decide +kernel
theorem dX13_scan_283 : decode cX13_scan 283 = .ok (.ifCond .eq 7, 3) := by decide +kernel
theorem dX13_scan_286 : decode cX13_scan 286 = .ok (.iconst 3, 1) := by decide +kernel
theorem dX13_scan_287 : decode cX13_scan 287 = .ok (.goto 4, 3) := by decide +kernel
theorem dX13_scan_290 : decode cX13_scan 290 = .ok (.iconst 4, 1) := by decide +kernel
theorem dX13_scan_291 : decode cX13_scan 291 = .ok (.putfield 223, 3) := by decide +kernel
theorem dX13_scan_294 : decode cX13_scan 294 = .ok (.aload_n 0, 1) := by decide +kernel
theorem dX13_scan_295 : decode cX13_scan 295 = .ok (.iload_n 2, 1) := by decide +kernel
theorem dX13_scan_296 : decode cX13_scan 296 = .ok (.putfield 226, 3) := by decide +kernel
theorem dX13_scan_299 : decode cX13_scan 299 = .ok (.return_, 1) := by decide +kernel
theorem dX13_next_0 : decode cX13_next 0 = .ok (.aload_n 0, 1) := by decide +kernel
theorem dX13_next_1 : decode cX13_next 1 = .ok (.aload_n 0, 1) := by decide +kernel
theorem dX13_next_2 : decode cX13_next 2 = .ok (.getfield 226, 3) := by decide +kernel
theorem dX13_next_5 : decode cX13_next 5 = .ok (.invokevirtual 248, 3) := by decide +kernel
theorem dX13_next_8 : decode cX13_next 8 = .ok (.return_, 1) := by decide +kernel
theorem dX13_behind_0 : decode cX13_behind 0 = .ok (.aload_n 0, 1) := by decide +kernel
theorem dX13_behind_1 : decode cX13_behind 1 = .ok (.getfield 223, 3) := by decide +kernel
theorem dX13_behind_4 : decode cX13_behind 4 = .ok (.istore_n 1, 1) := by decide +kernel
theorem dX13_behind_5 : decode cX13_behind 5 = .ok (.aload_n 0, 1) := by decide +kernel
theorem dX13_behind_6 : decode cX13_behind 6 = .ok (.getfield 217, 3) := by decide +kernel
theorem dX13_behind_9 : decode cX13_behind 9 = .ok (.istore_n 2, 1) := by decide +kernel
theorem dX13_behind_10 : decode cX13_behind 10 = .ok (.aload_n 0, 1) := by decide +kernel
theorem dX13_behind_11 : decode cX13_behind 11 = .ok (.getfield 220, 3) := by decide +kernel
theorem dX13_behind_14 : decode cX13_behind 14 = .ok (.istore_n 3, 1) := by decide +kernel
theorem dX13_behind_15 : decode cX13_behind 15 = .ok (.aload_n 0, 1) := by decide +kernel
theorem dX13_behind_16 : decode cX13_behind 16 = .ok (.getfield 242, 3) := by decide +kernel
theorem dX13_behind_19 : decode cX13_behind 19 = .ok (.istore 4, 2) := by decide +kernel
theorem dX13_behind_21 : decode cX13_behind 21 = .ok (.aload_n 0, 1) := by decide +kernel
theorem dX13_behind_22 : decode cX13_behind 22 = .ok (.getfield 236, 3) := by decide +kernel
theorem dX13_behind_25 : decode cX13_behind 25 = .ok (.lstore 5, 2) := by decide +kernel
theorem dX13_behind_27 : decode cX13_behind 27 = .ok (.aload_n 0, 1) := by decide +kernel
theorem dX13_behind_28 : decode cX13_behind 28 = .ok (.getfield 226, 3) := by decide +kernel
theorem dX13_behind_31 : decode cX13_behind 31 = .ok (.istore 7, 2) := by decide +kernel
theorem dX13_behind_33 : decode cX13_behind 33 = .ok (.aload_n 0, 1) := by decide +kernel
theorem dX13_behind_34 : decode cX13_behind 34 = .ok (.iload 7, 2) := by decide +kernel
theorem dX13_behind_36 : decode cX13_behind 36 = .ok (.invokevirtual 248, 3) := by decide +kernel
theorem dX13_behind_39 : decode cX13_behind 39 = .ok (.aload_n 0, 1) := by decide +kernel
theorem dX13_behind_40 : decode cX13_behind 40 = .ok (.getfield 223, 3) := by decide +kernel
theorem dX13_behind_43 : decode cX13_behind 43 = .ok (.iconst 3, 1) := by decide +kernel
theorem dX13_behind_44 : decode cX13_behind 44 = .ok (.if_icmp .ne 10, 3) := by decide +kernel
theorem dX13_behind_47 : decode cX13_behind 47 = .ok (.aload_n 0, 1) := by decide +kernel
theorem dX13_behind_48 : decode cX13_behind 48 = .ok (.getfield 242, 3) := by decide +kernel
theorem dX13_behind_51 : decode cX13_behind 51 = .ok (.goto 4, 3) := by decide +kernel
theorem dX13_behind_54 : decode cX13_behind 54 = .ok (.iconst 0, 1) := by decide +kernel
theorem dX13_behind_55 : decode cX13_behind 55 = .ok (.istore 8, 2) := by decide +kernel
theorem dX13_behind_57 : decode cX13_behind 57 = .ok (.aload_n 0, 1) := by decide +kernel
theorem dX13_behind_58 : decode cX13_behind 58 = .ok (.iload_n 1, 1) := by decide +kernel
theorem dX13_behind_59 : decode cX13_behind 59 = .ok (.putfield 223, 3) := by decide +kernel
theorem dX13_behind_62 : decode cX13_behind 62 = .ok (.aload_n 0, 1) := by decide +kernel
theorem dX13_behind_63 : decode cX13_behind 63 = .ok (.iload_n 2, 1) := by decide +kernel
theorem dX13_behind_64 : decode cX13_behind 64 = .ok (.putfield 217, 3) := by decide +kernel
theorem dX13_behind_67 : decode cX13_behind 67 = .ok (.aload_n 0, 1) := by decide +kernel
theorem dX13_behind_68 : decode cX13_behind 68 = .ok (.iload_n 3, 1) := by decide +kernel
theorem dX13_behind_69 : decode cX13_behind 69 = .ok (.putfield 220, 3) := by decide +kernel
theorem dX13_behind_72 : decode cX13_behind 72 = .ok (.aload_n 0, 1) := by decide +kernel
theorem dX13_behind_73 : decode cX13_behind 73 = .ok (.iload 4, 2) := by decide +kernel
theorem dX13_behind_75 : decode cX13_behind 75 = .ok (.putfield 242, 3) := by decide +kernel
theorem dX13_behind_78 : decode cX13_behind 78 = .ok (.aload_n 0, 1) := by decide +kernel
theorem dX13_behind_79 : decode cX13_behind 79 = .ok (.lload 5, 2) := by decide +kernel
theorem dX13_behind_81 : decode cX13_behind 81 = .ok (.putfield 236, 3) := by decide +kernel
theorem dX13_behind_84 : decode cX13_behind 84 = .ok (.aload_n 0, 1) := by decide +kernel
theorem dX13_behind_85 : decode cX13_behind 85 = .ok (.iload 7, 2) := by decide +kernel
theorem dX13_behind_87 : decode cX13_behind 87 = .ok (.putfield 226, 3) := by decide +kernel
theorem dX13_behind_90 : decode cX13_behind 90 = .ok (.iload 8, 2) := by decide +kernel
theorem dX13_behind_92 : decode cX13_behind 92 = .ok (.ireturn, 1) := by decide +kernel
theorem dX13_isSignHere_0 : decode cX13_isSignHere 0 = .ok (.aload_n 0, 1) := by decide +kernel
theorem dX13_isSignHere_1 : decode cX13_isSignHere 1 = .ok (.getfield 223, 3) := by decide +kernel
theorem dX13_isSignHere_4 : decode cX13_isSignHere 4 = .ok (.iconst 3, 1) := by decide +kernel
theorem dX13_isSignHere_5 : decode cX13_isSignHere 5 = .ok (.if_icmp .ne 15, 3) := by decide +kernel
theorem dX13_isSignHere_8 : decode cX13_isSignHere 8 = .ok (.aload_n 0, 1) := by decide +kernel
theorem dX13_isSignHere_9 : decode cX13_isSignHere 9 = .ok (.getfield 242, 3) := by decide +kernel
theorem dX13_isSignHere_12 : decode cX13_isSignHere 12 = .ok (.iload_n 1, 1) := by decide +kernel
theorem dX13_isSignHere_13 : decode cX13_isSignHere 13 = .ok (.if_icmp .ne 7, 3) := by decide +kernel
theorem dX13_isSignHere_16 : decode cX13_isSignHere 16 = .ok (.iconst 1, 1) := by decide +kernel
theorem dX13_isSignHere_17 : decode cX13_isSignHere 17 = .ok (.goto 4, 3) := by decide +kernel
theorem dX13_isSignHere_20 : decode cX13_isSignHere 20 = .ok (.iconst 0, 1) := by decide +kernel
theorem dX13_isSignHere_21 : decode cX13_isSignHere 21 = .ok (.ireturn, 1) := by decide +kernel
theorem dX13_wordOf_0 : decode cX13_wordOf 0 = .ok (.iconst 0, 1) := by decide +kernel
theorem dX13_wordOf_1 : decode cX13_wordOf 1 = .ok (.istore_n 2, 1) := by decide +kernel
theorem dX13_wordOf_2 : decode cX13_wordOf 2 = .ok (.iconst 0, 1) := by decide +kernel
theorem dX13_wordOf_3 : decode cX13_wordOf 3 = .ok (.istore_n 3, 1) := by decide +kernel
theorem dX13_wordOf_4 : decode cX13_wordOf 4 = .ok (.iconst 0, 1) := by decide +kernel
theorem dX13_wordOf_5 : decode cX13_wordOf 5 = .ok (.istore 4, 2) := by decide +kernel
theorem dX13_wordOf_7 : decode cX13_wordOf 7 = .ok (.iload 4, 2) := by decide +kernel
theorem dX13_wordOf_9 : decode cX13_wordOf 9 = .ok (.aload_n 1, 1) := by decide +kernel
theorem dX13_wordOf_10 : decode cX13_wordOf 10 = .ok (.arraylength, 1) := by decide +kernel
theorem dX13_wordOf_11 : decode cX13_wordOf 11 = .ok (.if_icmp .ge 113, 3) := by decide +kernel
theorem dX13_wordOf_14 : decode cX13_wordOf 14 = .ok (.aload_n 1, 1) := by decide +kernel
theorem dX13_wordOf_15 : decode cX13_wordOf 15 = .ok (.iload 4, 2) := by decide +kernel
theorem dX13_wordOf_17 : decode cX13_wordOf 17 = .ok (.caload, 1) := by decide +kernel
theorem dX13_wordOf_18 : decode cX13_wordOf 18 = .ok (.bipush 32, 2) := by decide +kernel
theorem dX13_wordOf_20 : decode cX13_wordOf 20 = .ok (.if_icmp .eq 6, 3) := by decide +kernel
theorem dX13_wordOf_23 : decode cX13_wordOf 23 = .ok (.goto 95, 3) := by decide +kernel
theorem dX13_wordOf_26 : decode cX13_wordOf 26 = .ok (.aload_n 0, 1) := by decide +kernel
theorem dX13_wordOf_27 : decode cX13_wordOf 27 = .ok (.getfield 223, 3) := by decide +kernel
theorem dX13_wordOf_30 : decode cX13_wordOf 30 = .ok (.iconst 1, 1) := by decide +kernel
theorem dX13_wordOf_31 : decode cX13_wordOf 31 = .ok (.if_icmp .ne 18, 3) := by decide +kernel
theorem dX13_wordOf_34 : decode cX13_wordOf 34 = .ok (.iload 4, 2) := by decide +kernel
theorem dX13_wordOf_36 : decode cX13_wordOf 36 = .ok (.iload_n 3, 1) := by decide +kernel
theorem dX13_wordOf_37 : decode cX13_wordOf 37 = .ok (.isub, 1) := by decide +kernel
theorem dX13_wordOf_38 : decode cX13_wordOf 38 = .ok (.aload_n 0, 1) := by decide +kernel
theorem dX13_wordOf_39 : decode cX13_wordOf 39 = .ok (.getfield 220, 3) := by decide +kernel
theorem dX13_wordOf_42 : decode cX13_wordOf 42 = .ok (.if_icmp .ne 7, 3) := by decide +kernel
theorem dX13_wordOf_45 : decode cX13_wordOf 45 = .ok (.iconst 1, 1) := by decide +kernel
theorem dX13_wordOf_46 : decode cX13_wordOf 46 = .ok (.goto 4, 3) := by decide +kernel
theorem dX13_wordOf_49 : decode cX13_wordOf 49 = .ok (.iconst 0, 1) := by decide +kernel
theorem dX13_wordOf_50 : decode cX13_wordOf 50 = .ok (.istore 5, 2) := by decide +kernel
theorem dX13_wordOf_52 : decode cX13_wordOf 52 = .ok (.iconst 0, 1) := by decide +kernel
theorem dX13_wordOf_53 : decode cX13_wordOf 53 = .ok (.istore 6, 2) := by decide +kernel
theorem dX13_wordOf_55 : decode cX13_wordOf 55 = .ok (.iload 6, 2) := by decide +kernel
theorem dX13_wordOf_57 : decode cX13_wordOf 57 = .ok (.aload_n 0, 1) := by decide +kernel
theorem dX13_wordOf_58 : decode cX13_wordOf 58 = .ok (.getfield 220, 3) := by decide +kernel
theorem dX13_wordOf_61 : decode cX13_wordOf 61 = .ok (.if_icmp .ge 42, 3) := by decide +kernel
theorem dX13_wordOf_64 : decode cX13_wordOf 64 = .ok (.iload 5, 2) := by decide +kernel
theorem dX13_wordOf_66 : decode cX13_wordOf 66 = .ok (.ifCond .eq 37, 3) := by decide +kernel
theorem dX13_wordOf_69 : decode cX13_wordOf 69 = .ok (.aload_n 0, 1) := by decide +kernel
theorem dX13_wordOf_70 : decode cX13_wordOf 70 = .ok (.getfield 7, 3) := by decide +kernel
theorem dX13_wordOf_73 : decode cX13_wordOf 73 = .ok (.aload_n 0, 1) := by decide +kernel
theorem dX13_wordOf_74 : decode cX13_wordOf 74 = .ok (.getfield 217, 3) := by decide +kernel
theorem dX13_wordOf_77 : decode cX13_wordOf 77 = .ok (.iload 6, 2) := by decide +kernel
theorem dX13_wordOf_79 : decode cX13_wordOf 79 = .ok (.iadd, 1) := by decide +kernel
theorem dX13_wordOf_80 : decode cX13_wordOf 80 = .ok (.baload, 1) := by decide +kernel
theorem dX13_wordOf_81 : decode cX13_wordOf 81 = .ok (.aload_n 1, 1) := by decide +kernel
theorem dX13_wordOf_82 : decode cX13_wordOf 82 = .ok (.iload_n 3, 1) := by decide +kernel
theorem dX13_wordOf_83 : decode cX13_wordOf 83 = .ok (.iload 6, 2) := by decide +kernel
theorem dX13_wordOf_85 : decode cX13_wordOf 85 = .ok (.iadd, 1) := by decide +kernel
theorem dX13_wordOf_86 : decode cX13_wordOf 86 = .ok (.caload, 1) := by decide +kernel
theorem dX13_wordOf_87 : decode cX13_wordOf 87 = .ok (.if_icmp .ne 7, 3) := by decide +kernel
theorem dX13_wordOf_90 : decode cX13_wordOf 90 = .ok (.iconst 1, 1) := by decide +kernel
theorem dX13_wordOf_91 : decode cX13_wordOf 91 = .ok (.goto 4, 3) := by decide +kernel
theorem dX13_wordOf_94 : decode cX13_wordOf 94 = .ok (.iconst 0, 1) := by decide +kernel
theorem dX13_wordOf_95 : decode cX13_wordOf 95 = .ok (.istore 5, 2) := by decide +kernel
theorem dX13_wordOf_97 : decode cX13_wordOf 97 = .ok (.iinc 6 1, 3) := by decide +kernel
theorem dX13_wordOf_100 : decode cX13_wordOf 100 = .ok (.goto (-45), 3) := by decide +kernel
theorem dX13_wordOf_103 : decode cX13_wordOf 103 = .ok (.iload 5, 2) := by decide +kernel
theorem dX13_wordOf_105 : decode cX13_wordOf 105 = .ok (.ifCond .eq 5, 3) := by decide +kernel
theorem dX13_wordOf_108 : decode cX13_wordOf 108 = .ok (.iload_n 2, 1) := by decide +kernel
theorem dX13_wordOf_109 : decode cX13_wordOf 109 = .ok (.ireturn, 1) := by decide +kernel
theorem dX13_wordOf_110 : decode cX13_wordOf 110 = .ok (.iinc 2 1, 3) := by decide +kernel
theorem dX13_wordOf_113 : decode cX13_wordOf 113 = .ok (.iload 4, 2) := by decide +kernel
theorem dX13_wordOf_115 : decode cX13_wordOf 115 = .ok (.iconst 1, 1) := by decide +kernel
theorem dX13_wordOf_116 : decode cX13_wordOf 116 = .ok (.iadd, 1) := by decide +kernel
theorem dX13_wordOf_117 : decode cX13_wordOf 117 = .ok (.istore_n 3, 1) := by decide +kernel
theorem dX13_wordOf_118 : decode cX13_wordOf 118 = .ok (.iinc 4 1, 3) := by decide +kernel
theorem dX13_wordOf_121 : decode cX13_wordOf 121 = .ok (.goto (-114), 3) := by decide +kernel
theorem dX13_wordOf_124 : decode cX13_wordOf 124 = .ok (.iconst (-1), 1) := by decide +kernel
theorem dX13_wordOf_125 : decode cX13_wordOf 125 = .ok (.ireturn, 1) := by decide +kernel
theorem dX13_placeOf_0 : decode cX13_placeOf 0 = .ok (.iconst 0, 1) := by decide +kernel
theorem dX13_placeOf_1 : decode cX13_placeOf 1 = .ok (.istore_n 2, 1) := by decide +kernel
theorem dX13_placeOf_2 : decode cX13_placeOf 2 = .ok (.iload_n 1, 1) := by decide +kernel
theorem dX13_placeOf_3 : decode cX13_placeOf 3 = .ok (.istore_n 3, 1) := by decide +kernel
theorem dX13_placeOf_4 : decode cX13_placeOf 4 = .ok (.iload_n 3, 1) := by decide +kernel
theorem dX13_placeOf_5 : decode cX13_placeOf 5 = .ok (.ifCond .le 25, 3) := by decide +kernel
theorem dX13_placeOf_8 : decode cX13_placeOf 8 = .ok (.iload_n 3, 1) := by decide +kernel
theorem dX13_placeOf_9 : decode cX13_placeOf 9 = .ok (.aload_n 0, 1) := by decide +kernel
theorem dX13_placeOf_10 : decode cX13_placeOf 10 = .ok (.iload_n 2, 1) := by decide +kernel
theorem dX13_placeOf_11 : decode cX13_placeOf 11 = .ok (.caload, 1) := by decide +kernel
theorem dX13_placeOf_12 : decode cX13_placeOf 12 = .ok (.bipush 32, 2) := by decide +kernel
theorem dX13_placeOf_14 : decode cX13_placeOf 14 = .ok (.if_icmp .ne 7, 3) := by decide +kernel
theorem dX13_placeOf_17 : decode cX13_placeOf 17 = .ok (.iconst 1, 1) := by decide +kernel
theorem dX13_placeOf_18 : decode cX13_placeOf 18 = .ok (.goto 4, 3) := by decide +kernel
theorem dX13_placeOf_21 : decode cX13_placeOf 21 = .ok (.iconst 0, 1) := by decide +kernel
theorem dX13_placeOf_22 : decode cX13_placeOf 22 = .ok (.isub, 1) := by decide +kernel
theorem dX13_placeOf_23 : decode cX13_placeOf 23 = .ok (.istore_n 3, 1) := by decide +kernel
theorem dX13_placeOf_24 : decode cX13_placeOf 24 = .ok (.iinc 2 1, 3) := by decide +kernel
theorem dX13_placeOf_27 : decode cX13_placeOf 27 = .ok (.goto (-23), 3) := by decide +kernel
theorem dX13_placeOf_30 : decode cX13_placeOf 30 = .ok (.iload_n 2, 1) := by decide +kernel
theorem dX13_placeOf_31 : decode cX13_placeOf 31 = .ok (.ireturn, 1) := by decide +kernel
theorem dX13_sizeOf_0 : decode cX13_sizeOf 0 = .ok (.iconst 0, 1) := by decide +kernel
theorem dX13_sizeOf_1 : decode cX13_sizeOf 1 = .ok (.istore_n 2, 1) := by decide +kernel
theorem dX13_sizeOf_2 : decode cX13_sizeOf 2 = .ok (.aload_n 0, 1) := by decide +kernel
theorem dX13_sizeOf_3 : decode cX13_sizeOf 3 = .ok (.iload_n 1, 1) := by decide +kernel
theorem dX13_sizeOf_4 : decode cX13_sizeOf 4 = .ok (.iload_n 2, 1) := by decide +kernel
theorem dX13_sizeOf_5 : decode cX13_sizeOf 5 = .ok (.iadd, 1) := by decide +kernel
theorem dX13_sizeOf_6 : decode cX13_sizeOf 6 = .ok (.caload, 1) := by decide +kernel
theorem dX13_sizeOf_7 : decode cX13_sizeOf 7 = .ok (.bipush 32, 2) := by decide +kernel
theorem dX13_sizeOf_9 : decode cX13_sizeOf 9 = .ok (.if_icmp .eq 9, 3) := by decide +kernel
theorem dX13_sizeOf_12 : decode cX13_sizeOf 12 = .ok (.iinc 2 1, 3) := by decide +kernel
theorem dX13_sizeOf_15 : decode cX13_sizeOf 15 = .ok (.goto (-13), 3) := by decide +kernel
theorem dX13_sizeOf_18 : decode cX13_sizeOf 18 = .ok (.iload_n 2, 1) := by decide +kernel
theorem dX13_sizeOf_19 : decode cX13_sizeOf 19 = .ok (.ireturn, 1) := by decide +kernel
theorem dX13_isName_0 : decode cX13_isName 0 = .ok (.aload_n 0, 1) := by decide +kernel
theorem dX13_isName_1 : decode cX13_isName 1 = .ok (.getfield 223, 3) := by decide +kernel
theorem dX13_isName_4 : decode cX13_isName 4 = .ok (.iconst 1, 1) := by decide +kernel
theorem dX13_isName_5 : decode cX13_isName 5 = .ok (.if_icmp .ne 18, 3) := by decide +kernel
theorem dX13_isName_8 : decode cX13_isName 8 = .ok (.aload_n 0, 1) := by decide +kernel
theorem dX13_isName_9 : decode cX13_isName 9 = .ok (.aload_n 0, 1) := by decide +kernel
theorem dX13_isName_10 : decode cX13_isName 10 = .ok (.getfield 13, 3) := by decide +kernel
theorem dX13_isName_13 : decode cX13_isName 13 = .ok (.invokevirtual 251, 3) := by decide +kernel
theorem dX13_isName_16 : decode cX13_isName 16 = .ok (.ifCond .ge 7, 3) := by decide +kernel
theorem dX13_isName_19 : decode cX13_isName 19 = .ok (.iconst 1, 1) := by decide +kernel
theorem dX13_isName_20 : decode cX13_isName 20 = .ok (.goto 4, 3) := by decide +kernel
theorem dX13_isName_23 : decode cX13_isName 23 = .ok (.iconst 0, 1) := by decide +kernel
theorem dX13_isName_24 : decode cX13_isName 24 = .ok (.ireturn, 1) := by decide +kernel
theorem dX13_wrong_0 : decode cX13_wrong 0 = .ok (.aload_n 0, 1) := by decide +kernel
theorem dX13_wrong_1 : decode cX13_wrong 1 = .ok (.getfield 255, 3) := by decide +kernel
theorem dX13_wrong_4 : decode cX13_wrong 4 = .ok (.ifCond .ne 13, 3) := by decide +kernel
theorem dX13_wrong_7 : decode cX13_wrong 7 = .ok (.aload_n 0, 1) := by decide +kernel
theorem dX13_wrong_8 : decode cX13_wrong 8 = .ok (.iload_n 1, 1) := by decide +kernel
theorem dX13_wrong_9 : decode cX13_wrong 9 = .ok (.putfield 255, 3) := by decide +kernel
theorem dX13_wrong_12 : decode cX13_wrong 12 = .ok (.aload_n 0, 1) := by decide +kernel
theorem dX13_wrong_13 : decode cX13_wrong 13 = .ok (.iload_n 2, 1) := by decide +kernel
theorem dX13_wrong_14 : decode cX13_wrong 14 = .ok (.putfield 258, 3) := by decide +kernel
theorem dX13_wrong_17 : decode cX13_wrong 17 = .ok (.return_, 1) := by decide +kernel
theorem dX13_fine_0 : decode cX13_fine 0 = .ok (.aload_n 0, 1) := by decide +kernel
theorem dX13_fine_1 : decode cX13_fine 1 = .ok (.getfield 255, 3) := by decide +kernel
theorem dX13_fine_4 : decode cX13_fine 4 = .ok (.ifCond .ne 7, 3) := by decide +kernel
theorem dX13_fine_7 : decode cX13_fine 7 = .ok (.iconst 1, 1) := by decide +kernel
theorem dX13_fine_8 : decode cX13_fine 8 = .ok (.goto 4, 3) := by decide +kernel
theorem dX13_fine_11 : decode cX13_fine 11 = .ok (.iconst 0, 1) := by decide +kernel
theorem dX13_fine_12 : decode cX13_fine 12 = .ok (.ireturn, 1) := by decide +kernel
theorem dX13_misplaced_0 : decode cX13_misplaced 0 = .ok (.aload_n 0, 1) := by decide +kernel
theorem dX13_misplaced_1 : decode cX13_misplaced 1 = .ok (.aload_n 0, 1) := by decide +kernel
theorem dX13_misplaced_2 : decode cX13_misplaced 2 = .ok (.getfield 223, 3) := by decide +kernel
theorem dX13_misplaced_5 : decode cX13_misplaced 5 = .ok (.iconst 4, 1) := by decide +kernel
theorem dX13_misplaced_6 : decode cX13_misplaced 6 = .ok (.if_icmp .ne 7, 3) := by decide +kernel
theorem dX13_misplaced_9 : decode cX13_misplaced 9 = .ok (.iconst 1, 1) := by decide +kernel
theorem dX13_misplaced_10 : decode cX13_misplaced 10 = .ok (.goto 4, 3) := by decide +kernel
theorem dX13_misplaced_13 : decode cX13_misplaced 13 = .ok (.iconst 2, 1) := by decide +kernel
theorem dX13_misplaced_14 : decode cX13_misplaced 14 = .ok (.aload_n 0, 1) := by decide +kernel
theorem dX13_misplaced_15 : decode cX13_misplaced 15 = .ok (.getfield 217, 3) := by decide +kernel
theorem dX13_misplaced_18 : decode cX13_misplaced 18 = .ok (.invokevirtual 261, 3) := by decide +kernel
theorem dX13_misplaced_21 : decode cX13_misplaced 21 = .ok (.return_, 1) := by decide +kernel
theorem dX13_take_0 : decode cX13_take 0 = .ok (.aload_n 0, 1) := by decide +kernel
theorem dX13_take_1 : decode cX13_take 1 = .ok (.invokevirtual 265, 3) := by decide +kernel
theorem dX13_take_4 : decode cX13_take 4 = .ok (.ifCond .ne 4, 3) := by decide +kernel
theorem dX13_take_7 : decode cX13_take 7 = .ok (.return_, 1) := by decide +kernel
theorem dX13_take_8 : decode cX13_take 8 = .ok (.aload_n 0, 1) := by decide +kernel
theorem dX13_take_9 : decode cX13_take 9 = .ok (.iload_n 1, 1) := by decide +kernel
theorem dX13_take_10 : decode cX13_take 10 = .ok (.invokevirtual 269, 3) := by decide +kernel
theorem dX13_take_13 : decode cX13_take 13 = .ok (.ifCond .eq 10, 3) := by decide +kernel
theorem dX13_take_16 : decode cX13_take 16 = .ok (.aload_n 0, 1) := by decide +kernel
theorem dX13_take_17 : decode cX13_take 17 = .ok (.invokevirtual 272, 3) := by decide +kernel
theorem dX13_take_20 : decode cX13_take 20 = .ok (.goto 7, 3) := by decide +kernel
theorem dX13_take_23 : decode cX13_take 23 = .ok (.aload_n 0, 1) := by decide +kernel
theorem dX13_take_24 : decode cX13_take 24 = .ok (.invokevirtual 275, 3) := by decide +kernel
theorem dX13_take_27 : decode cX13_take 27 = .ok (.return_, 1) := by decide +kernel
theorem dX13_open_0 : decode cX13_open 0 = .ok (.aload_n 0, 1) := by decide +kernel
theorem dX13_open_1 : decode cX13_open 1 = .ok (.invokevirtual 265, 3) := by decide +kernel
theorem dX13_open_4 : decode cX13_open 4 = .ok (.ifCond .ne 4, 3) := by decide +kernel
theorem dX13_open_7 : decode cX13_open 7 = .ok (.return_, 1) := by decide +kernel
theorem dX13_open_8 : decode cX13_open 8 = .ok (.aload_n 0, 1) := by decide +kernel
theorem dX13_open_9 : decode cX13_open 9 = .ok (.iload_n 1, 1) := by decide +kernel
theorem dX13_open_10 : decode cX13_open 10 = .ok (.invokevirtual 269, 3) := by decide +kernel
theorem dX13_open_13 : decode cX13_open 13 = .ok (.ifCond .ne 10, 3) := by decide +kernel
theorem dX13_open_16 : decode cX13_open 16 = .ok (.aload_n 0, 1) := by decide +kernel
theorem dX13_open_17 : decode cX13_open 17 = .ok (.invokevirtual 275, 3) := by decide +kernel
theorem dX13_open_20 : decode cX13_open 20 = .ok (.goto 38, 3) := by decide +kernel
theorem dX13_open_23 : decode cX13_open 23 = .ok (.aload_n 0, 1) := by decide +kernel
theorem dX13_open_24 : decode cX13_open 24 = .ok (.getfield 278, 3) := by decide +kernel
theorem dX13_open_27 : decode cX13_open 27 = .ok (.bipush 10, 2) := by decide +kernel
theorem dX13_open_29 : decode cX13_open 29 = .ok (.if_icmp .ne 15, 3) := by decide +kernel
theorem dX13_open_32 : decode cX13_open 32 = .ok (.aload_n 0, 1) := by decide +kernel
theorem dX13_open_33 : decode cX13_open 33 = .ok (.iconst 3, 1) := by decide +kernel
theorem dX13_open_34 : decode cX13_open 34 = .ok (.aload_n 0, 1) := by decide +kernel
theorem dX13_open_35 : decode cX13_open 35 = .ok (.getfield 217, 3) := by decide +kernel
theorem dX13_open_38 : decode cX13_open 38 = .ok (.invokevirtual 261, 3) := by decide +kernel
theorem dX13_open_41 : decode cX13_open 41 = .ok (.goto 17, 3) := by decide +kernel
theorem dX13_open_44 : decode cX13_open 44 = .ok (.aload_n 0, 1) := by decide +kernel
theorem dX13_open_45 : decode cX13_open 45 = .ok (.dup, 1) := by decide +kernel
theorem dX13_open_46 : decode cX13_open 46 = .ok (.getfield 278, 3) := by decide +kernel
theorem dX13_open_49 : decode cX13_open 49 = .ok (.iconst 1, 1) := by decide +kernel
theorem dX13_open_50 : decode cX13_open 50 = .ok (.iadd, 1) := by decide +kernel
theorem dX13_open_51 : decode cX13_open 51 = .ok (.putfield 278, 3) := by decide +kernel
theorem dX13_open_54 : decode cX13_open 54 = .ok (.aload_n 0, 1) := by decide +kernel
theorem dX13_open_55 : decode cX13_open 55 = .ok (.invokevirtual 272, 3) := by decide +kernel
theorem dX13_open_58 : decode cX13_open 58 = .ok (.return_, 1) := by decide +kernel
theorem dX13_shut_0 : decode cX13_shut 0 = .ok (.aload_n 0, 1) := by decide +kernel
theorem dX13_shut_1 : decode cX13_shut 1 = .ok (.iload_n 1, 1) := by decide +kernel
theorem dX13_shut_2 : decode cX13_shut 2 = .ok (.invokevirtual 281, 3) := by decide +kernel
theorem dX13_shut_5 : decode cX13_shut 5 = .ok (.aload_n 0, 1) := by decide +kernel
theorem dX13_shut_6 : decode cX13_shut 6 = .ok (.dup, 1) := by decide +kernel
theorem dX13_shut_7 : decode cX13_shut 7 = .ok (.getfield 278, 3) := by decide +kernel
theorem dX13_shut_10 : decode cX13_shut 10 = .ok (.iconst 1, 1) := by decide +kernel
theorem dX13_shut_11 : decode cX13_shut 11 = .ok (.isub, 1) := by decide +kernel
theorem dX13_shut_12 : decode cX13_shut 12 = .ok (.putfield 278, 3) := by decide +kernel
theorem dX13_shut_15 : decode cX13_shut 15 = .ok (.return_, 1) := by decide +kernel
theorem dX13_newNode_0 : decode cX13_newNode 0 = .ok (.aload_n 0, 1) := by decide +kernel
theorem dX13_newNode_1 : decode cX13_newNode 1 = .ok (.getfield 284, 3) := by decide +kernel
theorem dX13_newNode_4 : decode cX13_newNode 4 = .ok (.sipush 250, 3) := by decide +kernel
theorem dX13_newNode_7 : decode cX13_newNode 7 = .ok (.if_icmp .ne 11, 3) := by decide +kernel
theorem dX13_newNode_10 : decode cX13_newNode 10 = .ok (.aload_n 0, 1) := by decide +kernel
theorem dX13_newNode_11 : decode cX13_newNode 11 = .ok (.iconst 3, 1) := by decide +kernel
theorem dX13_newNode_12 : decode cX13_newNode 12 = .ok (.iload_n 2, 1) := by decide +kernel
theorem dX13_newNode_13 : decode cX13_newNode 13 = .ok (.invokevirtual 261, 3) := by decide +kernel
theorem dX13_newNode_16 : decode cX13_newNode 16 = .ok (.iconst 0, 1) := by decide +kernel
theorem dX13_newNode_17 : decode cX13_newNode 17 = .ok (.ireturn, 1) := by decide +kernel
theorem dX13_newNode_18 : decode cX13_newNode 18 = .ok (.sipush 300, 3) := by decide +kernel
theorem dX13_newNode_21 : decode cX13_newNode 21 = .ok (.aload_n 0, 1) := by decide +kernel
theorem dX13_newNode_22 : decode cX13_newNode 22 = .ok (.getfield 284, 3) := by decide +kernel
theorem dX13_newNode_25 : decode cX13_newNode 25 = .ok (.iadd, 1) := by decide +kernel
theorem dX13_newNode_26 : decode cX13_newNode 26 = .ok (.istore_n 3, 1) := by decide +kernel
theorem dX13_newNode_27 : decode cX13_newNode 27 = .ok (.aload_n 0, 1) := by decide +kernel
theorem dX13_newNode_28 : decode cX13_newNode 28 = .ok (.dup, 1) := by decide +kernel
theorem dX13_newNode_29 : decode cX13_newNode 29 = .ok (.getfield 284, 3) := by decide +kernel
theorem dX13_newNode_32 : decode cX13_newNode 32 = .ok (.iconst 1, 1) := by decide +kernel
theorem dX13_newNode_33 : decode cX13_newNode 33 = .ok (.iadd, 1) := by decide +kernel
theorem dX13_newNode_34 : decode cX13_newNode 34 = .ok (.putfield 284, 3) := by decide +kernel
theorem dX13_newNode_37 : decode cX13_newNode 37 = .ok (.aload_n 0, 1) := by decide +kernel
theorem dX13_newNode_38 : decode cX13_newNode 38 = .ok (.getfield 23, 3) := by decide +kernel
theorem dX13_newNode_41 : decode cX13_newNode 41 = .ok (.iload_n 3, 1) := by decide +kernel
theorem dX13_newNode_42 : decode cX13_newNode 42 = .ok (.iload_n 1, 1) := by decide +kernel
theorem dX13_newNode_43 : decode cX13_newNode 43 = .ok (.iastore, 1) := by decide +kernel
theorem dX13_newNode_44 : decode cX13_newNode 44 = .ok (.aload_n 0, 1) := by decide +kernel
theorem dX13_newNode_45 : decode cX13_newNode 45 = .ok (.getfield 36, 3) := by decide +kernel
theorem dX13_newNode_48 : decode cX13_newNode 48 = .ok (.iload_n 3, 1) := by decide +kernel
theorem dX13_newNode_49 : decode cX13_newNode 49 = .ok (.iload_n 2, 1) := by decide +kernel
theorem dX13_newNode_50 : decode cX13_newNode 50 = .ok (.iastore, 1) := by decide +kernel
theorem dX13_newNode_51 : decode cX13_newNode 51 = .ok (.aload_n 0, 1) := by decide +kernel
theorem dX13_newNode_52 : decode cX13_newNode 52 = .ok (.getfield 27, 3) := by decide +kernel
theorem dX13_newNode_55 : decode cX13_newNode 55 = .ok (.iload_n 3, 1) := by decide +kernel
theorem dX13_newNode_56 : decode cX13_newNode 56 = .ok (.iconst (-1), 1) := by decide +kernel
theorem dX13_newNode_57 : decode cX13_newNode 57 = .ok (.iastore, 1) := by decide +kernel
theorem dX13_newNode_58 : decode cX13_newNode 58 = .ok (.aload_n 0, 1) := by decide +kernel
theorem dX13_newNode_59 : decode cX13_newNode 59 = .ok (.getfield 30, 3) := by decide +kernel
theorem dX13_newNode_62 : decode cX13_newNode 62 = .ok (.iload_n 3, 1) := by decide +kernel
theorem dX13_newNode_63 : decode cX13_newNode 63 = .ok (.iconst (-1), 1) := by decide +kernel
theorem dX13_newNode_64 : decode cX13_newNode 64 = .ok (.iastore, 1) := by decide +kernel
theorem dX13_newNode_65 : decode cX13_newNode 65 = .ok (.aload_n 0, 1) := by decide +kernel
theorem dX13_newNode_66 : decode cX13_newNode 66 = .ok (.getfield 33, 3) := by decide +kernel
theorem dX13_newNode_69 : decode cX13_newNode 69 = .ok (.iload_n 3, 1) := by decide +kernel
theorem dX13_newNode_70 : decode cX13_newNode 70 = .ok (.iconst (-1), 1) := by decide +kernel
theorem dX13_newNode_71 : decode cX13_newNode 71 = .ok (.iastore, 1) := by decide +kernel
theorem dX13_newNode_72 : decode cX13_newNode 72 = .ok (.aload_n 0, 1) := by decide +kernel
theorem dX13_newNode_73 : decode cX13_newNode 73 = .ok (.getfield 39, 3) := by decide +kernel
theorem dX13_newNode_76 : decode cX13_newNode 76 = .ok (.iload_n 3, 1) := by decide +kernel
theorem dX13_newNode_77 : decode cX13_newNode 77 = .ok (.iconst (-1), 1) := by decide +kernel
theorem dX13_newNode_78 : decode cX13_newNode 78 = .ok (.iastore, 1) := by decide +kernel
theorem dX13_newNode_79 : decode cX13_newNode 79 = .ok (.iload_n 3, 1) := by decide +kernel
theorem dX13_newNode_80 : decode cX13_newNode 80 = .ok (.ireturn, 1) := by decide +kernel
theorem dX13_isHere_0 : decode cX13_isHere 0 = .ok (.iload_n 3, 1) := by decide +kernel
theorem dX13_isHere_1 : decode cX13_isHere 1 = .ok (.aload_n 0, 1) := by decide +kernel
theorem dX13_isHere_2 : decode cX13_isHere 2 = .ok (.getfield 220, 3) := by decide +kernel
theorem dX13_isHere_5 : decode cX13_isHere 5 = .ok (.if_icmp .ne 7, 3) := by decide +kernel
theorem dX13_isHere_8 : decode cX13_isHere 8 = .ok (.iconst 1, 1) := by decide +kernel
theorem dX13_isHere_9 : decode cX13_isHere 9 = .ok (.goto 4, 3) := by decide +kernel
theorem dX13_isHere_12 : decode cX13_isHere 12 = .ok (.iconst 0, 1) := by decide +kernel
theorem dX13_isHere_13 : decode cX13_isHere 13 = .ok (.istore 4, 2) := by decide +kernel
theorem dX13_isHere_15 : decode cX13_isHere 15 = .ok (.iconst 0, 1) := by decide +kernel
theorem dX13_isHere_16 : decode cX13_isHere 16 = .ok (.istore 5, 2) := by decide +kernel
theorem dX13_isHere_18 : decode cX13_isHere 18 = .ok (.iload 5, 2) := by decide +kernel
theorem dX13_isHere_20 : decode cX13_isHere 20 = .ok (.iload_n 3, 1) := by decide +kernel
theorem dX13_isHere_21 : decode cX13_isHere 21 = .ok (.if_icmp .ge 42, 3) := by decide +kernel
theorem dX13_isHere_24 : decode cX13_isHere 24 = .ok (.iload 4, 2) := by decide +kernel
theorem dX13_isHere_26 : decode cX13_isHere 26 = .ok (.ifCond .eq 37, 3) := by decide +kernel
theorem dX13_isHere_29 : decode cX13_isHere 29 = .ok (.aload_n 1, 1) := by decide +kernel
theorem dX13_isHere_30 : decode cX13_isHere 30 = .ok (.iload_n 2, 1) := by decide +kernel
theorem dX13_isHere_31 : decode cX13_isHere 31 = .ok (.iload 5, 2) := by decide +kernel
theorem dX13_isHere_33 : decode cX13_isHere 33 = .ok (.iadd, 1) := by decide +kernel
theorem dX13_isHere_34 : decode cX13_isHere 34 = .ok (.baload, 1) := by decide +kernel
theorem dX13_isHere_35 : decode cX13_isHere 35 = .ok (.aload_n 0, 1) := by decide +kernel
theorem dX13_isHere_36 : decode cX13_isHere 36 = .ok (.getfield 7, 3) := by decide +kernel
theorem dX13_isHere_39 : decode cX13_isHere 39 = .ok (.aload_n 0, 1) := by decide +kernel
theorem dX13_isHere_40 : decode cX13_isHere 40 = .ok (.getfield 217, 3) := by decide +kernel
theorem dX13_isHere_43 : decode cX13_isHere 43 = .ok (.iload 5, 2) := by decide +kernel
theorem dX13_isHere_45 : decode cX13_isHere 45 = .ok (.iadd, 1) := by decide +kernel
theorem dX13_isHere_46 : decode cX13_isHere 46 = .ok (.baload, 1) := by decide +kernel
theorem dX13_isHere_47 : decode cX13_isHere 47 = .ok (.if_icmp .ne 7, 3) := by decide +kernel
theorem dX13_isHere_50 : decode cX13_isHere 50 = .ok (.iconst 1, 1) := by decide +kernel
theorem dX13_isHere_51 : decode cX13_isHere 51 = .ok (.goto 4, 3) := by decide +kernel
theorem dX13_isHere_54 : decode cX13_isHere 54 = .ok (.iconst 0, 1) := by decide +kernel
theorem dX13_isHere_55 : decode cX13_isHere 55 = .ok (.istore 4, 2) := by decide +kernel
theorem dX13_isHere_57 : decode cX13_isHere 57 = .ok (.iinc 5 1, 3) := by decide +kernel
theorem dX13_isHere_60 : decode cX13_isHere 60 = .ok (.goto (-42), 3) := by decide +kernel
theorem dX13_isHere_63 : decode cX13_isHere 63 = .ok (.iload 4, 2) := by decide +kernel
theorem dX13_isHere_65 : decode cX13_isHere 65 = .ok (.ireturn, 1) := by decide +kernel
theorem dX13_nameHere_0 : decode cX13_nameHere 0 = .ok (.bipush 13, 2) := by decide +kernel
theorem dX13_nameHere_2 : decode cX13_nameHere 2 = .ok (.aload_n 0, 1) := by decide +kernel
theorem dX13_nameHere_3 : decode cX13_nameHere 3 = .ok (.getfield 287, 3) := by decide +kernel
theorem dX13_nameHere_6 : decode cX13_nameHere 6 = .ok (.iadd, 1) := by decide +kernel
theorem dX13_nameHere_7 : decode cX13_nameHere 7 = .ok (.istore_n 1, 1) := by decide +kernel
theorem dX13_nameHere_8 : decode cX13_nameHere 8 = .ok (.iconst 0, 1) := by decide +kernel
theorem dX13_nameHere_9 : decode cX13_nameHere 9 = .ok (.istore_n 2, 1) := by decide +kernel
theorem dX13_nameHere_10 : decode cX13_nameHere 10 = .ok (.iload_n 2, 1) := by decide +kernel
theorem dX13_nameHere_11 : decode cX13_nameHere 11 = .ok (.aload_n 0, 1) := by decide +kernel
theorem dX13_nameHere_12 : decode cX13_nameHere 12 = .ok (.getfield 52, 3) := by decide +kernel
theorem dX13_nameHere_15 : decode cX13_nameHere 15 = .ok (.iload_n 1, 1) := by decide +kernel
theorem dX13_nameHere_16 : decode cX13_nameHere 16 = .ok (.iaload, 1) := by decide +kernel
theorem dX13_nameHere_17 : decode cX13_nameHere 17 = .ok (.if_icmp .ge 42, 3) := by decide +kernel
theorem dX13_nameHere_20 : decode cX13_nameHere 20 = .ok (.aload_n 0, 1) := by decide +kernel
theorem dX13_nameHere_21 : decode cX13_nameHere 21 = .ok (.aload_n 0, 1) := by decide +kernel
theorem dX13_nameHere_22 : decode cX13_nameHere 22 = .ok (.getfield 46, 3) := by decide +kernel
theorem dX13_nameHere_25 : decode cX13_nameHere 25 = .ok (.bipush 10, 2) := by decide +kernel
theorem dX13_nameHere_27 : decode cX13_nameHere 27 = .ok (.bipush 20, 2) := by decide +kernel
theorem dX13_nameHere_29 : decode cX13_nameHere 29 = .ok (.iload_n 1, 1) := by decide +kernel
theorem dX13_nameHere_30 : decode cX13_nameHere 30 = .ok (.imul, 1) := by decide +kernel
theorem dX13_nameHere_31 : decode cX13_nameHere 31 = .ok (.iload_n 2, 1) := by decide +kernel
theorem dX13_nameHere_32 : decode cX13_nameHere 32 = .ok (.iadd, 1) := by decide +kernel
theorem dX13_nameHere_33 : decode cX13_nameHere 33 = .ok (.imul, 1) := by decide +kernel
theorem dX13_nameHere_34 : decode cX13_nameHere 34 = .ok (.aload_n 0, 1) := by decide +kernel
theorem dX13_nameHere_35 : decode cX13_nameHere 35 = .ok (.getfield 49, 3) := by decide +kernel
theorem dX13_nameHere_38 : decode cX13_nameHere 38 = .ok (.bipush 20, 2) := by decide +kernel
theorem dX13_nameHere_40 : decode cX13_nameHere 40 = .ok (.iload_n 1, 1) := by decide +kernel
theorem dX13_nameHere_41 : decode cX13_nameHere 41 = .ok (.imul, 1) := by decide +kernel
theorem dX13_nameHere_42 : decode cX13_nameHere 42 = .ok (.iload_n 2, 1) := by decide +kernel
theorem dX13_nameHere_43 : decode cX13_nameHere 43 = .ok (.iadd, 1) := by decide +kernel
theorem dX13_nameHere_44 : decode cX13_nameHere 44 = .ok (.iaload, 1) := by decide +kernel
theorem dX13_nameHere_45 : decode cX13_nameHere 45 = .ok (.invokevirtual 290, 3) := by decide +kernel
theorem dX13_nameHere_48 : decode cX13_nameHere 48 = .ok (.ifCond .eq 5, 3) := by decide +kernel
theorem dX13_nameHere_51 : decode cX13_nameHere 51 = .ok (.iload_n 2, 1) := by decide +kernel
theorem dX13_nameHere_52 : decode cX13_nameHere 52 = .ok (.ireturn, 1) := by decide +kernel
theorem dX13_nameHere_53 : decode cX13_nameHere 53 = .ok (.iinc 2 1, 3) := by decide +kernel
theorem dX13_nameHere_56 : decode cX13_nameHere 56 = .ok (.goto (-46), 3) := by decide +kernel
theorem dX13_nameHere_59 : decode cX13_nameHere 59 = .ok (.iconst (-1), 1) := by decide +kernel
theorem dX13_nameHere_60 : decode cX13_nameHere 60 = .ok (.ireturn, 1) := by decide +kernel
theorem dX13_macroHere_0 : decode cX13_macroHere 0 = .ok (.iconst 0, 1) := by decide +kernel
theorem dX13_macroHere_1 : decode cX13_macroHere 1 = .ok (.istore_n 1, 1) := by decide +kernel
theorem dX13_macroHere_2 : decode cX13_macroHere 2 = .ok (.iload_n 1, 1) := by decide +kernel
theorem dX13_macroHere_3 : decode cX13_macroHere 3 = .ok (.aload_n 0, 1) := by decide +kernel
theorem dX13_macroHere_4 : decode cX13_macroHere 4 = .ok (.getfield 294, 3) := by decide +kernel
theorem dX13_macroHere_7 : decode cX13_macroHere 7 = .ok (.if_icmp .ge 38, 3) := by decide +kernel
theorem dX13_macroHere_10 : decode cX13_macroHere 10 = .ok (.aload_n 0, 1) := by decide +kernel
theorem dX13_macroHere_11 : decode cX13_macroHere 11 = .ok (.aload_n 0, 1) := by decide +kernel
theorem dX13_macroHere_12 : decode cX13_macroHere 12 = .ok (.getfield 61, 3) := by decide +kernel
theorem dX13_macroHere_15 : decode cX13_macroHere 15 = .ok (.bipush 10, 2) := by decide +kernel
theorem dX13_macroHere_17 : decode cX13_macroHere 17 = .ok (.bipush 13, 2) := by decide +kernel
theorem dX13_macroHere_19 : decode cX13_macroHere 19 = .ok (.iload_n 1, 1) := by decide +kernel
theorem dX13_macroHere_20 : decode cX13_macroHere 20 = .ok (.iadd, 1) := by decide +kernel
theorem dX13_macroHere_21 : decode cX13_macroHere 21 = .ok (.imul, 1) := by decide +kernel
theorem dX13_macroHere_22 : decode cX13_macroHere 22 = .ok (.aload_n 0, 1) := by decide +kernel
theorem dX13_macroHere_23 : decode cX13_macroHere 23 = .ok (.getfield 64, 3) := by decide +kernel
theorem dX13_macroHere_26 : decode cX13_macroHere 26 = .ok (.bipush 13, 2) := by decide +kernel
theorem dX13_macroHere_28 : decode cX13_macroHere 28 = .ok (.iload_n 1, 1) := by decide +kernel
theorem dX13_macroHere_29 : decode cX13_macroHere 29 = .ok (.iadd, 1) := by decide +kernel
theorem dX13_macroHere_30 : decode cX13_macroHere 30 = .ok (.iaload, 1) := by decide +kernel
theorem dX13_macroHere_31 : decode cX13_macroHere 31 = .ok (.invokevirtual 290, 3) := by decide +kernel
theorem dX13_macroHere_34 : decode cX13_macroHere 34 = .ok (.ifCond .eq 5, 3) := by decide +kernel
theorem dX13_macroHere_37 : decode cX13_macroHere 37 = .ok (.iload_n 1, 1) := by decide +kernel
theorem dX13_macroHere_38 : decode cX13_macroHere 38 = .ok (.ireturn, 1) := by decide +kernel
theorem dX13_macroHere_39 : decode cX13_macroHere 39 = .ok (.iinc 1 1, 3) := by decide +kernel
theorem dX13_macroHere_42 : decode cX13_macroHere 42 = .ok (.goto (-40), 3) := by decide +kernel
theorem dX13_macroHere_45 : decode cX13_macroHere 45 = .ok (.iconst (-1), 1) := by decide +kernel
theorem dX13_macroHere_46 : decode cX13_macroHere 46 = .ok (.ireturn, 1) := by decide +kernel
theorem dX13_newName_0 : decode cX13_newName 0 = .ok (.bipush 13, 2) := by decide +kernel
theorem dX13_newName_2 : decode cX13_newName 2 = .ok (.aload_n 0, 1) := by decide +kernel
theorem dX13_newName_3 : decode cX13_newName 3 = .ok (.getfield 287, 3) := by decide +kernel
theorem dX13_newName_6 : decode cX13_newName 6 = .ok (.iadd, 1) := by decide +kernel
theorem dX13_newName_7 : decode cX13_newName 7 = .ok (.istore_n 3, 1) := by decide +kernel
theorem dX13_newName_8 : decode cX13_newName 8 = .ok (.bipush 20, 2) := by decide +kernel
theorem dX13_newName_10 : decode cX13_newName 10 = .ok (.iload_n 3, 1) := by decide +kernel
theorem dX13_newName_11 : decode cX13_newName 11 = .ok (.imul, 1) := by decide +kernel
theorem dX13_newName_12 : decode cX13_newName 12 = .ok (.aload_n 0, 1) := by decide +kernel
theorem dX13_newName_13 : decode cX13_newName 13 = .ok (.getfield 52, 3) := by decide +kernel
theorem dX13_newName_16 : decode cX13_newName 16 = .ok (.iload_n 3, 1) := by decide +kernel
theorem dX13_newName_17 : decode cX13_newName 17 = .ok (.iaload, 1) := by decide +kernel
theorem dX13_newName_18 : decode cX13_newName 18 = .ok (.iadd, 1) := by decide +kernel
theorem dX13_newName_19 : decode cX13_newName 19 = .ok (.istore 4, 2) := by decide +kernel
theorem dX13_newName_21 : decode cX13_newName 21 = .ok (.iconst 0, 1) := by decide +kernel
theorem dX13_newName_22 : decode cX13_newName 22 = .ok (.istore 5, 2) := by decide +kernel
theorem dX13_newName_24 : decode cX13_newName 24 = .ok (.iload 5, 2) := by decide +kernel
theorem dX13_newName_26 : decode cX13_newName 26 = .ok (.iload_n 2, 1) := by decide +kernel
theorem dX13_newName_27 : decode cX13_newName 27 = .ok (.if_icmp .ge 31, 3) := by decide +kernel
theorem dX13_newName_30 : decode cX13_newName 30 = .ok (.aload_n 0, 1) := by decide +kernel
theorem dX13_newName_31 : decode cX13_newName 31 = .ok (.getfield 46, 3) := by decide +kernel
theorem dX13_newName_34 : decode cX13_newName 34 = .ok (.bipush 10, 2) := by decide +kernel
theorem dX13_newName_36 : decode cX13_newName 36 = .ok (.iload 4, 2) := by decide +kernel
theorem dX13_newName_38 : decode cX13_newName 38 = .ok (.imul, 1) := by decide +kernel
theorem dX13_newName_39 : decode cX13_newName 39 = .ok (.iload 5, 2) := by decide +kernel
theorem dX13_newName_41 : decode cX13_newName 41 = .ok (.iadd, 1) := by decide +kernel
theorem dX13_newName_42 : decode cX13_newName 42 = .ok (.aload_n 0, 1) := by decide +kernel
theorem dX13_newName_43 : decode cX13_newName 43 = .ok (.getfield 7, 3) := by decide +kernel
theorem dX13_newName_46 : decode cX13_newName 46 = .ok (.iload_n 1, 1) := by decide +kernel
theorem dX13_newName_47 : decode cX13_newName 47 = .ok (.iload 5, 2) := by decide +kernel
theorem dX13_newName_49 : decode cX13_newName 49 = .ok (.iadd, 1) := by decide +kernel
theorem dX13_newName_50 : decode cX13_newName 50 = .ok (.baload, 1) := by decide +kernel
theorem dX13_newName_51 : decode cX13_newName 51 = .ok (.bastore, 1) := by decide +kernel
theorem dX13_newName_52 : decode cX13_newName 52 = .ok (.iinc 5 1, 3) := by decide +kernel
theorem dX13_newName_55 : decode cX13_newName 55 = .ok (.goto (-31), 3) := by decide +kernel
theorem dX13_newName_58 : decode cX13_newName 58 = .ok (.aload_n 0, 1) := by decide +kernel
theorem dX13_newName_59 : decode cX13_newName 59 = .ok (.getfield 49, 3) := by decide +kernel
theorem dX13_newName_62 : decode cX13_newName 62 = .ok (.iload 4, 2) := by decide +kernel
theorem dX13_newName_64 : decode cX13_newName 64 = .ok (.iload_n 2, 1) := by decide +kernel
theorem dX13_newName_65 : decode cX13_newName 65 = .ok (.iastore, 1) := by decide +kernel
theorem dX13_newName_66 : decode cX13_newName 66 = .ok (.aload_n 0, 1) := by decide +kernel
theorem dX13_newName_67 : decode cX13_newName 67 = .ok (.getfield 52, 3) := by decide +kernel
theorem dX13_newName_70 : decode cX13_newName 70 = .ok (.iload_n 3, 1) := by decide +kernel
theorem dX13_newName_71 : decode cX13_newName 71 = .ok (.dup2, 1) := by decide +kernel
theorem dX13_newName_72 : decode cX13_newName 72 = .ok (.iaload, 1) := by decide +kernel
theorem dX13_newName_73 : decode cX13_newName 73 = .ok (.iconst 1, 1) := by decide +kernel
theorem dX13_newName_74 : decode cX13_newName 74 = .ok (.iadd, 1) := by decide +kernel
theorem dX13_newName_75 : decode cX13_newName 75 = .ok (.iastore, 1) := by decide +kernel
theorem dX13_newName_76 : decode cX13_newName 76 = .ok (.return_, 1) := by decide +kernel
theorem dX13_read_0 : decode cX13_read 0 = .ok (.aload_n 0, 1) := by decide +kernel
theorem dX13_read_1 : decode cX13_read 1 = .ok (.iconst 0, 1) := by decide +kernel
theorem dX13_read_2 : decode cX13_read 2 = .ok (.putfield 193, 3) := by decide +kernel
theorem dX13_read_5 : decode cX13_read 5 = .ok (.aload_n 0, 1) := by decide +kernel
theorem dX13_read_6 : decode cX13_read 6 = .ok (.iconst 0, 1) := by decide +kernel
theorem dX13_read_7 : decode cX13_read 7 = .ok (.putfield 255, 3) := by decide +kernel
theorem dX13_read_10 : decode cX13_read 10 = .ok (.aload_n 0, 1) := by decide +kernel
theorem dX13_read_11 : decode cX13_read 11 = .ok (.iconst 0, 1) := by decide +kernel
theorem dX13_read_12 : decode cX13_read 12 = .ok (.putfield 284, 3) := by decide +kernel
theorem dX13_read_15 : decode cX13_read 15 = .ok (.aload_n 0, 1) := by decide +kernel
theorem dX13_read_16 : decode cX13_read 16 = .ok (.iconst 0, 1) := by decide +kernel
theorem dX13_read_17 : decode cX13_read 17 = .ok (.putfield 297, 3) := by decide +kernel
theorem dX13_read_20 : decode cX13_read 20 = .ok (.aload_n 0, 1) := by decide +kernel
theorem dX13_read_21 : decode cX13_read 21 = .ok (.iconst 0, 1) := by decide +kernel
theorem dX13_read_22 : decode cX13_read 22 = .ok (.putfield 294, 3) := by decide +kernel
theorem dX13_read_25 : decode cX13_read 25 = .ok (.aload_n 0, 1) := by decide +kernel
theorem dX13_read_26 : decode cX13_read 26 = .ok (.iconst 0, 1) := by decide +kernel
theorem dX13_read_27 : decode cX13_read 27 = .ok (.putfield 278, 3) := by decide +kernel
theorem dX13_read_30 : decode cX13_read 30 = .ok (.bipush 13, 2) := by decide +kernel
theorem dX13_read_32 : decode cX13_read 32 = .ok (.istore_n 1, 1) := by decide +kernel
theorem dX13_read_33 : decode cX13_read 33 = .ok (.iload_n 1, 1) := by decide +kernel
theorem dX13_read_34 : decode cX13_read 34 = .ok (.bipush 26, 2) := by decide +kernel
theorem dX13_read_36 : decode cX13_read 36 = .ok (.if_icmp .ge 30, 3) := by decide +kernel
theorem dX13_read_39 : decode cX13_read 39 = .ok (.aload_n 0, 1) := by decide +kernel
theorem dX13_read_40 : decode cX13_read 40 = .ok (.getfield 52, 3) := by decide +kernel
theorem dX13_read_43 : decode cX13_read 43 = .ok (.iload_n 1, 1) := by decide +kernel
theorem dX13_read_44 : decode cX13_read 44 = .ok (.iconst 0, 1) := by decide +kernel
theorem dX13_read_45 : decode cX13_read 45 = .ok (.iastore, 1) := by decide +kernel
theorem dX13_read_46 : decode cX13_read 46 = .ok (.aload_n 0, 1) := by decide +kernel
theorem dX13_read_47 : decode cX13_read 47 = .ok (.getfield 55, 3) := by decide +kernel
theorem dX13_read_50 : decode cX13_read 50 = .ok (.iload_n 1, 1) := by decide +kernel
theorem dX13_read_51 : decode cX13_read 51 = .ok (.iconst 0, 1) := by decide +kernel
theorem dX13_read_52 : decode cX13_read 52 = .ok (.iastore, 1) := by decide +kernel
theorem dX13_read_53 : decode cX13_read 53 = .ok (.aload_n 0, 1) := by decide +kernel
theorem dX13_read_54 : decode cX13_read 54 = .ok (.getfield 58, 3) := by decide +kernel
theorem dX13_read_57 : decode cX13_read 57 = .ok (.iload_n 1, 1) := by decide +kernel
theorem dX13_read_58 : decode cX13_read 58 = .ok (.iconst (-1), 1) := by decide +kernel
theorem dX13_read_59 : decode cX13_read 59 = .ok (.iastore, 1) := by decide +kernel
theorem dX13_read_60 : decode cX13_read 60 = .ok (.iinc 1 1, 3) := by decide +kernel
theorem dX13_read_63 : decode cX13_read 63 = .ok (.goto (-30), 3) := by decide +kernel
theorem dX13_read_66 : decode cX13_read 66 = .ok (.aload_n 0, 1) := by decide +kernel
theorem dX13_read_67 : decode cX13_read 67 = .ok (.iconst 0, 1) := by decide +kernel
theorem dX13_read_68 : decode cX13_read 68 = .ok (.invokevirtual 248, 3) := by decide +kernel
theorem dX13_read_71 : decode cX13_read 71 = .ok (.aload_n 0, 1) := by decide +kernel
theorem dX13_read_72 : decode cX13_read 72 = .ok (.invokevirtual 265, 3) := by decide +kernel
theorem dX13_read_75 : decode cX13_read 75 = .ok (.ifCond .eq 29, 3) := by decide +kernel
theorem dX13_read_78 : decode cX13_read 78 = .ok (.aload_n 0, 1) := by decide +kernel
theorem dX13_read_79 : decode cX13_read 79 = .ok (.getfield 223, 3) := by decide +kernel
theorem dX13_read_82 : decode cX13_read 82 = .ok (.iconst 1, 1) := by decide +kernel
theorem dX13_read_83 : decode cX13_read 83 = .ok (.if_icmp .ne 21, 3) := by decide +kernel
theorem dX13_read_86 : decode cX13_read 86 = .ok (.aload_n 0, 1) := by decide +kernel
theorem dX13_read_87 : decode cX13_read 87 = .ok (.aload_n 0, 1) := by decide +kernel
theorem dX13_read_88 : decode cX13_read 88 = .ok (.getfield 13, 3) := by decide +kernel
theorem dX13_read_91 : decode cX13_read 91 = .ok (.invokevirtual 251, 3) := by decide +kernel
theorem dX13_read_94 : decode cX13_read 94 = .ok (.ifCond .ne 10, 3) := by decide +kernel
theorem dX13_read_97 : decode cX13_read 97 = .ok (.aload_n 0, 1) := by decide +kernel
theorem dX13_read_98 : decode cX13_read 98 = .ok (.invokevirtual 300, 3) := by decide +kernel
theorem dX13_read_101 : decode cX13_read 101 = .ok (.goto (-30), 3) := by decide +kernel
theorem dX13_read_104 : decode cX13_read 104 = .ok (.aload_n 0, 1) := by decide +kernel
theorem dX13_read_105 : decode cX13_read 105 = .ok (.bipush 12, 2) := by decide +kernel
theorem dX13_read_107 : decode cX13_read 107 = .ok (.putfield 287, 3) := by decide +kernel
theorem dX13_read_110 : decode cX13_read 110 = .ok (.aload_n 0, 1) := by decide +kernel
theorem dX13_read_111 : decode cX13_read 111 = .ok (.invokevirtual 265, 3) := by decide +kernel
theorem dX13_read_114 : decode cX13_read 114 = .ok (.ifCond .eq 11, 3) := by decide +kernel
theorem dX13_read_117 : decode cX13_read 117 = .ok (.aload_n 0, 1) := by decide +kernel
theorem dX13_read_118 : decode cX13_read 118 = .ok (.iconst 0, 1) := by decide +kernel
theorem dX13_read_119 : decode cX13_read 119 = .ok (.invokevirtual 303, 3) := by decide +kernel
theorem dX13_read_122 : decode cX13_read 122 = .ok (.goto 4, 3) := by decide +kernel
theorem dX13_read_125 : decode cX13_read 125 = .ok (.iconst (-1), 1) := by decide +kernel
theorem dX13_read_126 : decode cX13_read 126 = .ok (.istore_n 1, 1) := by decide +kernel
theorem dX13_read_127 : decode cX13_read 127 = .ok (.aload_n 0, 1) := by decide +kernel
theorem dX13_read_128 : decode cX13_read 128 = .ok (.iconst 0, 1) := by decide +kernel
theorem dX13_read_129 : decode cX13_read 129 = .ok (.putfield 196, 3) := by decide +kernel
theorem dX13_read_132 : decode cX13_read 132 = .ok (.aload_n 0, 1) := by decide +kernel
theorem dX13_read_133 : decode cX13_read 133 = .ok (.invokevirtual 265, 3) := by decide +kernel
theorem dX13_read_136 : decode cX13_read 136 = .ok (.ifCond .ne 17, 3) := by decide +kernel
theorem dX13_read_139 : decode cX13_read 139 = .ok (.aload_n 0, 1) := by decide +kernel
theorem dX13_read_140 : decode cX13_read 140 = .ok (.aload_n 0, 1) := by decide +kernel
theorem dX13_read_141 : decode cX13_read 141 = .ok (.getfield 258, 3) := by decide +kernel
theorem dX13_read_144 : decode cX13_read 144 = .ok (.putfield 67, 3) := by decide +kernel
theorem dX13_read_147 : decode cX13_read 147 = .ok (.aload_n 0, 1) := by decide +kernel
theorem dX13_read_148 : decode cX13_read 148 = .ok (.getfield 255, 3) := by decide +kernel
theorem dX13_read_151 : decode cX13_read 151 = .ok (.ineg, 1) := by decide +kernel
theorem dX13_read_152 : decode cX13_read 152 = .ok (.ireturn, 1) := by decide +kernel
theorem dX13_read_153 : decode cX13_read 153 = .ok (.aload_n 0, 1) := by decide +kernel
theorem dX13_read_154 : decode cX13_read 154 = .ok (.iconst (-1), 1) := by decide +kernel
theorem dX13_read_155 : decode cX13_read 155 = .ok (.putfield 67, 3) := by decide +kernel
theorem dX13_read_158 : decode cX13_read 158 = .ok (.aload_n 0, 1) := by decide +kernel
theorem dX13_read_159 : decode cX13_read 159 = .ok (.iload_n 1, 1) := by decide +kernel
theorem dX13_read_160 : decode cX13_read 160 = .ok (.invokevirtual 306, 3) := by decide +kernel
theorem dX13_read_163 : decode cX13_read 163 = .ok (.aload_n 0, 1) := by decide +kernel
theorem dX13_read_164 : decode cX13_read 164 = .ok (.getfield 309, 3) := by decide +kernel
theorem dX13_read_167 : decode cX13_read 167 = .ok (.ireturn, 1) := by decide +kernel
theorem dX13_place_0 : decode cX13_place 0 = .ok (.aload_n 0, 1) := by decide +kernel
theorem dX13_place_1 : decode cX13_place 1 = .ok (.iconst 0, 1) := by decide +kernel
theorem dX13_place_2 : decode cX13_place 2 = .ok (.putfield 193, 3) := by decide +kernel
theorem dX13_place_5 : decode cX13_place 5 = .ok (.aload_n 0, 1) := by decide +kernel
theorem dX13_place_6 : decode cX13_place 6 = .ok (.getfield 67, 3) := by decide +kernel
theorem dX13_place_9 : decode cX13_place 9 = .ok (.ireturn, 1) := by decide +kernel
theorem dX13_moved_0 : decode cX13_moved 0 = .ok (.iload_n 0, 1) := by decide +kernel
theorem dX13_moved_1 : decode cX13_moved 1 = .ok (.sipush 300, 3) := by decide +kernel
theorem dX13_moved_4 : decode cX13_moved 4 = .ok (.if_icmp .ge 7, 3) := by decide +kernel
theorem dX13_moved_7 : decode cX13_moved 7 = .ok (.iload_n 0, 1) := by decide +kernel
theorem dX13_moved_8 : decode cX13_moved 8 = .ok (.goto 8, 3) := by decide +kernel
theorem dX13_moved_11 : decode cX13_moved 11 = .ok (.iload_n 0, 1) := by decide +kernel
theorem dX13_moved_12 : decode cX13_moved 12 = .ok (.sipush 300, 3) := by decide +kernel
theorem dX13_moved_15 : decode cX13_moved 15 = .ok (.isub, 1) := by decide +kernel
theorem dX13_moved_16 : decode cX13_moved 16 = .ok (.ireturn, 1) := by decide +kernel
theorem dX13_become_0 : decode cX13_become 0 = .ok (.iconst 0, 1) := by decide +kernel
theorem dX13_become_1 : decode cX13_become 1 = .ok (.istore_n 2, 1) := by decide +kernel
theorem dX13_become_2 : decode cX13_become 2 = .ok (.iload_n 2, 1) := by decide +kernel
theorem dX13_become_3 : decode cX13_become 3 = .ok (.aload_n 0, 1) := by decide +kernel
theorem dX13_become_4 : decode cX13_become 4 = .ok (.getfield 284, 3) := by decide +kernel
theorem dX13_become_7 : decode cX13_become 7 = .ok (.if_icmp .ge 195, 3) := by decide +kernel
theorem dX13_become_10 : decode cX13_become 10 = .ok (.sipush 300, 3) := by decide +kernel
theorem dX13_become_13 : decode cX13_become 13 = .ok (.iload_n 2, 1) := by decide +kernel
theorem dX13_become_14 : decode cX13_become 14 = .ok (.iadd, 1) := by decide +kernel
theorem dX13_become_15 : decode cX13_become 15 = .ok (.istore_n 3, 1) := by decide +kernel
theorem dX13_become_16 : decode cX13_become 16 = .ok (.aload_n 0, 1) := by decide +kernel
theorem dX13_become_17 : decode cX13_become 17 = .ok (.getfield 23, 3) := by decide +kernel
theorem dX13_become_20 : decode cX13_become 20 = .ok (.iload_n 2, 1) := by decide +kernel
theorem dX13_become_21 : decode cX13_become 21 = .ok (.aload_n 0, 1) := by decide +kernel
theorem dX13_become_22 : decode cX13_become 22 = .ok (.getfield 23, 3) := by decide +kernel
theorem dX13_become_25 : decode cX13_become 25 = .ok (.iload_n 3, 1) := by decide +kernel
theorem dX13_become_26 : decode cX13_become 26 = .ok (.iaload, 1) := by decide +kernel
theorem dX13_become_27 : decode cX13_become 27 = .ok (.iastore, 1) := by decide +kernel
theorem dX13_become_28 : decode cX13_become 28 = .ok (.aload_n 0, 1) := by decide +kernel
theorem dX13_become_29 : decode cX13_become 29 = .ok (.getfield 23, 3) := by decide +kernel
theorem dX13_become_32 : decode cX13_become 32 = .ok (.iload_n 3, 1) := by decide +kernel
theorem dX13_become_33 : decode cX13_become 33 = .ok (.iaload, 1) := by decide +kernel
theorem dX13_become_34 : decode cX13_become 34 = .ok (.ifCond .eq 57, 3) := by decide +kernel
theorem dX13_become_37 : decode cX13_become 37 = .ok (.aload_n 0, 1) := by decide +kernel
theorem dX13_become_38 : decode cX13_become 38 = .ok (.getfield 23, 3) := by decide +kernel
theorem dX13_become_41 : decode cX13_become 41 = .ok (.iload_n 3, 1) := by decide +kernel
theorem dX13_become_42 : decode cX13_become 42 = .ok (.iaload, 1) := by decide +kernel
theorem dX13_become_43 : decode cX13_become 43 = .ok (.iconst 1, 1) := by decide +kernel
theorem dX13_become_44 : decode cX13_become 44 = .ok (.if_icmp .eq 47, 3) := by decide +kernel
theorem dX13_become_47 : decode cX13_become 47 = .ok (.aload_n 0, 1) := by decide +kernel
theorem dX13_become_48 : decode cX13_become 48 = .ok (.getfield 23, 3) := by decide +kernel
theorem dX13_become_51 : decode cX13_become 51 = .ok (.iload_n 3, 1) := by decide +kernel
theorem dX13_become_52 : decode cX13_become 52 = .ok (.iaload, 1) := by decide +kernel
theorem dX13_become_53 : decode cX13_become 53 = .ok (.bipush 8, 2) := by decide +kernel
theorem dX13_become_55 : decode cX13_become 55 = .ok (.if_icmp .eq 36, 3) := by decide +kernel
theorem dX13_become_58 : decode cX13_become 58 = .ok (.aload_n 0, 1) := by decide +kernel
theorem dX13_become_59 : decode cX13_become 59 = .ok (.getfield 23, 3) := by decide +kernel
theorem dX13_become_62 : decode cX13_become 62 = .ok (.iload_n 3, 1) := by decide +kernel
theorem dX13_become_63 : decode cX13_become 63 = .ok (.iaload, 1) := by decide +kernel
theorem dX13_become_64 : decode cX13_become 64 = .ok (.bipush 9, 2) := by decide +kernel
theorem dX13_become_66 : decode cX13_become 66 = .ok (.if_icmp .eq 25, 3) := by decide +kernel
theorem dX13_become_69 : decode cX13_become 69 = .ok (.aload_n 0, 1) := by decide +kernel
theorem dX13_become_70 : decode cX13_become 70 = .ok (.getfield 23, 3) := by decide +kernel
theorem dX13_become_73 : decode cX13_become 73 = .ok (.iload_n 3, 1) := by decide +kernel
theorem dX13_become_74 : decode cX13_become 74 = .ok (.iaload, 1) := by decide +kernel
theorem dX13_become_75 : decode cX13_become 75 = .ok (.bipush 10, 2) := by decide +kernel
theorem dX13_become_77 : decode cX13_become 77 = .ok (.if_icmp .eq 14, 3) := by decide +kernel
theorem dX13_become_80 : decode cX13_become 80 = .ok (.aload_n 0, 1) := by decide +kernel
theorem dX13_become_81 : decode cX13_become 81 = .ok (.getfield 23, 3) := by decide +kernel
theorem dX13_become_84 : decode cX13_become 84 = .ok (.iload_n 3, 1) := by decide +kernel
theorem dX13_become_85 : decode cX13_become 85 = .ok (.iaload, 1) := by decide +kernel
theorem dX13_become_86 : decode cX13_become 86 = .ok (.bipush 12, 2) := by decide +kernel
theorem dX13_become_88 : decode cX13_become 88 = .ok (.if_icmp .ne 7, 3) := by decide +kernel
theorem dX13_become_91 : decode cX13_become 91 = .ok (.iconst 1, 1) := by decide +kernel
theorem dX13_become_92 : decode cX13_become 92 = .ok (.goto 4, 3) := by decide +kernel
theorem dX13_become_95 : decode cX13_become 95 = .ok (.iconst 0, 1) := by decide +kernel
theorem dX13_become_96 : decode cX13_become 96 = .ok (.istore 4, 2) := by decide +kernel
theorem dX13_become_98 : decode cX13_become 98 = .ok (.aload_n 0, 1) := by decide +kernel
theorem dX13_become_99 : decode cX13_become 99 = .ok (.getfield 27, 3) := by decide +kernel
theorem dX13_become_102 : decode cX13_become 102 = .ok (.iload_n 2, 1) := by decide +kernel
theorem dX13_become_103 : decode cX13_become 103 = .ok (.iload 4, 2) := by decide +kernel
theorem dX13_become_105 : decode cX13_become 105 = .ok (.ifCond .eq 12, 3) := by decide +kernel
theorem dX13_become_108 : decode cX13_become 108 = .ok (.aload_n 0, 1) := by decide +kernel
theorem dX13_become_109 : decode cX13_become 109 = .ok (.getfield 27, 3) := by decide +kernel
theorem dX13_become_112 : decode cX13_become 112 = .ok (.iload_n 3, 1) := by decide +kernel
theorem dX13_become_113 : decode cX13_become 113 = .ok (.iaload, 1) := by decide +kernel
theorem dX13_become_114 : decode cX13_become 114 = .ok (.goto 12, 3) := by decide +kernel
theorem dX13_become_117 : decode cX13_become 117 = .ok (.aload_n 0, 1) := by decide +kernel
theorem dX13_become_118 : decode cX13_become 118 = .ok (.getfield 27, 3) := by decide +kernel
theorem dX13_become_121 : decode cX13_become 121 = .ok (.iload_n 3, 1) := by decide +kernel
theorem dX13_become_122 : decode cX13_become 122 = .ok (.iaload, 1) := by decide +kernel
theorem dX13_become_123 : decode cX13_become 123 = .ok (.invokestatic 312, 3) := by decide +kernel
theorem dX13_become_126 : decode cX13_become 126 = .ok (.iastore, 1) := by decide +kernel
theorem dX13_become_127 : decode cX13_become 127 = .ok (.aload_n 0, 1) := by decide +kernel
theorem dX13_become_128 : decode cX13_become 128 = .ok (.getfield 30, 3) := by decide +kernel
theorem dX13_become_131 : decode cX13_become 131 = .ok (.iload_n 2, 1) := by decide +kernel
theorem dX13_become_132 : decode cX13_become 132 = .ok (.aload_n 0, 1) := by decide +kernel
theorem dX13_become_133 : decode cX13_become 133 = .ok (.getfield 30, 3) := by decide +kernel
theorem dX13_become_136 : decode cX13_become 136 = .ok (.iload_n 3, 1) := by decide +kernel
theorem dX13_become_137 : decode cX13_become 137 = .ok (.iaload, 1) := by decide +kernel
theorem dX13_become_138 : decode cX13_become 138 = .ok (.invokestatic 312, 3) := by decide +kernel
theorem dX13_become_141 : decode cX13_become 141 = .ok (.iastore, 1) := by decide +kernel
theorem dX13_become_142 : decode cX13_become 142 = .ok (.aload_n 0, 1) := by decide +kernel
theorem dX13_become_143 : decode cX13_become 143 = .ok (.getfield 33, 3) := by decide +kernel
theorem dX13_become_146 : decode cX13_become 146 = .ok (.iload_n 2, 1) := by decide +kernel
theorem dX13_become_147 : decode cX13_become 147 = .ok (.aload_n 0, 1) := by decide +kernel
theorem dX13_become_148 : decode cX13_become 148 = .ok (.getfield 33, 3) := by decide +kernel
theorem dX13_become_151 : decode cX13_become 151 = .ok (.iload_n 3, 1) := by decide +kernel
theorem dX13_become_152 : decode cX13_become 152 = .ok (.iaload, 1) := by decide +kernel
theorem dX13_become_153 : decode cX13_become 153 = .ok (.invokestatic 312, 3) := by decide +kernel
theorem dX13_become_156 : decode cX13_become 156 = .ok (.iastore, 1) := by decide +kernel
theorem dX13_become_157 : decode cX13_become 157 = .ok (.aload_n 0, 1) := by decide +kernel
theorem dX13_become_158 : decode cX13_become 158 = .ok (.getfield 36, 3) := by decide +kernel
theorem dX13_become_161 : decode cX13_become 161 = .ok (.iload_n 2, 1) := by decide +kernel
theorem dX13_become_162 : decode cX13_become 162 = .ok (.aload_n 0, 1) := by decide +kernel
theorem dX13_become_163 : decode cX13_become 163 = .ok (.getfield 36, 3) := by decide +kernel
theorem dX13_become_166 : decode cX13_become 166 = .ok (.iload_n 3, 1) := by decide +kernel
theorem dX13_become_167 : decode cX13_become 167 = .ok (.iaload, 1) := by decide +kernel
theorem dX13_become_168 : decode cX13_become 168 = .ok (.iastore, 1) := by decide +kernel
theorem dX13_become_169 : decode cX13_become 169 = .ok (.aload_n 0, 1) := by decide +kernel
theorem dX13_become_170 : decode cX13_become 170 = .ok (.getfield 39, 3) := by decide +kernel
theorem dX13_become_173 : decode cX13_become 173 = .ok (.iload_n 2, 1) := by decide +kernel
theorem dX13_become_174 : decode cX13_become 174 = .ok (.aload_n 0, 1) := by decide +kernel
theorem dX13_become_175 : decode cX13_become 175 = .ok (.getfield 39, 3) := by decide +kernel
theorem dX13_become_178 : decode cX13_become 178 = .ok (.iload_n 3, 1) := by decide +kernel
theorem dX13_become_179 : decode cX13_become 179 = .ok (.iaload, 1) := by decide +kernel
theorem dX13_become_180 : decode cX13_become 180 = .ok (.invokestatic 312, 3) := by decide +kernel
theorem dX13_become_183 : decode cX13_become 183 = .ok (.iastore, 1) := by decide +kernel
theorem dX13_become_184 : decode cX13_become 184 = .ok (.aload_n 0, 1) := by decide +kernel
theorem dX13_become_185 : decode cX13_become 185 = .ok (.getfield 42, 3) := by decide +kernel
theorem dX13_become_188 : decode cX13_become 188 = .ok (.iload_n 2, 1) := by decide +kernel
theorem dX13_become_189 : decode cX13_become 189 = .ok (.aload_n 0, 1) := by decide +kernel
theorem dX13_become_190 : decode cX13_become 190 = .ok (.getfield 42, 3) := by decide +kernel
theorem dX13_become_193 : decode cX13_become 193 = .ok (.iload_n 3, 1) := by decide +kernel
theorem dX13_become_194 : decode cX13_become 194 = .ok (.laload, 1) := by decide +kernel
theorem dX13_become_195 : decode cX13_become 195 = .ok (.lastore, 1) := by decide +kernel
theorem dX13_become_196 : decode cX13_become 196 = .ok (.iinc 2 1, 3) := by decide +kernel
theorem dX13_become_199 : decode cX13_become 199 = .ok (.goto (-197), 3) := by decide +kernel
theorem dX13_become_202 : decode cX13_become 202 = .ok (.aload_n 0, 1) := by decide +kernel
theorem dX13_become_203 : decode cX13_become 203 = .ok (.aload_n 0, 1) := by decide +kernel
theorem dX13_become_204 : decode cX13_become 204 = .ok (.getfield 284, 3) := by decide +kernel
theorem dX13_become_207 : decode cX13_become 207 = .ok (.putfield 309, 3) := by decide +kernel
theorem dX13_become_210 : decode cX13_become 210 = .ok (.aload_n 0, 1) := by decide +kernel
theorem dX13_become_211 : decode cX13_become 211 = .ok (.aload_n 0, 1) := by decide +kernel
theorem dX13_become_212 : decode cX13_become 212 = .ok (.getfield 297, 3) := by decide +kernel
theorem dX13_become_215 : decode cX13_become 215 = .ok (.putfield 316, 3) := by decide +kernel
theorem dX13_become_218 : decode cX13_become 218 = .ok (.aload_n 0, 1) := by decide +kernel
theorem dX13_become_219 : decode cX13_become 219 = .ok (.aload_n 0, 1) := by decide +kernel
theorem dX13_become_220 : decode cX13_become 220 = .ok (.getfield 294, 3) := by decide +kernel
theorem dX13_become_223 : decode cX13_become 223 = .ok (.putfield 319, 3) := by decide +kernel
theorem dX13_become_226 : decode cX13_become 226 = .ok (.aload_n 0, 1) := by decide +kernel
theorem dX13_become_227 : decode cX13_become 227 = .ok (.iload_n 1, 1) := by decide +kernel
theorem dX13_become_228 : decode cX13_become 228 = .ok (.invokestatic 312, 3) := by decide +kernel
theorem dX13_become_231 : decode cX13_become 231 = .ok (.putfield 322, 3) := by decide +kernel
theorem dX13_become_234 : decode cX13_become 234 = .ok (.iconst 0, 1) := by decide +kernel
theorem dX13_become_235 : decode cX13_become 235 = .ok (.istore_n 2, 1) := by decide +kernel
theorem dX13_become_236 : decode cX13_become 236 = .ok (.iload_n 2, 1) := by decide +kernel
theorem dX13_become_237 : decode cX13_become 237 = .ok (.bipush 13, 2) := by decide +kernel
theorem dX13_become_239 : decode cX13_become 239 = .ok (.if_icmp .ge 72, 3) := by decide +kernel
theorem dX13_become_242 : decode cX13_become 242 = .ok (.aload_n 0, 1) := by decide +kernel
theorem dX13_become_243 : decode cX13_become 243 = .ok (.getfield 52, 3) := by decide +kernel
theorem dX13_become_246 : decode cX13_become 246 = .ok (.iload_n 2, 1) := by decide +kernel
theorem dX13_become_247 : decode cX13_become 247 = .ok (.aload_n 0, 1) := by decide +kernel
theorem dX13_become_248 : decode cX13_become 248 = .ok (.getfield 52, 3) := by decide +kernel
theorem dX13_become_251 : decode cX13_become 251 = .ok (.bipush 13, 2) := by decide +kernel
theorem dX13_become_253 : decode cX13_become 253 = .ok (.iload_n 2, 1) := by decide +kernel
theorem dX13_become_254 : decode cX13_become 254 = .ok (.iadd, 1) := by decide +kernel
theorem dX13_become_255 : decode cX13_become 255 = .ok (.iaload, 1) := by decide +kernel
theorem dX13_become_256 : decode cX13_become 256 = .ok (.iastore, 1) := by decide +kernel
theorem dX13_become_257 : decode cX13_become 257 = .ok (.aload_n 0, 1) := by decide +kernel
theorem dX13_become_258 : decode cX13_become 258 = .ok (.getfield 55, 3) := by decide +kernel
theorem dX13_become_261 : decode cX13_become 261 = .ok (.iload_n 2, 1) := by decide +kernel
theorem dX13_become_262 : decode cX13_become 262 = .ok (.aload_n 0, 1) := by decide +kernel
theorem dX13_become_263 : decode cX13_become 263 = .ok (.getfield 55, 3) := by decide +kernel
theorem dX13_become_266 : decode cX13_become 266 = .ok (.bipush 13, 2) := by decide +kernel
theorem dX13_become_268 : decode cX13_become 268 = .ok (.iload_n 2, 1) := by decide +kernel
theorem dX13_become_269 : decode cX13_become 269 = .ok (.iadd, 1) := by decide +kernel
theorem dX13_become_270 : decode cX13_become 270 = .ok (.iaload, 1) := by decide +kernel
theorem dX13_become_271 : decode cX13_become 271 = .ok (.iastore, 1) := by decide +kernel
theorem dX13_become_272 : decode cX13_become 272 = .ok (.aload_n 0, 1) := by decide +kernel
theorem dX13_become_273 : decode cX13_become 273 = .ok (.getfield 58, 3) := by decide +kernel
theorem dX13_become_276 : decode cX13_become 276 = .ok (.iload_n 2, 1) := by decide +kernel
theorem dX13_become_277 : decode cX13_become 277 = .ok (.aload_n 0, 1) := by decide +kernel
theorem dX13_become_278 : decode cX13_become 278 = .ok (.getfield 58, 3) := by decide +kernel
theorem dX13_become_281 : decode cX13_become 281 = .ok (.bipush 13, 2) := by decide +kernel
theorem dX13_become_283 : decode cX13_become 283 = .ok (.iload_n 2, 1) := by decide +kernel
theorem dX13_become_284 : decode cX13_become 284 = .ok (.iadd, 1) := by decide +kernel
theorem dX13_become_285 : decode cX13_become 285 = .ok (.iaload, 1) := by decide +kernel
theorem dX13_become_286 : decode cX13_become 286 = .ok (.invokestatic 312, 3) := by decide +kernel
theorem dX13_become_289 : decode cX13_become 289 = .ok (.iastore, 1) := by decide +kernel
theorem dX13_become_290 : decode cX13_become 290 = .ok (.aload_n 0, 1) := by decide +kernel
theorem dX13_become_291 : decode cX13_become 291 = .ok (.getfield 64, 3) := by decide +kernel
theorem dX13_become_294 : decode cX13_become 294 = .ok (.iload_n 2, 1) := by decide +kernel
theorem dX13_become_295 : decode cX13_become 295 = .ok (.aload_n 0, 1) := by decide +kernel
theorem dX13_become_296 : decode cX13_become 296 = .ok (.getfield 64, 3) := by decide +kernel
theorem dX13_become_299 : decode cX13_become 299 = .ok (.bipush 13, 2) := by decide +kernel
theorem dX13_become_301 : decode cX13_become 301 = .ok (.iload_n 2, 1) := by decide +kernel
theorem dX13_become_302 : decode cX13_become 302 = .ok (.iadd, 1) := by decide +kernel
theorem dX13_become_303 : decode cX13_become 303 = .ok (.iaload, 1) := by decide +kernel
theorem dX13_become_304 : decode cX13_become 304 = .ok (.iastore, 1) := by decide +kernel
theorem dX13_become_305 : decode cX13_become 305 = .ok (.iinc 2 1, 3) := by decide +kernel
theorem dX13_become_308 : decode cX13_become 308 = .ok (.goto (-72), 3) := by decide +kernel
theorem dX13_become_311 : decode cX13_become 311 = .ok (.iconst 0, 1) := by decide +kernel
theorem dX13_become_312 : decode cX13_become 312 = .ok (.istore_n 2, 1) := by decide +kernel
theorem dX13_become_313 : decode cX13_become 313 = .ok (.iload_n 2, 1) := by decide +kernel
theorem dX13_become_314 : decode cX13_become 314 = .ok (.sipush 130, 3) := by decide +kernel
theorem dX13_become_317 : decode cX13_become 317 = .ok (.if_icmp .ge 25, 3) := by decide +kernel
theorem dX13_become_320 : decode cX13_become 320 = .ok (.aload_n 0, 1) := by decide +kernel
theorem dX13_become_321 : decode cX13_become 321 = .ok (.getfield 61, 3) := by decide +kernel
theorem dX13_become_324 : decode cX13_become 324 = .ok (.iload_n 2, 1) := by decide +kernel
theorem dX13_become_325 : decode cX13_become 325 = .ok (.aload_n 0, 1) := by decide +kernel
theorem dX13_become_326 : decode cX13_become 326 = .ok (.getfield 61, 3) := by decide +kernel
theorem dX13_become_329 : decode cX13_become 329 = .ok (.sipush 130, 3) := by decide +kernel
theorem dX13_become_332 : decode cX13_become 332 = .ok (.iload_n 2, 1) := by decide +kernel
theorem dX13_become_333 : decode cX13_become 333 = .ok (.iadd, 1) := by decide +kernel
theorem dX13_become_334 : decode cX13_become 334 = .ok (.baload, 1) := by decide +kernel
theorem dX13_become_335 : decode cX13_become 335 = .ok (.bastore, 1) := by decide +kernel
theorem dX13_become_336 : decode cX13_become 336 = .ok (.iinc 2 1, 3) := by decide +kernel
theorem dX13_become_339 : decode cX13_become 339 = .ok (.goto (-26), 3) := by decide +kernel
theorem dX13_become_342 : decode cX13_become 342 = .ok (.iconst 0, 1) := by decide +kernel
theorem dX13_become_343 : decode cX13_become 343 = .ok (.istore_n 2, 1) := by decide +kernel
theorem dX13_become_344 : decode cX13_become 344 = .ok (.iload_n 2, 1) := by decide +kernel
theorem dX13_become_345 : decode cX13_become 345 = .ok (.sipush 260, 3) := by decide +kernel
theorem dX13_become_348 : decode cX13_become 348 = .ok (.if_icmp .ge 25, 3) := by decide +kernel
theorem dX13_become_351 : decode cX13_become 351 = .ok (.aload_n 0, 1) := by decide +kernel
theorem dX13_become_352 : decode cX13_become 352 = .ok (.getfield 49, 3) := by decide +kernel
theorem dX13_become_355 : decode cX13_become 355 = .ok (.iload_n 2, 1) := by decide +kernel
theorem dX13_become_356 : decode cX13_become 356 = .ok (.aload_n 0, 1) := by decide +kernel
theorem dX13_become_357 : decode cX13_become 357 = .ok (.getfield 49, 3) := by decide +kernel
theorem dX13_become_360 : decode cX13_become 360 = .ok (.sipush 260, 3) := by decide +kernel
theorem dX13_become_363 : decode cX13_become 363 = .ok (.iload_n 2, 1) := by decide +kernel
theorem dX13_become_364 : decode cX13_become 364 = .ok (.iadd, 1) := by decide +kernel
theorem dX13_become_365 : decode cX13_become 365 = .ok (.iaload, 1) := by decide +kernel
theorem dX13_become_366 : decode cX13_become 366 = .ok (.iastore, 1) := by decide +kernel
theorem dX13_become_367 : decode cX13_become 367 = .ok (.iinc 2 1, 3) := by decide +kernel
theorem dX13_become_370 : decode cX13_become 370 = .ok (.goto (-26), 3) := by decide +kernel
theorem dX13_become_373 : decode cX13_become 373 = .ok (.iconst 0, 1) := by decide +kernel
theorem dX13_become_374 : decode cX13_become 374 = .ok (.istore_n 2, 1) := by decide +kernel
theorem dX13_become_375 : decode cX13_become 375 = .ok (.iload_n 2, 1) := by decide +kernel
theorem dX13_become_376 : decode cX13_become 376 = .ok (.sipush 2600, 3) := by decide +kernel
theorem dX13_become_379 : decode cX13_become 379 = .ok (.if_icmp .ge 25, 3) := by decide +kernel
theorem dX13_become_382 : decode cX13_become 382 = .ok (.aload_n 0, 1) := by decide +kernel
theorem dX13_become_383 : decode cX13_become 383 = .ok (.getfield 46, 3) := by decide +kernel
theorem dX13_become_386 : decode cX13_become 386 = .ok (.iload_n 2, 1) := by decide +kernel
theorem dX13_become_387 : decode cX13_become 387 = .ok (.aload_n 0, 1) := by decide +kernel
theorem dX13_become_388 : decode cX13_become 388 = .ok (.getfield 46, 3) := by decide +kernel
theorem dX13_become_391 : decode cX13_become 391 = .ok (.sipush 2600, 3) := by decide +kernel
theorem dX13_become_394 : decode cX13_become 394 = .ok (.iload_n 2, 1) := by decide +kernel
theorem dX13_become_395 : decode cX13_become 395 = .ok (.iadd, 1) := by decide +kernel
theorem dX13_become_396 : decode cX13_become 396 = .ok (.baload, 1) := by decide +kernel
theorem dX13_become_397 : decode cX13_become 397 = .ok (.bastore, 1) := by decide +kernel
theorem dX13_become_398 : decode cX13_become 398 = .ok (.iinc 2 1, 3) := by decide +kernel
theorem dX13_become_401 : decode cX13_become 401 = .ok (.goto (-26), 3) := by decide +kernel
theorem dX13_become_404 : decode cX13_become 404 = .ok (.aload_n 0, 1) := by decide +kernel
theorem dX13_become_405 : decode cX13_become 405 = .ok (.iconst 1, 1) := by decide +kernel
theorem dX13_become_406 : decode cX13_become 406 = .ok (.putfield 325, 3) := by decide +kernel
theorem dX13_become_409 : decode cX13_become 409 = .ok (.aload_n 0, 1) := by decide +kernel
theorem dX13_become_410 : decode cX13_become 410 = .ok (.invokevirtual 329, 3) := by decide +kernel
theorem dX13_become_413 : decode cX13_become 413 = .ok (.aload_n 0, 1) := by decide +kernel
theorem dX13_become_414 : decode cX13_become 414 = .ok (.iconst 0, 1) := by decide +kernel
theorem dX13_become_415 : decode cX13_become 415 = .ok (.putfield 332, 3) := by decide +kernel
theorem dX13_become_418 : decode cX13_become 418 = .ok (.aload_n 0, 1) := by decide +kernel
theorem dX13_become_419 : decode cX13_become 419 = .ok (.iconst 0, 1) := by decide +kernel
theorem dX13_become_420 : decode cX13_become 420 = .ok (.putfield 335, 3) := by decide +kernel
theorem dX13_become_423 : decode cX13_become 423 = .ok (.iconst 0, 1) := by decide +kernel
theorem dX13_become_424 : decode cX13_become 424 = .ok (.istore_n 2, 1) := by decide +kernel
theorem dX13_become_425 : decode cX13_become 425 = .ok (.iload_n 2, 1) := by decide +kernel
theorem dX13_become_426 : decode cX13_become 426 = .ok (.bipush 12, 2) := by decide +kernel
theorem dX13_become_428 : decode cX13_become 428 = .ok (.if_icmp .ge 16, 3) := by decide +kernel
theorem dX13_become_431 : decode cX13_become 431 = .ok (.aload_n 0, 1) := by decide +kernel
theorem dX13_become_432 : decode cX13_become 432 = .ok (.getfield 126, 3) := by decide +kernel
theorem dX13_become_435 : decode cX13_become 435 = .ok (.iload_n 2, 1) := by decide +kernel
theorem dX13_become_436 : decode cX13_become 436 = .ok (.iconst 0, 1) := by decide +kernel
theorem dX13_become_437 : decode cX13_become 437 = .ok (.bastore, 1) := by decide +kernel
theorem dX13_become_438 : decode cX13_become 438 = .ok (.iinc 2 1, 3) := by decide +kernel
theorem dX13_become_441 : decode cX13_become 441 = .ok (.goto (-16), 3) := by decide +kernel
theorem dX13_become_444 : decode cX13_become 444 = .ok (.return_, 1) := by decide +kernel
theorem dX13_readMacro_0 : decode cX13_readMacro 0 = .ok (.aload_n 0, 1) := by decide +kernel
theorem dX13_readMacro_1 : decode cX13_readMacro 1 = .ok (.invokevirtual 272, 3) := by decide +kernel
theorem dX13_readMacro_4 : decode cX13_readMacro 4 = .ok (.bipush 13, 2) := by decide +kernel
theorem dX13_readMacro_6 : decode cX13_readMacro 6 = .ok (.aload_n 0, 1) := by decide +kernel
theorem dX13_readMacro_7 : decode cX13_readMacro 7 = .ok (.getfield 294, 3) := by decide +kernel
theorem dX13_readMacro_10 : decode cX13_readMacro 10 = .ok (.iadd, 1) := by decide +kernel
theorem dX13_readMacro_11 : decode cX13_readMacro 11 = .ok (.istore_n 1, 1) := by decide +kernel
theorem dX13_readMacro_12 : decode cX13_readMacro 12 = .ok (.aload_n 0, 1) := by decide +kernel
theorem dX13_readMacro_13 : decode cX13_readMacro 13 = .ok (.invokevirtual 338, 3) := by decide +kernel
theorem dX13_readMacro_16 : decode cX13_readMacro 16 = .ok (.ifCond .ne 8, 3) := by decide +kernel
theorem dX13_readMacro_19 : decode cX13_readMacro 19 = .ok (.aload_n 0, 1) := by decide +kernel
theorem dX13_readMacro_20 : decode cX13_readMacro 20 = .ok (.invokevirtual 275, 3) := by decide +kernel
theorem dX13_readMacro_23 : decode cX13_readMacro 23 = .ok (.return_, 1) := by decide +kernel
theorem dX13_readMacro_24 : decode cX13_readMacro 24 = .ok (.aload_n 0, 1) := by decide +kernel
theorem dX13_readMacro_25 : decode cX13_readMacro 25 = .ok (.getfield 294, 3) := by decide +kernel
theorem dX13_readMacro_28 : decode cX13_readMacro 28 = .ok (.bipush 12, 2) := by decide +kernel
theorem dX13_readMacro_30 : decode cX13_readMacro 30 = .ok (.if_icmp .ne 15, 3) := by decide +kernel
theorem dX13_readMacro_33 : decode cX13_readMacro 33 = .ok (.aload_n 0, 1) := by decide +kernel
theorem dX13_readMacro_34 : decode cX13_readMacro 34 = .ok (.iconst 3, 1) := by decide +kernel
theorem dX13_readMacro_35 : decode cX13_readMacro 35 = .ok (.aload_n 0, 1) := by decide +kernel
theorem dX13_readMacro_36 : decode cX13_readMacro 36 = .ok (.getfield 217, 3) := by decide +kernel
theorem dX13_readMacro_39 : decode cX13_readMacro 39 = .ok (.invokevirtual 261, 3) := by decide +kernel
theorem dX13_readMacro_42 : decode cX13_readMacro 42 = .ok (.goto 30, 3) := by decide +kernel
theorem dX13_readMacro_45 : decode cX13_readMacro 45 = .ok (.aload_n 0, 1) := by decide +kernel
theorem dX13_readMacro_46 : decode cX13_readMacro 46 = .ok (.aload_n 0, 1) := by decide +kernel
theorem dX13_readMacro_47 : decode cX13_readMacro 47 = .ok (.getfield 17, 3) := by decide +kernel
theorem dX13_readMacro_50 : decode cX13_readMacro 50 = .ok (.invokevirtual 251, 3) := by decide +kernel
theorem dX13_readMacro_53 : decode cX13_readMacro 53 = .ok (.ifCond .ge 10, 3) := by decide +kernel
theorem dX13_readMacro_56 : decode cX13_readMacro 56 = .ok (.aload_n 0, 1) := by decide +kernel
theorem dX13_readMacro_57 : decode cX13_readMacro 57 = .ok (.invokevirtual 341, 3) := by decide +kernel
theorem dX13_readMacro_60 : decode cX13_readMacro 60 = .ok (.ifCond .lt 12, 3) := by decide +kernel
theorem dX13_readMacro_63 : decode cX13_readMacro 63 = .ok (.aload_n 0, 1) := by decide +kernel
theorem dX13_readMacro_64 : decode cX13_readMacro 64 = .ok (.iconst 4, 1) := by decide +kernel
theorem dX13_readMacro_65 : decode cX13_readMacro 65 = .ok (.aload_n 0, 1) := by decide +kernel
theorem dX13_readMacro_66 : decode cX13_readMacro 66 = .ok (.getfield 217, 3) := by decide +kernel
theorem dX13_readMacro_69 : decode cX13_readMacro 69 = .ok (.invokevirtual 261, 3) := by decide +kernel
theorem dX13_readMacro_72 : decode cX13_readMacro 72 = .ok (.aload_n 0, 1) := by decide +kernel
theorem dX13_readMacro_73 : decode cX13_readMacro 73 = .ok (.invokevirtual 265, 3) := by decide +kernel
theorem dX13_readMacro_76 : decode cX13_readMacro 76 = .ok (.ifCond .ne 4, 3) := by decide +kernel
theorem dX13_readMacro_79 : decode cX13_readMacro 79 = .ok (.return_, 1) := by decide +kernel
theorem dX13_readMacro_80 : decode cX13_readMacro 80 = .ok (.aload_n 0, 1) := by decide +kernel
theorem dX13_readMacro_81 : decode cX13_readMacro 81 = .ok (.getfield 64, 3) := by decide +kernel
theorem dX13_readMacro_84 : decode cX13_readMacro 84 = .ok (.iload_n 1, 1) := by decide +kernel
theorem dX13_readMacro_85 : decode cX13_readMacro 85 = .ok (.aload_n 0, 1) := by decide +kernel
theorem dX13_readMacro_86 : decode cX13_readMacro 86 = .ok (.getfield 220, 3) := by decide +kernel
theorem dX13_readMacro_89 : decode cX13_readMacro 89 = .ok (.iastore, 1) := by decide +kernel
theorem dX13_readMacro_90 : decode cX13_readMacro 90 = .ok (.iconst 0, 1) := by decide +kernel
theorem dX13_readMacro_91 : decode cX13_readMacro 91 = .ok (.istore_n 2, 1) := by decide +kernel
theorem dX13_readMacro_92 : decode cX13_readMacro 92 = .ok (.iload_n 2, 1) := by decide +kernel
theorem dX13_readMacro_93 : decode cX13_readMacro 93 = .ok (.aload_n 0, 1) := by decide +kernel
theorem dX13_readMacro_94 : decode cX13_readMacro 94 = .ok (.getfield 220, 3) := by decide +kernel
theorem dX13_readMacro_97 : decode cX13_readMacro 97 = .ok (.if_icmp .ge 31, 3) := by decide +kernel
theorem dX13_readMacro_100 : decode cX13_readMacro 100 = .ok (.aload_n 0, 1) := by decide +kernel
theorem dX13_readMacro_101 : decode cX13_readMacro 101 = .ok (.getfield 61, 3) := by decide +kernel
theorem dX13_readMacro_104 : decode cX13_readMacro 104 = .ok (.bipush 10, 2) := by decide +kernel
theorem dX13_readMacro_106 : decode cX13_readMacro 106 = .ok (.iload_n 1, 1) := by decide +kernel
theorem dX13_readMacro_107 : decode cX13_readMacro 107 = .ok (.imul, 1) := by decide +kernel
theorem dX13_readMacro_108 : decode cX13_readMacro 108 = .ok (.iload_n 2, 1) := by decide +kernel
theorem dX13_readMacro_109 : decode cX13_readMacro 109 = .ok (.iadd, 1) := by decide +kernel
theorem dX13_readMacro_110 : decode cX13_readMacro 110 = .ok (.aload_n 0, 1) := by decide +kernel
theorem dX13_readMacro_111 : decode cX13_readMacro 111 = .ok (.getfield 7, 3) := by decide +kernel
theorem dX13_readMacro_114 : decode cX13_readMacro 114 = .ok (.aload_n 0, 1) := by decide +kernel
theorem dX13_readMacro_115 : decode cX13_readMacro 115 = .ok (.getfield 217, 3) := by decide +kernel
theorem dX13_readMacro_118 : decode cX13_readMacro 118 = .ok (.iload_n 2, 1) := by decide +kernel
theorem dX13_readMacro_119 : decode cX13_readMacro 119 = .ok (.iadd, 1) := by decide +kernel
theorem dX13_readMacro_120 : decode cX13_readMacro 120 = .ok (.baload, 1) := by decide +kernel
theorem dX13_readMacro_121 : decode cX13_readMacro 121 = .ok (.bastore, 1) := by decide +kernel
theorem dX13_readMacro_122 : decode cX13_readMacro 122 = .ok (.iinc 2 1, 3) := by decide +kernel
theorem dX13_readMacro_125 : decode cX13_readMacro 125 = .ok (.goto (-33), 3) := by decide +kernel
theorem dX13_readMacro_128 : decode cX13_readMacro 128 = .ok (.aload_n 0, 1) := by decide +kernel
theorem dX13_readMacro_129 : decode cX13_readMacro 129 = .ok (.aload_n 0, 1) := by decide +kernel
theorem dX13_readMacro_130 : decode cX13_readMacro 130 = .ok (.getfield 294, 3) := by decide +kernel
theorem dX13_readMacro_133 : decode cX13_readMacro 133 = .ok (.putfield 287, 3) := by decide +kernel
theorem dX13_readMacro_136 : decode cX13_readMacro 136 = .ok (.aload_n 0, 1) := by decide +kernel
theorem dX13_readMacro_137 : decode cX13_readMacro 137 = .ok (.invokevirtual 272, 3) := by decide +kernel
theorem dX13_readMacro_140 : decode cX13_readMacro 140 = .ok (.aload_n 0, 1) := by decide +kernel
theorem dX13_readMacro_141 : decode cX13_readMacro 141 = .ok (.bipush 40, 2) := by decide +kernel
theorem dX13_readMacro_143 : decode cX13_readMacro 143 = .ok (.invokevirtual 281, 3) := by decide +kernel
theorem dX13_readMacro_146 : decode cX13_readMacro 146 = .ok (.aload_n 0, 1) := by decide +kernel
theorem dX13_readMacro_147 : decode cX13_readMacro 147 = .ok (.invokevirtual 265, 3) := by decide +kernel
theorem dX13_readMacro_150 : decode cX13_readMacro 150 = .ok (.ifCond .eq 43, 3) := by decide +kernel
theorem dX13_readMacro_153 : decode cX13_readMacro 153 = .ok (.aload_n 0, 1) := by decide +kernel
theorem dX13_readMacro_154 : decode cX13_readMacro 154 = .ok (.bipush 41, 2) := by decide +kernel
theorem dX13_readMacro_156 : decode cX13_readMacro 156 = .ok (.invokevirtual 269, 3) := by decide +kernel
theorem dX13_readMacro_159 : decode cX13_readMacro 159 = .ok (.ifCond .ne 34, 3) := by decide +kernel
theorem dX13_readMacro_162 : decode cX13_readMacro 162 = .ok (.aload_n 0, 1) := by decide +kernel
theorem dX13_readMacro_163 : decode cX13_readMacro 163 = .ok (.invokevirtual 345, 3) := by decide +kernel
theorem dX13_readMacro_166 : decode cX13_readMacro 166 = .ok (.aload_n 0, 1) := by decide +kernel
theorem dX13_readMacro_167 : decode cX13_readMacro 167 = .ok (.invokevirtual 265, 3) := by decide +kernel
theorem dX13_readMacro_170 : decode cX13_readMacro 170 = .ok (.ifCond .eq 23, 3) := by decide +kernel
theorem dX13_readMacro_173 : decode cX13_readMacro 173 = .ok (.aload_n 0, 1) := by decide +kernel
theorem dX13_readMacro_174 : decode cX13_readMacro 174 = .ok (.bipush 44, 2) := by decide +kernel
theorem dX13_readMacro_176 : decode cX13_readMacro 176 = .ok (.invokevirtual 269, 3) := by decide +kernel
theorem dX13_readMacro_179 : decode cX13_readMacro 179 = .ok (.ifCond .eq 14, 3) := by decide +kernel
theorem dX13_readMacro_182 : decode cX13_readMacro 182 = .ok (.aload_n 0, 1) := by decide +kernel
theorem dX13_readMacro_183 : decode cX13_readMacro 183 = .ok (.invokevirtual 272, 3) := by decide +kernel
theorem dX13_readMacro_186 : decode cX13_readMacro 186 = .ok (.aload_n 0, 1) := by decide +kernel
theorem dX13_readMacro_187 : decode cX13_readMacro 187 = .ok (.invokevirtual 345, 3) := by decide +kernel
theorem dX13_readMacro_190 : decode cX13_readMacro 190 = .ok (.goto (-24), 3) := by decide +kernel
theorem dX13_readMacro_193 : decode cX13_readMacro 193 = .ok (.aload_n 0, 1) := by decide +kernel
theorem dX13_readMacro_194 : decode cX13_readMacro 194 = .ok (.bipush 41, 2) := by decide +kernel
theorem dX13_readMacro_196 : decode cX13_readMacro 196 = .ok (.invokevirtual 281, 3) := by decide +kernel
theorem dX13_readMacro_199 : decode cX13_readMacro 199 = .ok (.aload_n 0, 1) := by decide +kernel
theorem dX13_readMacro_200 : decode cX13_readMacro 200 = .ok (.bipush 123, 2) := by decide +kernel
theorem dX13_readMacro_202 : decode cX13_readMacro 202 = .ok (.invokevirtual 348, 3) := by decide +kernel
theorem dX13_readMacro_205 : decode cX13_readMacro 205 = .ok (.aload_n 0, 1) := by decide +kernel
theorem dX13_readMacro_206 : decode cX13_readMacro 206 = .ok (.getfield 58, 3) := by decide +kernel
theorem dX13_readMacro_209 : decode cX13_readMacro 209 = .ok (.iload_n 1, 1) := by decide +kernel
theorem dX13_readMacro_210 : decode cX13_readMacro 210 = .ok (.aload_n 0, 1) := by decide +kernel
theorem dX13_readMacro_211 : decode cX13_readMacro 211 = .ok (.invokevirtual 265, 3) := by decide +kernel
theorem dX13_readMacro_214 : decode cX13_readMacro 214 = .ok (.ifCond .eq 11, 3) := by decide +kernel
theorem dX13_readMacro_217 : decode cX13_readMacro 217 = .ok (.aload_n 0, 1) := by decide +kernel
theorem dX13_readMacro_218 : decode cX13_readMacro 218 = .ok (.iconst 1, 1) := by decide +kernel
theorem dX13_readMacro_219 : decode cX13_readMacro 219 = .ok (.invokevirtual 303, 3) := by decide +kernel
theorem dX13_readMacro_222 : decode cX13_readMacro 222 = .ok (.goto 4, 3) := by decide +kernel
theorem dX13_readMacro_225 : decode cX13_readMacro 225 = .ok (.iconst (-1), 1) := by decide +kernel
theorem dX13_readMacro_226 : decode cX13_readMacro 226 = .ok (.iastore, 1) := by decide +kernel
theorem dX13_readMacro_227 : decode cX13_readMacro 227 = .ok (.aload_n 0, 1) := by decide +kernel
theorem dX13_readMacro_228 : decode cX13_readMacro 228 = .ok (.dup, 1) := by decide +kernel
theorem dX13_readMacro_229 : decode cX13_readMacro 229 = .ok (.getfield 294, 3) := by decide +kernel
theorem dX13_readMacro_232 : decode cX13_readMacro 232 = .ok (.iconst 1, 1) := by decide +kernel
theorem dX13_readMacro_233 : decode cX13_readMacro 233 = .ok (.iadd, 1) := by decide +kernel
theorem dX13_readMacro_234 : decode cX13_readMacro 234 = .ok (.putfield 294, 3) := by decide +kernel
theorem dX13_readMacro_237 : decode cX13_readMacro 237 = .ok (.return_, 1) := by decide +kernel
theorem dX13_readParam_0 : decode cX13_readParam 0 = .ok (.bipush 13, 2) := by decide +kernel
theorem dX13_readParam_2 : decode cX13_readParam 2 = .ok (.aload_n 0, 1) := by decide +kernel
theorem dX13_readParam_3 : decode cX13_readParam 3 = .ok (.getfield 287, 3) := by decide +kernel
theorem dX13_readParam_6 : decode cX13_readParam 6 = .ok (.iadd, 1) := by decide +kernel
theorem dX13_readParam_7 : decode cX13_readParam 7 = .ok (.istore_n 1, 1) := by decide +kernel
theorem dX13_readParam_8 : decode cX13_readParam 8 = .ok (.aload_n 0, 1) := by decide +kernel
theorem dX13_readParam_9 : decode cX13_readParam 9 = .ok (.invokevirtual 338, 3) := by decide +kernel
theorem dX13_readParam_12 : decode cX13_readParam 12 = .ok (.ifCond .ne 10, 3) := by decide +kernel
theorem dX13_readParam_15 : decode cX13_readParam 15 = .ok (.aload_n 0, 1) := by decide +kernel
theorem dX13_readParam_16 : decode cX13_readParam 16 = .ok (.invokevirtual 275, 3) := by decide +kernel
theorem dX13_readParam_19 : decode cX13_readParam 19 = .ok (.goto 70, 3) := by decide +kernel
theorem dX13_readParam_22 : decode cX13_readParam 22 = .ok (.aload_n 0, 1) := by decide +kernel
theorem dX13_readParam_23 : decode cX13_readParam 23 = .ok (.getfield 55, 3) := by decide +kernel
theorem dX13_readParam_26 : decode cX13_readParam 26 = .ok (.iload_n 1, 1) := by decide +kernel
theorem dX13_readParam_27 : decode cX13_readParam 27 = .ok (.iaload, 1) := by decide +kernel
theorem dX13_readParam_28 : decode cX13_readParam 28 = .ok (.iconst 4, 1) := by decide +kernel
theorem dX13_readParam_29 : decode cX13_readParam 29 = .ok (.if_icmp .ne 15, 3) := by decide +kernel
theorem dX13_readParam_32 : decode cX13_readParam 32 = .ok (.aload_n 0, 1) := by decide +kernel
theorem dX13_readParam_33 : decode cX13_readParam 33 = .ok (.iconst 3, 1) := by decide +kernel
theorem dX13_readParam_34 : decode cX13_readParam 34 = .ok (.aload_n 0, 1) := by decide +kernel
theorem dX13_readParam_35 : decode cX13_readParam 35 = .ok (.getfield 217, 3) := by decide +kernel
theorem dX13_readParam_38 : decode cX13_readParam 38 = .ok (.invokevirtual 261, 3) := by decide +kernel
theorem dX13_readParam_41 : decode cX13_readParam 41 = .ok (.goto 48, 3) := by decide +kernel
theorem dX13_readParam_44 : decode cX13_readParam 44 = .ok (.aload_n 0, 1) := by decide +kernel
theorem dX13_readParam_45 : decode cX13_readParam 45 = .ok (.invokevirtual 351, 3) := by decide +kernel
theorem dX13_readParam_48 : decode cX13_readParam 48 = .ok (.ifCond .lt 15, 3) := by decide +kernel
theorem dX13_readParam_51 : decode cX13_readParam 51 = .ok (.aload_n 0, 1) := by decide +kernel
theorem dX13_readParam_52 : decode cX13_readParam 52 = .ok (.iconst 4, 1) := by decide +kernel
theorem dX13_readParam_53 : decode cX13_readParam 53 = .ok (.aload_n 0, 1) := by decide +kernel
theorem dX13_readParam_54 : decode cX13_readParam 54 = .ok (.getfield 217, 3) := by decide +kernel
theorem dX13_readParam_57 : decode cX13_readParam 57 = .ok (.invokevirtual 261, 3) := by decide +kernel
theorem dX13_readParam_60 : decode cX13_readParam 60 = .ok (.goto 29, 3) := by decide +kernel
theorem dX13_readParam_63 : decode cX13_readParam 63 = .ok (.aload_n 0, 1) := by decide +kernel
theorem dX13_readParam_64 : decode cX13_readParam 64 = .ok (.aload_n 0, 1) := by decide +kernel
theorem dX13_readParam_65 : decode cX13_readParam 65 = .ok (.getfield 217, 3) := by decide +kernel
theorem dX13_readParam_68 : decode cX13_readParam 68 = .ok (.aload_n 0, 1) := by decide +kernel
theorem dX13_readParam_69 : decode cX13_readParam 69 = .ok (.getfield 220, 3) := by decide +kernel
theorem dX13_readParam_72 : decode cX13_readParam 72 = .ok (.invokevirtual 354, 3) := by decide +kernel
theorem dX13_readParam_75 : decode cX13_readParam 75 = .ok (.aload_n 0, 1) := by decide +kernel
theorem dX13_readParam_76 : decode cX13_readParam 76 = .ok (.getfield 55, 3) := by decide +kernel
theorem dX13_readParam_79 : decode cX13_readParam 79 = .ok (.iload_n 1, 1) := by decide +kernel
theorem dX13_readParam_80 : decode cX13_readParam 80 = .ok (.dup2, 1) := by decide +kernel
theorem dX13_readParam_81 : decode cX13_readParam 81 = .ok (.iaload, 1) := by decide +kernel
theorem dX13_readParam_82 : decode cX13_readParam 82 = .ok (.iconst 1, 1) := by decide +kernel
theorem dX13_readParam_83 : decode cX13_readParam 83 = .ok (.iadd, 1) := by decide +kernel
theorem dX13_readParam_84 : decode cX13_readParam 84 = .ok (.iastore, 1) := by decide +kernel
theorem dX13_readParam_85 : decode cX13_readParam 85 = .ok (.aload_n 0, 1) := by decide +kernel
theorem dX13_readParam_86 : decode cX13_readParam 86 = .ok (.invokevirtual 272, 3) := by decide +kernel
theorem dX13_readParam_89 : decode cX13_readParam 89 = .ok (.return_, 1) := by decide +kernel
theorem dX13_begin_0 : decode cX13_begin 0 = .ok (.aload_n 0, 1) := by decide +kernel
theorem dX13_begin_1 : decode cX13_begin 1 = .ok (.dup, 1) := by decide +kernel
theorem dX13_begin_2 : decode cX13_begin 2 = .ok (.getfield 357, 3) := by decide +kernel
theorem dX13_begin_5 : decode cX13_begin 5 = .ok (.iconst 1, 1) := by decide +kernel
theorem dX13_begin_6 : decode cX13_begin 6 = .ok (.iadd, 1) := by decide +kernel
theorem dX13_begin_7 : decode cX13_begin 7 = .ok (.putfield 357, 3) := by decide +kernel
theorem dX13_begin_10 : decode cX13_begin 10 = .ok (.aload_n 0, 1) := by decide +kernel
theorem dX13_begin_11 : decode cX13_begin 11 = .ok (.getfield 71, 3) := by decide +kernel
theorem dX13_begin_14 : decode cX13_begin 14 = .ok (.aload_n 0, 1) := by decide +kernel
theorem dX13_begin_15 : decode cX13_begin 15 = .ok (.getfield 357, 3) := by decide +kernel
theorem dX13_begin_18 : decode cX13_begin 18 = .ok (.iload_n 1, 1) := by decide +kernel
theorem dX13_begin_19 : decode cX13_begin 19 = .ok (.iastore, 1) := by decide +kernel
theorem dX13_begin_20 : decode cX13_begin 20 = .ok (.aload_n 0, 1) := by decide +kernel
theorem dX13_begin_21 : decode cX13_begin 21 = .ok (.getfield 74, 3) := by decide +kernel
theorem dX13_begin_24 : decode cX13_begin 24 = .ok (.aload_n 0, 1) := by decide +kernel
theorem dX13_begin_25 : decode cX13_begin 25 = .ok (.getfield 357, 3) := by decide +kernel
theorem dX13_begin_28 : decode cX13_begin 28 = .ok (.iload_n 2, 1) := by decide +kernel
theorem dX13_begin_29 : decode cX13_begin 29 = .ok (.bastore, 1) := by decide +kernel
theorem dX13_begin_30 : decode cX13_begin 30 = .ok (.aload_n 0, 1) := by decide +kernel
theorem dX13_begin_31 : decode cX13_begin 31 = .ok (.getfield 78, 3) := by decide +kernel
theorem dX13_begin_34 : decode cX13_begin 34 = .ok (.aload_n 0, 1) := by decide +kernel
theorem dX13_begin_35 : decode cX13_begin 35 = .ok (.getfield 357, 3) := by decide +kernel
theorem dX13_begin_38 : decode cX13_begin 38 = .ok (.iconst (-1), 1) := by decide +kernel
theorem dX13_begin_39 : decode cX13_begin 39 = .ok (.iastore, 1) := by decide +kernel
theorem dX13_begin_40 : decode cX13_begin 40 = .ok (.return_, 1) := by decide +kernel
theorem dX13_readDeeds_0 : decode cX13_readDeeds 0 = .ok (.iconst (-1), 1) := by decide +kernel
theorem dX13_readDeeds_1 : decode cX13_readDeeds 1 = .ok (.istore_n 2, 1) := by decide +kernel
theorem dX13_readDeeds_2 : decode cX13_readDeeds 2 = .ok (.aload_n 0, 1) := by decide +kernel
theorem dX13_readDeeds_3 : decode cX13_readDeeds 3 = .ok (.iconst 0, 1) := by decide +kernel
theorem dX13_readDeeds_4 : decode cX13_readDeeds 4 = .ok (.putfield 357, 3) := by decide +kernel
theorem dX13_readDeeds_7 : decode cX13_readDeeds 7 = .ok (.aload_n 0, 1) := by decide +kernel
theorem dX13_readDeeds_8 : decode cX13_readDeeds 8 = .ok (.getfield 78, 3) := by decide +kernel
theorem dX13_readDeeds_11 : decode cX13_readDeeds 11 = .ok (.iconst 0, 1) := by decide +kernel
theorem dX13_readDeeds_12 : decode cX13_readDeeds 12 = .ok (.iconst (-1), 1) := by decide +kernel
theorem dX13_readDeeds_13 : decode cX13_readDeeds 13 = .ok (.iastore, 1) := by decide +kernel
theorem dX13_readDeeds_14 : decode cX13_readDeeds 14 = .ok (.iconst 1, 1) := by decide +kernel
theorem dX13_readDeeds_15 : decode cX13_readDeeds 15 = .ok (.istore_n 3, 1) := by decide +kernel
theorem dX13_readDeeds_16 : decode cX13_readDeeds 16 = .ok (.iload_n 3, 1) := by decide +kernel
theorem dX13_readDeeds_17 : decode cX13_readDeeds 17 = .ok (.ifCond .eq 117, 3) := by decide +kernel
theorem dX13_readDeeds_20 : decode cX13_readDeeds 20 = .ok (.aload_n 0, 1) := by decide +kernel
theorem dX13_readDeeds_21 : decode cX13_readDeeds 21 = .ok (.invokevirtual 265, 3) := by decide +kernel
theorem dX13_readDeeds_24 : decode cX13_readDeeds 24 = .ok (.ifCond .eq 110, 3) := by decide +kernel
theorem dX13_readDeeds_27 : decode cX13_readDeeds 27 = .ok (.aload_n 0, 1) := by decide +kernel
theorem dX13_readDeeds_28 : decode cX13_readDeeds 28 = .ok (.bipush 125, 2) := by decide +kernel
theorem dX13_readDeeds_30 : decode cX13_readDeeds 30 = .ok (.invokevirtual 269, 3) := by decide +kernel
theorem dX13_readDeeds_33 : decode cX13_readDeeds 33 = .ok (.ifCond .eq 18, 3) := by decide +kernel
theorem dX13_readDeeds_36 : decode cX13_readDeeds 36 = .ok (.iload_n 1, 1) := by decide +kernel
theorem dX13_readDeeds_37 : decode cX13_readDeeds 37 = .ok (.ifCond .ne 10, 3) := by decide +kernel
theorem dX13_readDeeds_40 : decode cX13_readDeeds 40 = .ok (.aload_n 0, 1) := by decide +kernel
theorem dX13_readDeeds_41 : decode cX13_readDeeds 41 = .ok (.getfield 357, 3) := by decide +kernel
theorem dX13_readDeeds_44 : decode cX13_readDeeds 44 = .ok (.ifCond .le 7, 3) := by decide +kernel
theorem dX13_readDeeds_47 : decode cX13_readDeeds 47 = .ok (.iconst 1, 1) := by decide +kernel
theorem dX13_readDeeds_48 : decode cX13_readDeeds 48 = .ok (.goto 4, 3) := by decide +kernel
theorem dX13_readDeeds_51 : decode cX13_readDeeds 51 = .ok (.iconst 0, 1) := by decide +kernel
theorem dX13_readDeeds_52 : decode cX13_readDeeds 52 = .ok (.istore 4, 2) := by decide +kernel
theorem dX13_readDeeds_54 : decode cX13_readDeeds 54 = .ok (.aload_n 0, 1) := by decide +kernel
theorem dX13_readDeeds_55 : decode cX13_readDeeds 55 = .ok (.getfield 357, 3) := by decide +kernel
theorem dX13_readDeeds_58 : decode cX13_readDeeds 58 = .ok (.ifCond .ne 37, 3) := by decide +kernel
theorem dX13_readDeeds_61 : decode cX13_readDeeds 61 = .ok (.iload_n 1, 1) := by decide +kernel
theorem dX13_readDeeds_62 : decode cX13_readDeeds 62 = .ok (.ifCond .eq 11, 3) := by decide +kernel
theorem dX13_readDeeds_65 : decode cX13_readDeeds 65 = .ok (.iload 4, 2) := by decide +kernel
theorem dX13_readDeeds_67 : decode cX13_readDeeds 67 = .ok (.ifCond .eq 28, 3) := by decide +kernel
theorem dX13_readDeeds_70 : decode cX13_readDeeds 70 = .ok (.goto 10, 3) := by decide +kernel
theorem dX13_readDeeds_73 : decode cX13_readDeeds 73 = .ok (.aload_n 0, 1) := by decide +kernel
theorem dX13_readDeeds_74 : decode cX13_readDeeds 74 = .ok (.getfield 223, 3) := by decide +kernel
theorem dX13_readDeeds_77 : decode cX13_readDeeds 77 = .ok (.ifCond .ne 18, 3) := by decide +kernel
theorem dX13_readDeeds_80 : decode cX13_readDeeds 80 = .ok (.iload_n 1, 1) := by decide +kernel
theorem dX13_readDeeds_81 : decode cX13_readDeeds 81 = .ok (.ifCond .eq 9, 3) := by decide +kernel
theorem dX13_readDeeds_84 : decode cX13_readDeeds 84 = .ok (.aload_n 0, 1) := by decide +kernel
theorem dX13_readDeeds_85 : decode cX13_readDeeds 85 = .ok (.bipush 125, 2) := by decide +kernel
theorem dX13_readDeeds_87 : decode cX13_readDeeds 87 = .ok (.invokevirtual 360, 3) := by decide +kernel
theorem dX13_readDeeds_90 : decode cX13_readDeeds 90 = .ok (.iconst 0, 1) := by decide +kernel
theorem dX13_readDeeds_91 : decode cX13_readDeeds 91 = .ok (.istore_n 3, 1) := by decide +kernel
theorem dX13_readDeeds_92 : decode cX13_readDeeds 92 = .ok (.goto 39, 3) := by decide +kernel
theorem dX13_readDeeds_95 : decode cX13_readDeeds 95 = .ok (.iload 4, 2) := by decide +kernel
theorem dX13_readDeeds_97 : decode cX13_readDeeds 97 = .ok (.ifCond .eq 10, 3) := by decide +kernel
theorem dX13_readDeeds_100 : decode cX13_readDeeds 100 = .ok (.aload_n 0, 1) := by decide +kernel
theorem dX13_readDeeds_101 : decode cX13_readDeeds 101 = .ok (.invokevirtual 363, 3) := by decide +kernel
theorem dX13_readDeeds_104 : decode cX13_readDeeds 104 = .ok (.goto 27, 3) := by decide +kernel
theorem dX13_readDeeds_107 : decode cX13_readDeeds 107 = .ok (.aload_n 0, 1) := by decide +kernel
theorem dX13_readDeeds_108 : decode cX13_readDeeds 108 = .ok (.invokevirtual 366, 3) := by decide +kernel
theorem dX13_readDeeds_111 : decode cX13_readDeeds 111 = .ok (.istore 5, 2) := by decide +kernel
theorem dX13_readDeeds_113 : decode cX13_readDeeds 113 = .ok (.iload_n 2, 1) := by decide +kernel
theorem dX13_readDeeds_114 : decode cX13_readDeeds 114 = .ok (.ifCond .ge 15, 3) := by decide +kernel
theorem dX13_readDeeds_117 : decode cX13_readDeeds 117 = .ok (.aload_n 0, 1) := by decide +kernel
theorem dX13_readDeeds_118 : decode cX13_readDeeds 118 = .ok (.getfield 369, 3) := by decide +kernel
theorem dX13_readDeeds_121 : decode cX13_readDeeds 121 = .ok (.ifCond .ne 8, 3) := by decide +kernel
theorem dX13_readDeeds_124 : decode cX13_readDeeds 124 = .ok (.iload 5, 2) := by decide +kernel
theorem dX13_readDeeds_126 : decode cX13_readDeeds 126 = .ok (.goto 4, 3) := by decide +kernel
theorem dX13_readDeeds_129 : decode cX13_readDeeds 129 = .ok (.iload_n 2, 1) := by decide +kernel
theorem dX13_readDeeds_130 : decode cX13_readDeeds 130 = .ok (.istore_n 2, 1) := by decide +kernel
theorem dX13_readDeeds_131 : decode cX13_readDeeds 131 = .ok (.goto (-115), 3) := by decide +kernel
theorem dX13_readDeeds_134 : decode cX13_readDeeds 134 = .ok (.iload_n 2, 1) := by decide +kernel
theorem dX13_readDeeds_135 : decode cX13_readDeeds 135 = .ok (.ireturn, 1) := by decide +kernel
theorem dX13_endBlock_0 : decode cX13_endBlock 0 = .ok (.aload_n 0, 1) := by decide +kernel
theorem dX13_endBlock_1 : decode cX13_endBlock 1 = .ok (.bipush 125, 2) := by decide +kernel
theorem dX13_endBlock_3 : decode cX13_endBlock 3 = .ok (.invokevirtual 360, 3) := by decide +kernel
theorem dX13_endBlock_6 : decode cX13_endBlock 6 = .ok (.aload_n 0, 1) := by decide +kernel
theorem dX13_endBlock_7 : decode cX13_endBlock 7 = .ok (.getfield 71, 3) := by decide +kernel
theorem dX13_endBlock_10 : decode cX13_endBlock 10 = .ok (.aload_n 0, 1) := by decide +kernel
theorem dX13_endBlock_11 : decode cX13_endBlock 11 = .ok (.getfield 357, 3) := by decide +kernel
theorem dX13_endBlock_14 : decode cX13_endBlock 14 = .ok (.iaload, 1) := by decide +kernel
theorem dX13_endBlock_15 : decode cX13_endBlock 15 = .ok (.istore_n 1, 1) := by decide +kernel
theorem dX13_endBlock_16 : decode cX13_endBlock 16 = .ok (.aload_n 0, 1) := by decide +kernel
theorem dX13_endBlock_17 : decode cX13_endBlock 17 = .ok (.getfield 74, 3) := by decide +kernel
theorem dX13_endBlock_20 : decode cX13_endBlock 20 = .ok (.aload_n 0, 1) := by decide +kernel
theorem dX13_endBlock_21 : decode cX13_endBlock 21 = .ok (.getfield 357, 3) := by decide +kernel
theorem dX13_endBlock_24 : decode cX13_endBlock 24 = .ok (.baload, 1) := by decide +kernel
theorem dX13_endBlock_25 : decode cX13_endBlock 25 = .ok (.istore_n 2, 1) := by decide +kernel
theorem dX13_endBlock_26 : decode cX13_endBlock 26 = .ok (.aload_n 0, 1) := by decide +kernel
theorem dX13_endBlock_27 : decode cX13_endBlock 27 = .ok (.dup, 1) := by decide +kernel
theorem dX13_endBlock_28 : decode cX13_endBlock 28 = .ok (.getfield 357, 3) := by decide +kernel
theorem dX13_endBlock_31 : decode cX13_endBlock 31 = .ok (.iconst 1, 1) := by decide +kernel
theorem dX13_endBlock_32 : decode cX13_endBlock 32 = .ok (.isub, 1) := by decide +kernel
theorem dX13_endBlock_33 : decode cX13_endBlock 33 = .ok (.putfield 357, 3) := by decide +kernel
theorem dX13_endBlock_36 : decode cX13_endBlock 36 = .ok (.aload_n 0, 1) := by decide +kernel
theorem dX13_endBlock_37 : decode cX13_endBlock 37 = .ok (.invokevirtual 265, 3) := by decide +kernel
theorem dX13_endBlock_40 : decode cX13_endBlock 40 = .ok (.ifCond .eq 60, 3) := by decide +kernel
theorem dX13_endBlock_43 : decode cX13_endBlock 43 = .ok (.iload_n 2, 1) := by decide +kernel
theorem dX13_endBlock_44 : decode cX13_endBlock 44 = .ok (.ifCond .ne 56, 3) := by decide +kernel
theorem dX13_endBlock_47 : decode cX13_endBlock 47 = .ok (.aload_n 0, 1) := by decide +kernel
theorem dX13_endBlock_48 : decode cX13_endBlock 48 = .ok (.getfield 23, 3) := by decide +kernel
theorem dX13_endBlock_51 : decode cX13_endBlock 51 = .ok (.iload_n 1, 1) := by decide +kernel
theorem dX13_endBlock_52 : decode cX13_endBlock 52 = .ok (.iaload, 1) := by decide +kernel
theorem dX13_endBlock_53 : decode cX13_endBlock 53 = .ok (.iconst 2, 1) := by decide +kernel
theorem dX13_endBlock_54 : decode cX13_endBlock 54 = .ok (.if_icmp .ne 46, 3) := by decide +kernel
theorem dX13_endBlock_57 : decode cX13_endBlock 57 = .ok (.aload_n 0, 1) := by decide +kernel
theorem dX13_endBlock_58 : decode cX13_endBlock 58 = .ok (.getfield 223, 3) := by decide +kernel
theorem dX13_endBlock_61 : decode cX13_endBlock 61 = .ok (.iconst 1, 1) := by decide +kernel
theorem dX13_endBlock_62 : decode cX13_endBlock 62 = .ok (.if_icmp .ne 38, 3) := by decide +kernel
theorem dX13_endBlock_65 : decode cX13_endBlock 65 = .ok (.aload_n 0, 1) := by decide +kernel
theorem dX13_endBlock_66 : decode cX13_endBlock 66 = .ok (.aload_n 0, 1) := by decide +kernel
theorem dX13_endBlock_67 : decode cX13_endBlock 67 = .ok (.getfield 13, 3) := by decide +kernel
theorem dX13_endBlock_70 : decode cX13_endBlock 70 = .ok (.invokevirtual 251, 3) := by decide +kernel
theorem dX13_endBlock_73 : decode cX13_endBlock 73 = .ok (.iconst 2, 1) := by decide +kernel
theorem dX13_endBlock_74 : decode cX13_endBlock 74 = .ok (.if_icmp .ne 26, 3) := by decide +kernel
theorem dX13_endBlock_77 : decode cX13_endBlock 77 = .ok (.aload_n 0, 1) := by decide +kernel
theorem dX13_endBlock_78 : decode cX13_endBlock 78 = .ok (.invokevirtual 272, 3) := by decide +kernel
theorem dX13_endBlock_81 : decode cX13_endBlock 81 = .ok (.aload_n 0, 1) := by decide +kernel
theorem dX13_endBlock_82 : decode cX13_endBlock 82 = .ok (.getfield 42, 3) := by decide +kernel
theorem dX13_endBlock_85 : decode cX13_endBlock 85 = .ok (.iload_n 1, 1) := by decide +kernel
theorem dX13_endBlock_86 : decode cX13_endBlock 86 = .ok (.lconst 1, 1) := by decide +kernel
theorem dX13_endBlock_87 : decode cX13_endBlock 87 = .ok (.lastore, 1) := by decide +kernel
theorem dX13_endBlock_88 : decode cX13_endBlock 88 = .ok (.aload_n 0, 1) := by decide +kernel
theorem dX13_endBlock_89 : decode cX13_endBlock 89 = .ok (.bipush 123, 2) := by decide +kernel
theorem dX13_endBlock_91 : decode cX13_endBlock 91 = .ok (.invokevirtual 348, 3) := by decide +kernel
theorem dX13_endBlock_94 : decode cX13_endBlock 94 = .ok (.aload_n 0, 1) := by decide +kernel
theorem dX13_endBlock_95 : decode cX13_endBlock 95 = .ok (.iload_n 1, 1) := by decide +kernel
theorem dX13_endBlock_96 : decode cX13_endBlock 96 = .ok (.iconst 1, 1) := by decide +kernel
theorem dX13_endBlock_97 : decode cX13_endBlock 97 = .ok (.invokevirtual 372, 3) := by decide +kernel
theorem dX13_endBlock_100 : decode cX13_endBlock 100 = .ok (.return_, 1) := by decide +kernel
theorem dX13_hang_0 : decode cX13_hang 0 = .ok (.aload_n 0, 1) := by decide +kernel
theorem dX13_hang_1 : decode cX13_hang 1 = .ok (.getfield 78, 3) := by decide +kernel
theorem dX13_hang_4 : decode cX13_hang 4 = .ok (.aload_n 0, 1) := by decide +kernel
theorem dX13_hang_5 : decode cX13_hang 5 = .ok (.getfield 357, 3) := by decide +kernel
theorem dX13_hang_8 : decode cX13_hang 8 = .ok (.iaload, 1) := by decide +kernel
theorem dX13_hang_9 : decode cX13_hang 9 = .ok (.ifCond .lt 21, 3) := by decide +kernel
theorem dX13_hang_12 : decode cX13_hang 12 = .ok (.aload_n 0, 1) := by decide +kernel
theorem dX13_hang_13 : decode cX13_hang 13 = .ok (.getfield 39, 3) := by decide +kernel
theorem dX13_hang_16 : decode cX13_hang 16 = .ok (.aload_n 0, 1) := by decide +kernel
theorem dX13_hang_17 : decode cX13_hang 17 = .ok (.getfield 78, 3) := by decide +kernel
theorem dX13_hang_20 : decode cX13_hang 20 = .ok (.aload_n 0, 1) := by decide +kernel
theorem dX13_hang_21 : decode cX13_hang 21 = .ok (.getfield 357, 3) := by decide +kernel
theorem dX13_hang_24 : decode cX13_hang 24 = .ok (.iaload, 1) := by decide +kernel
theorem dX13_hang_25 : decode cX13_hang 25 = .ok (.iload_n 1, 1) := by decide +kernel
theorem dX13_hang_26 : decode cX13_hang 26 = .ok (.iastore, 1) := by decide +kernel
theorem dX13_hang_27 : decode cX13_hang 27 = .ok (.goto 62, 3) := by decide +kernel
theorem dX13_hang_30 : decode cX13_hang 30 = .ok (.aload_n 0, 1) := by decide +kernel
theorem dX13_hang_31 : decode cX13_hang 31 = .ok (.getfield 357, 3) := by decide +kernel
theorem dX13_hang_34 : decode cX13_hang 34 = .ok (.ifCond .le 33, 3) := by decide +kernel
theorem dX13_hang_37 : decode cX13_hang 37 = .ok (.aload_n 0, 1) := by decide +kernel
theorem dX13_hang_38 : decode cX13_hang 38 = .ok (.getfield 74, 3) := by decide +kernel
theorem dX13_hang_41 : decode cX13_hang 41 = .ok (.aload_n 0, 1) := by decide +kernel
theorem dX13_hang_42 : decode cX13_hang 42 = .ok (.getfield 357, 3) := by decide +kernel
theorem dX13_hang_45 : decode cX13_hang 45 = .ok (.baload, 1) := by decide +kernel
theorem dX13_hang_46 : decode cX13_hang 46 = .ok (.ifCond .eq 21, 3) := by decide +kernel
theorem dX13_hang_49 : decode cX13_hang 49 = .ok (.aload_n 0, 1) := by decide +kernel
theorem dX13_hang_50 : decode cX13_hang 50 = .ok (.getfield 33, 3) := by decide +kernel
theorem dX13_hang_53 : decode cX13_hang 53 = .ok (.aload_n 0, 1) := by decide +kernel
theorem dX13_hang_54 : decode cX13_hang 54 = .ok (.getfield 71, 3) := by decide +kernel
theorem dX13_hang_57 : decode cX13_hang 57 = .ok (.aload_n 0, 1) := by decide +kernel
theorem dX13_hang_58 : decode cX13_hang 58 = .ok (.getfield 357, 3) := by decide +kernel
theorem dX13_hang_61 : decode cX13_hang 61 = .ok (.iaload, 1) := by decide +kernel
theorem dX13_hang_62 : decode cX13_hang 62 = .ok (.iload_n 1, 1) := by decide +kernel
theorem dX13_hang_63 : decode cX13_hang 63 = .ok (.iastore, 1) := by decide +kernel
theorem dX13_hang_64 : decode cX13_hang 64 = .ok (.goto 25, 3) := by decide +kernel
theorem dX13_hang_67 : decode cX13_hang 67 = .ok (.aload_n 0, 1) := by decide +kernel
theorem dX13_hang_68 : decode cX13_hang 68 = .ok (.getfield 357, 3) := by decide +kernel
theorem dX13_hang_71 : decode cX13_hang 71 = .ok (.ifCond .le 18, 3) := by decide +kernel
theorem dX13_hang_74 : decode cX13_hang 74 = .ok (.aload_n 0, 1) := by decide +kernel
theorem dX13_hang_75 : decode cX13_hang 75 = .ok (.getfield 30, 3) := by decide +kernel
theorem dX13_hang_78 : decode cX13_hang 78 = .ok (.aload_n 0, 1) := by decide +kernel
theorem dX13_hang_79 : decode cX13_hang 79 = .ok (.getfield 71, 3) := by decide +kernel
theorem dX13_hang_82 : decode cX13_hang 82 = .ok (.aload_n 0, 1) := by decide +kernel
theorem dX13_hang_83 : decode cX13_hang 83 = .ok (.getfield 357, 3) := by decide +kernel
theorem dX13_hang_86 : decode cX13_hang 86 = .ok (.iaload, 1) := by decide +kernel
theorem dX13_hang_87 : decode cX13_hang 87 = .ok (.iload_n 1, 1) := by decide +kernel
theorem dX13_hang_88 : decode cX13_hang 88 = .ok (.iastore, 1) := by decide +kernel
theorem dX13_hang_89 : decode cX13_hang 89 = .ok (.aload_n 0, 1) := by decide +kernel
theorem dX13_hang_90 : decode cX13_hang 90 = .ok (.getfield 78, 3) := by decide +kernel
theorem dX13_hang_93 : decode cX13_hang 93 = .ok (.aload_n 0, 1) := by decide +kernel
theorem dX13_hang_94 : decode cX13_hang 94 = .ok (.getfield 357, 3) := by decide +kernel
theorem dX13_hang_97 : decode cX13_hang 97 = .ok (.iload_n 1, 1) := by decide +kernel
theorem dX13_hang_98 : decode cX13_hang 98 = .ok (.iastore, 1) := by decide +kernel
theorem dX13_hang_99 : decode cX13_hang 99 = .ok (.return_, 1) := by decide +kernel
theorem dX13_readDeed_0 : decode cX13_readDeed 0 = .ok (.aload_n 0, 1) := by decide +kernel
theorem dX13_readDeed_1 : decode cX13_readDeed 1 = .ok (.getfield 223, 3) := by decide +kernel
theorem dX13_readDeed_4 : decode cX13_readDeed 4 = .ok (.iconst 1, 1) := by decide +kernel
theorem dX13_readDeed_5 : decode cX13_readDeed 5 = .ok (.if_icmp .ne 14, 3) := by decide +kernel
theorem dX13_readDeed_8 : decode cX13_readDeed 8 = .ok (.aload_n 0, 1) := by decide +kernel
theorem dX13_readDeed_9 : decode cX13_readDeed 9 = .ok (.aload_n 0, 1) := by decide +kernel
theorem dX13_readDeed_10 : decode cX13_readDeed 10 = .ok (.getfield 13, 3) := by decide +kernel
theorem dX13_readDeed_13 : decode cX13_readDeed 13 = .ok (.invokevirtual 251, 3) := by decide +kernel
theorem dX13_readDeed_16 : decode cX13_readDeed 16 = .ok (.goto 4, 3) := by decide +kernel
theorem dX13_readDeed_19 : decode cX13_readDeed 19 = .ok (.iconst 0, 1) := by decide +kernel
theorem dX13_readDeed_20 : decode cX13_readDeed 20 = .ok (.istore_n 1, 1) := by decide +kernel
theorem dX13_readDeed_21 : decode cX13_readDeed 21 = .ok (.iload_n 1, 1) := by decide +kernel
theorem dX13_readDeed_22 : decode cX13_readDeed 22 = .ok (.ifCond .eq 23, 3) := by decide +kernel
theorem dX13_readDeed_25 : decode cX13_readDeed 25 = .ok (.iload_n 1, 1) := by decide +kernel
theorem dX13_readDeed_26 : decode cX13_readDeed 26 = .ok (.iconst 2, 1) := by decide +kernel
theorem dX13_readDeed_27 : decode cX13_readDeed 27 = .ok (.if_icmp .eq 18, 3) := by decide +kernel
theorem dX13_readDeed_30 : decode cX13_readDeed 30 = .ok (.iload_n 1, 1) := by decide +kernel
theorem dX13_readDeed_31 : decode cX13_readDeed 31 = .ok (.bipush 6, 2) := by decide +kernel
theorem dX13_readDeed_33 : decode cX13_readDeed 33 = .ok (.if_icmp .ne 18, 3) := by decide +kernel
theorem dX13_readDeed_36 : decode cX13_readDeed 36 = .ok (.aload_n 0, 1) := by decide +kernel
theorem dX13_readDeed_37 : decode cX13_readDeed 37 = .ok (.getfield 287, 3) := by decide +kernel
theorem dX13_readDeed_40 : decode cX13_readDeed 40 = .ok (.bipush 12, 2) := by decide +kernel
theorem dX13_readDeed_42 : decode cX13_readDeed 42 = .ok (.if_icmp .ne 9, 3) := by decide +kernel
theorem dX13_readDeed_45 : decode cX13_readDeed 45 = .ok (.aload_n 0, 1) := by decide +kernel
theorem dX13_readDeed_46 : decode cX13_readDeed 46 = .ok (.invokevirtual 275, 3) := by decide +kernel
theorem dX13_readDeed_49 : decode cX13_readDeed 49 = .ok (.iconst (-1), 1) := by decide +kernel
theorem dX13_readDeed_50 : decode cX13_readDeed 50 = .ok (.ireturn, 1) := by decide +kernel
theorem dX13_readDeed_51 : decode cX13_readDeed 51 = .ok (.aload_n 0, 1) := by decide +kernel
theorem dX13_readDeed_52 : decode cX13_readDeed 52 = .ok (.iload_n 1, 1) := by decide +kernel
theorem dX13_readDeed_53 : decode cX13_readDeed 53 = .ok (.iconst 1, 1) := by decide +kernel
theorem dX13_readDeed_54 : decode cX13_readDeed 54 = .ok (.if_icmp .ne 7, 3) := by decide +kernel
theorem dX13_readDeed_57 : decode cX13_readDeed 57 = .ok (.iconst 2, 1) := by decide +kernel
theorem dX13_readDeed_58 : decode cX13_readDeed 58 = .ok (.goto 42, 3) := by decide +kernel
theorem dX13_readDeed_61 : decode cX13_readDeed 61 = .ok (.iload_n 1, 1) := by decide +kernel
theorem dX13_readDeed_62 : decode cX13_readDeed 62 = .ok (.iconst 3, 1) := by decide +kernel
theorem dX13_readDeed_63 : decode cX13_readDeed 63 = .ok (.if_icmp .ne 7, 3) := by decide +kernel
theorem dX13_readDeed_66 : decode cX13_readDeed 66 = .ok (.iconst 3, 1) := by decide +kernel
theorem dX13_readDeed_67 : decode cX13_readDeed 67 = .ok (.goto 33, 3) := by decide +kernel
theorem dX13_readDeed_70 : decode cX13_readDeed 70 = .ok (.iload_n 1, 1) := by decide +kernel
theorem dX13_readDeed_71 : decode cX13_readDeed 71 = .ok (.iconst 4, 1) := by decide +kernel
theorem dX13_readDeed_72 : decode cX13_readDeed 72 = .ok (.if_icmp .ne 7, 3) := by decide +kernel
theorem dX13_readDeed_75 : decode cX13_readDeed 75 = .ok (.iconst 4, 1) := by decide +kernel
theorem dX13_readDeed_76 : decode cX13_readDeed 76 = .ok (.goto 24, 3) := by decide +kernel
theorem dX13_readDeed_79 : decode cX13_readDeed 79 = .ok (.iload_n 1, 1) := by decide +kernel
theorem dX13_readDeed_80 : decode cX13_readDeed 80 = .ok (.iconst 5, 1) := by decide +kernel
theorem dX13_readDeed_81 : decode cX13_readDeed 81 = .ok (.if_icmp .ne 7, 3) := by decide +kernel
theorem dX13_readDeed_84 : decode cX13_readDeed 84 = .ok (.iconst 5, 1) := by decide +kernel
theorem dX13_readDeed_85 : decode cX13_readDeed 85 = .ok (.goto 15, 3) := by decide +kernel
theorem dX13_readDeed_88 : decode cX13_readDeed 88 = .ok (.iload_n 1, 1) := by decide +kernel
theorem dX13_readDeed_89 : decode cX13_readDeed 89 = .ok (.bipush 6, 2) := by decide +kernel
theorem dX13_readDeed_91 : decode cX13_readDeed 91 = .ok (.if_icmp .ne 8, 3) := by decide +kernel
theorem dX13_readDeed_94 : decode cX13_readDeed 94 = .ok (.bipush 6, 2) := by decide +kernel
theorem dX13_readDeed_96 : decode cX13_readDeed 96 = .ok (.goto 4, 3) := by decide +kernel
theorem dX13_readDeed_99 : decode cX13_readDeed 99 = .ok (.iconst 0, 1) := by decide +kernel
theorem dX13_readDeed_100 : decode cX13_readDeed 100 = .ok (.aload_n 0, 1) := by decide +kernel
theorem dX13_readDeed_101 : decode cX13_readDeed 101 = .ok (.getfield 217, 3) := by decide +kernel
theorem dX13_readDeed_104 : decode cX13_readDeed 104 = .ok (.invokevirtual 376, 3) := by decide +kernel
theorem dX13_readDeed_107 : decode cX13_readDeed 107 = .ok (.istore_n 2, 1) := by decide +kernel
theorem dX13_readDeed_108 : decode cX13_readDeed 108 = .ok (.aload_n 0, 1) := by decide +kernel
theorem dX13_readDeed_109 : decode cX13_readDeed 109 = .ok (.invokevirtual 265, 3) := by decide +kernel
theorem dX13_readDeed_112 : decode cX13_readDeed 112 = .ok (.ifCond .ne 5, 3) := by decide +kernel
theorem dX13_readDeed_115 : decode cX13_readDeed 115 = .ok (.iconst (-1), 1) := by decide +kernel
theorem dX13_readDeed_116 : decode cX13_readDeed 116 = .ok (.ireturn, 1) := by decide +kernel
theorem dX13_readDeed_117 : decode cX13_readDeed 117 = .ok (.aload_n 0, 1) := by decide +kernel
theorem dX13_readDeed_118 : decode cX13_readDeed 118 = .ok (.dup, 1) := by decide +kernel
theorem dX13_readDeed_119 : decode cX13_readDeed 119 = .ok (.getfield 297, 3) := by decide +kernel
theorem dX13_readDeed_122 : decode cX13_readDeed 122 = .ok (.iconst 1, 1) := by decide +kernel
theorem dX13_readDeed_123 : decode cX13_readDeed 123 = .ok (.iadd, 1) := by decide +kernel
theorem dX13_readDeed_124 : decode cX13_readDeed 124 = .ok (.putfield 297, 3) := by decide +kernel
theorem dX13_readDeed_127 : decode cX13_readDeed 127 = .ok (.aload_n 0, 1) := by decide +kernel
theorem dX13_readDeed_128 : decode cX13_readDeed 128 = .ok (.getfield 42, 3) := by decide +kernel
theorem dX13_readDeed_131 : decode cX13_readDeed 131 = .ok (.iload_n 2, 1) := by decide +kernel
theorem dX13_readDeed_132 : decode cX13_readDeed 132 = .ok (.lconst 0, 1) := by decide +kernel
theorem dX13_readDeed_133 : decode cX13_readDeed 133 = .ok (.lastore, 1) := by decide +kernel
theorem dX13_readDeed_134 : decode cX13_readDeed 134 = .ok (.aload_n 0, 1) := by decide +kernel
theorem dX13_readDeed_135 : decode cX13_readDeed 135 = .ok (.aload_n 0, 1) := by decide +kernel
theorem dX13_readDeed_136 : decode cX13_readDeed 136 = .ok (.getfield 357, 3) := by decide +kernel
theorem dX13_readDeed_139 : decode cX13_readDeed 139 = .ok (.putfield 369, 3) := by decide +kernel
theorem dX13_readDeed_142 : decode cX13_readDeed 142 = .ok (.aload_n 0, 1) := by decide +kernel
theorem dX13_readDeed_143 : decode cX13_readDeed 143 = .ok (.iload_n 2, 1) := by decide +kernel
theorem dX13_readDeed_144 : decode cX13_readDeed 144 = .ok (.invokevirtual 380, 3) := by decide +kernel
theorem dX13_readDeed_147 : decode cX13_readDeed 147 = .ok (.iload_n 1, 1) := by decide +kernel
theorem dX13_readDeed_148 : decode cX13_readDeed 148 = .ok (.ifCond .ge 10, 3) := by decide +kernel
theorem dX13_readDeed_151 : decode cX13_readDeed 151 = .ok (.aload_n 0, 1) := by decide +kernel
theorem dX13_readDeed_152 : decode cX13_readDeed 152 = .ok (.iload_n 2, 1) := by decide +kernel
theorem dX13_readDeed_153 : decode cX13_readDeed 153 = .ok (.invokevirtual 383, 3) := by decide +kernel
theorem dX13_readDeed_156 : decode cX13_readDeed 156 = .ok (.iload_n 2, 1) := by decide +kernel
theorem dX13_readDeed_157 : decode cX13_readDeed 157 = .ok (.ireturn, 1) := by decide +kernel
theorem dX13_readDeed_158 : decode cX13_readDeed 158 = .ok (.aload_n 0, 1) := by decide +kernel
theorem dX13_readDeed_159 : decode cX13_readDeed 159 = .ok (.invokevirtual 272, 3) := by decide +kernel
theorem dX13_readDeed_162 : decode cX13_readDeed 162 = .ok (.aload_n 0, 1) := by decide +kernel
theorem dX13_readDeed_163 : decode cX13_readDeed 163 = .ok (.getfield 27, 3) := by decide +kernel
theorem dX13_readDeed_166 : decode cX13_readDeed 166 = .ok (.iload_n 2, 1) := by decide +kernel
theorem dX13_readDeed_167 : decode cX13_readDeed 167 = .ok (.aload_n 0, 1) := by decide +kernel
theorem dX13_readDeed_168 : decode cX13_readDeed 168 = .ok (.invokevirtual 386, 3) := by decide +kernel
theorem dX13_readDeed_171 : decode cX13_readDeed 171 = .ok (.iastore, 1) := by decide +kernel
theorem dX13_readDeed_172 : decode cX13_readDeed 172 = .ok (.iload_n 1, 1) := by decide +kernel
theorem dX13_readDeed_173 : decode cX13_readDeed 173 = .ok (.iconst 3, 1) := by decide +kernel
theorem dX13_readDeed_174 : decode cX13_readDeed 174 = .ok (.if_icmp .le 12, 3) := by decide +kernel
theorem dX13_readDeed_177 : decode cX13_readDeed 177 = .ok (.aload_n 0, 1) := by decide +kernel
theorem dX13_readDeed_178 : decode cX13_readDeed 178 = .ok (.bipush 59, 2) := by decide +kernel
theorem dX13_readDeed_180 : decode cX13_readDeed 180 = .ok (.invokevirtual 281, 3) := by decide +kernel
theorem dX13_readDeed_183 : decode cX13_readDeed 183 = .ok (.goto 15, 3) := by decide +kernel
theorem dX13_readDeed_186 : decode cX13_readDeed 186 = .ok (.aload_n 0, 1) := by decide +kernel
theorem dX13_readDeed_187 : decode cX13_readDeed 187 = .ok (.bipush 123, 2) := by decide +kernel
theorem dX13_readDeed_189 : decode cX13_readDeed 189 = .ok (.invokevirtual 348, 3) := by decide +kernel
theorem dX13_readDeed_192 : decode cX13_readDeed 192 = .ok (.aload_n 0, 1) := by decide +kernel
theorem dX13_readDeed_193 : decode cX13_readDeed 193 = .ok (.iload_n 2, 1) := by decide +kernel
theorem dX13_readDeed_194 : decode cX13_readDeed 194 = .ok (.iconst 0, 1) := by decide +kernel
theorem dX13_readDeed_195 : decode cX13_readDeed 195 = .ok (.invokevirtual 372, 3) := by decide +kernel
theorem dX13_readDeed_198 : decode cX13_readDeed 198 = .ok (.iload_n 2, 1) := by decide +kernel
theorem dX13_readDeed_199 : decode cX13_readDeed 199 = .ok (.ireturn, 1) := by decide +kernel
theorem dX13_readSet_0 : decode cX13_readSet 0 = .ok (.bipush 13, 2) := by decide +kernel
theorem dX13_readSet_2 : decode cX13_readSet 2 = .ok (.aload_n 0, 1) := by decide +kernel
theorem dX13_readSet_3 : decode cX13_readSet 3 = .ok (.getfield 287, 3) := by decide +kernel
theorem dX13_readSet_6 : decode cX13_readSet 6 = .ok (.iadd, 1) := by decide +kernel
theorem dX13_readSet_7 : decode cX13_readSet 7 = .ok (.istore_n 2, 1) := by decide +kernel
theorem dX13_readSet_8 : decode cX13_readSet 8 = .ok (.aload_n 0, 1) := by decide +kernel
theorem dX13_readSet_9 : decode cX13_readSet 9 = .ok (.invokevirtual 389, 3) := by decide +kernel
theorem dX13_readSet_12 : decode cX13_readSet 12 = .ok (.istore_n 3, 1) := by decide +kernel
theorem dX13_readSet_13 : decode cX13_readSet 13 = .ok (.aload_n 0, 1) := by decide +kernel
theorem dX13_readSet_14 : decode cX13_readSet 14 = .ok (.invokevirtual 351, 3) := by decide +kernel
theorem dX13_readSet_17 : decode cX13_readSet 17 = .ok (.istore 4, 2) := by decide +kernel
theorem dX13_readSet_19 : decode cX13_readSet 19 = .ok (.aload_n 0, 1) := by decide +kernel
theorem dX13_readSet_20 : decode cX13_readSet 20 = .ok (.getfield 217, 3) := by decide +kernel
theorem dX13_readSet_23 : decode cX13_readSet 23 = .ok (.istore 5, 2) := by decide +kernel
theorem dX13_readSet_25 : decode cX13_readSet 25 = .ok (.aload_n 0, 1) := by decide +kernel
theorem dX13_readSet_26 : decode cX13_readSet 26 = .ok (.getfield 220, 3) := by decide +kernel
theorem dX13_readSet_29 : decode cX13_readSet 29 = .ok (.istore 6, 2) := by decide +kernel
theorem dX13_readSet_31 : decode cX13_readSet 31 = .ok (.iload_n 3, 1) := by decide +kernel
theorem dX13_readSet_32 : decode cX13_readSet 32 = .ok (.bipush 91, 2) := by decide +kernel
theorem dX13_readSet_34 : decode cX13_readSet 34 = .ok (.if_icmp .ne 20, 3) := by decide +kernel
theorem dX13_readSet_37 : decode cX13_readSet 37 = .ok (.iload 4, 2) := by decide +kernel
theorem dX13_readSet_39 : decode cX13_readSet 39 = .ok (.ifCond .ge 15, 3) := by decide +kernel
theorem dX13_readSet_42 : decode cX13_readSet 42 = .ok (.aload_n 0, 1) := by decide +kernel
theorem dX13_readSet_43 : decode cX13_readSet 43 = .ok (.iconst 5, 1) := by decide +kernel
theorem dX13_readSet_44 : decode cX13_readSet 44 = .ok (.aload_n 0, 1) := by decide +kernel
theorem dX13_readSet_45 : decode cX13_readSet 45 = .ok (.getfield 217, 3) := by decide +kernel
theorem dX13_readSet_48 : decode cX13_readSet 48 = .ok (.invokevirtual 261, 3) := by decide +kernel
theorem dX13_readSet_51 : decode cX13_readSet 51 = .ok (.goto 34, 3) := by decide +kernel
theorem dX13_readSet_54 : decode cX13_readSet 54 = .ok (.iload_n 3, 1) := by decide +kernel
theorem dX13_readSet_55 : decode cX13_readSet 55 = .ok (.bipush 61, 2) := by decide +kernel
theorem dX13_readSet_57 : decode cX13_readSet 57 = .ok (.if_icmp .ne 28, 3) := by decide +kernel
theorem dX13_readSet_60 : decode cX13_readSet 60 = .ok (.iload 4, 2) := by decide +kernel
theorem dX13_readSet_62 : decode cX13_readSet 62 = .ok (.ifCond .ge 23, 3) := by decide +kernel
theorem dX13_readSet_65 : decode cX13_readSet 65 = .ok (.aload_n 0, 1) := by decide +kernel
theorem dX13_readSet_66 : decode cX13_readSet 66 = .ok (.getfield 52, 3) := by decide +kernel
theorem dX13_readSet_69 : decode cX13_readSet 69 = .ok (.iload_n 2, 1) := by decide +kernel
theorem dX13_readSet_70 : decode cX13_readSet 70 = .ok (.iaload, 1) := by decide +kernel
theorem dX13_readSet_71 : decode cX13_readSet 71 = .ok (.bipush 20, 2) := by decide +kernel
theorem dX13_readSet_73 : decode cX13_readSet 73 = .ok (.if_icmp .ne 12, 3) := by decide +kernel
theorem dX13_readSet_76 : decode cX13_readSet 76 = .ok (.aload_n 0, 1) := by decide +kernel
theorem dX13_readSet_77 : decode cX13_readSet 77 = .ok (.iconst 3, 1) := by decide +kernel
theorem dX13_readSet_78 : decode cX13_readSet 78 = .ok (.aload_n 0, 1) := by decide +kernel
theorem dX13_readSet_79 : decode cX13_readSet 79 = .ok (.getfield 217, 3) := by decide +kernel
theorem dX13_readSet_82 : decode cX13_readSet 82 = .ok (.invokevirtual 261, 3) := by decide +kernel
theorem dX13_readSet_85 : decode cX13_readSet 85 = .ok (.aload_n 0, 1) := by decide +kernel
theorem dX13_readSet_86 : decode cX13_readSet 86 = .ok (.invokevirtual 265, 3) := by decide +kernel
theorem dX13_readSet_89 : decode cX13_readSet 89 = .ok (.ifCond .ne 4, 3) := by decide +kernel
theorem dX13_readSet_92 : decode cX13_readSet 92 = .ok (.return_, 1) := by decide +kernel
theorem dX13_readSet_93 : decode cX13_readSet 93 = .ok (.aload_n 0, 1) := by decide +kernel
theorem dX13_readSet_94 : decode cX13_readSet 94 = .ok (.invokevirtual 272, 3) := by decide +kernel
theorem dX13_readSet_97 : decode cX13_readSet 97 = .ok (.iload_n 3, 1) := by decide +kernel
theorem dX13_readSet_98 : decode cX13_readSet 98 = .ok (.bipush 91, 2) := by decide +kernel
theorem dX13_readSet_100 : decode cX13_readSet 100 = .ok (.if_icmp .ne 32, 3) := by decide +kernel
theorem dX13_readSet_103 : decode cX13_readSet 103 = .ok (.aload_n 0, 1) := by decide +kernel
theorem dX13_readSet_104 : decode cX13_readSet 104 = .ok (.getfield 23, 3) := by decide +kernel
theorem dX13_readSet_107 : decode cX13_readSet 107 = .ok (.iload_n 1, 1) := by decide +kernel
theorem dX13_readSet_108 : decode cX13_readSet 108 = .ok (.iconst 1, 1) := by decide +kernel
theorem dX13_readSet_109 : decode cX13_readSet 109 = .ok (.iastore, 1) := by decide +kernel
theorem dX13_readSet_110 : decode cX13_readSet 110 = .ok (.aload_n 0, 1) := by decide +kernel
theorem dX13_readSet_111 : decode cX13_readSet 111 = .ok (.bipush 91, 2) := by decide +kernel
theorem dX13_readSet_113 : decode cX13_readSet 113 = .ok (.invokevirtual 348, 3) := by decide +kernel
theorem dX13_readSet_116 : decode cX13_readSet 116 = .ok (.aload_n 0, 1) := by decide +kernel
theorem dX13_readSet_117 : decode cX13_readSet 117 = .ok (.getfield 30, 3) := by decide +kernel
theorem dX13_readSet_120 : decode cX13_readSet 120 = .ok (.iload_n 1, 1) := by decide +kernel
theorem dX13_readSet_121 : decode cX13_readSet 121 = .ok (.aload_n 0, 1) := by decide +kernel
theorem dX13_readSet_122 : decode cX13_readSet 122 = .ok (.invokevirtual 386, 3) := by decide +kernel
theorem dX13_readSet_125 : decode cX13_readSet 125 = .ok (.iastore, 1) := by decide +kernel
theorem dX13_readSet_126 : decode cX13_readSet 126 = .ok (.aload_n 0, 1) := by decide +kernel
theorem dX13_readSet_127 : decode cX13_readSet 127 = .ok (.bipush 93, 2) := by decide +kernel
theorem dX13_readSet_129 : decode cX13_readSet 129 = .ok (.invokevirtual 360, 3) := by decide +kernel
theorem dX13_readSet_132 : decode cX13_readSet 132 = .ok (.aload_n 0, 1) := by decide +kernel
theorem dX13_readSet_133 : decode cX13_readSet 133 = .ok (.bipush 61, 2) := by decide +kernel
theorem dX13_readSet_135 : decode cX13_readSet 135 = .ok (.invokevirtual 281, 3) := by decide +kernel
theorem dX13_readSet_138 : decode cX13_readSet 138 = .ok (.aload_n 0, 1) := by decide +kernel
theorem dX13_readSet_139 : decode cX13_readSet 139 = .ok (.getfield 33, 3) := by decide +kernel
theorem dX13_readSet_142 : decode cX13_readSet 142 = .ok (.iload_n 1, 1) := by decide +kernel
theorem dX13_readSet_143 : decode cX13_readSet 143 = .ok (.aload_n 0, 1) := by decide +kernel
theorem dX13_readSet_144 : decode cX13_readSet 144 = .ok (.invokevirtual 386, 3) := by decide +kernel
theorem dX13_readSet_147 : decode cX13_readSet 147 = .ok (.iastore, 1) := by decide +kernel
theorem dX13_readSet_148 : decode cX13_readSet 148 = .ok (.aload_n 0, 1) := by decide +kernel
theorem dX13_readSet_149 : decode cX13_readSet 149 = .ok (.bipush 59, 2) := by decide +kernel
theorem dX13_readSet_151 : decode cX13_readSet 151 = .ok (.invokevirtual 281, 3) := by decide +kernel
theorem dX13_readSet_154 : decode cX13_readSet 154 = .ok (.aload_n 0, 1) := by decide +kernel
theorem dX13_readSet_155 : decode cX13_readSet 155 = .ok (.invokevirtual 265, 3) := by decide +kernel
theorem dX13_readSet_158 : decode cX13_readSet 158 = .ok (.ifCond .eq 24, 3) := by decide +kernel
theorem dX13_readSet_161 : decode cX13_readSet 161 = .ok (.iload 4, 2) := by decide +kernel
theorem dX13_readSet_163 : decode cX13_readSet 163 = .ok (.ifCond .ge 19, 3) := by decide +kernel
theorem dX13_readSet_166 : decode cX13_readSet 166 = .ok (.aload_n 0, 1) := by decide +kernel
theorem dX13_readSet_167 : decode cX13_readSet 167 = .ok (.getfield 52, 3) := by decide +kernel
theorem dX13_readSet_170 : decode cX13_readSet 170 = .ok (.iload_n 2, 1) := by decide +kernel
theorem dX13_readSet_171 : decode cX13_readSet 171 = .ok (.iaload, 1) := by decide +kernel
theorem dX13_readSet_172 : decode cX13_readSet 172 = .ok (.istore 4, 2) := by decide +kernel
theorem dX13_readSet_174 : decode cX13_readSet 174 = .ok (.aload_n 0, 1) := by decide +kernel
theorem dX13_readSet_175 : decode cX13_readSet 175 = .ok (.iload 5, 2) := by decide +kernel
theorem dX13_readSet_177 : decode cX13_readSet 177 = .ok (.iload 6, 2) := by decide +kernel
theorem dX13_readSet_179 : decode cX13_readSet 179 = .ok (.invokevirtual 354, 3) := by decide +kernel
theorem dX13_readSet_182 : decode cX13_readSet 182 = .ok (.aload_n 0, 1) := by decide +kernel
theorem dX13_readSet_183 : decode cX13_readSet 183 = .ok (.getfield 27, 3) := by decide +kernel
theorem dX13_readSet_186 : decode cX13_readSet 186 = .ok (.iload_n 1, 1) := by decide +kernel
theorem dX13_readSet_187 : decode cX13_readSet 187 = .ok (.iload 4, 2) := by decide +kernel
theorem dX13_readSet_189 : decode cX13_readSet 189 = .ok (.iastore, 1) := by decide +kernel
theorem dX13_readSet_190 : decode cX13_readSet 190 = .ok (.return_, 1) := by decide +kernel
theorem dX13_wait_0 : decode cX13_wait 0 = .ok (.aload_n 0, 1) := by decide +kernel
theorem dX13_wait_1 : decode cX13_wait 1 = .ok (.getfield 81, 3) := by decide +kernel
theorem dX13_wait_4 : decode cX13_wait 4 = .ok (.aload_n 0, 1) := by decide +kernel
theorem dX13_wait_5 : decode cX13_wait 5 = .ok (.getfield 392, 3) := by decide +kernel
theorem dX13_wait_8 : decode cX13_wait 8 = .ok (.iload_n 1, 1) := by decide +kernel
theorem dX13_wait_9 : decode cX13_wait 9 = .ok (.iastore, 1) := by decide +kernel
theorem dX13_wait_10 : decode cX13_wait 10 = .ok (.aload_n 0, 1) := by decide +kernel
theorem dX13_wait_11 : decode cX13_wait 11 = .ok (.getfield 84, 3) := by decide +kernel
theorem dX13_wait_14 : decode cX13_wait 14 = .ok (.aload_n 0, 1) := by decide +kernel
theorem dX13_wait_15 : decode cX13_wait 15 = .ok (.getfield 392, 3) := by decide +kernel
theorem dX13_wait_18 : decode cX13_wait 18 = .ok (.iload_n 2, 1) := by decide +kernel
theorem dX13_wait_19 : decode cX13_wait 19 = .ok (.iastore, 1) := by decide +kernel
theorem dX13_wait_20 : decode cX13_wait 20 = .ok (.aload_n 0, 1) := by decide +kernel
theorem dX13_wait_21 : decode cX13_wait 21 = .ok (.getfield 87, 3) := by decide +kernel
theorem dX13_wait_24 : decode cX13_wait 24 = .ok (.aload_n 0, 1) := by decide +kernel
theorem dX13_wait_25 : decode cX13_wait 25 = .ok (.getfield 392, 3) := by decide +kernel
theorem dX13_wait_28 : decode cX13_wait 28 = .ok (.iconst 0, 1) := by decide +kernel
theorem dX13_wait_29 : decode cX13_wait 29 = .ok (.iastore, 1) := by decide +kernel
theorem dX13_wait_30 : decode cX13_wait 30 = .ok (.aload_n 0, 1) := by decide +kernel
theorem dX13_wait_31 : decode cX13_wait 31 = .ok (.getfield 90, 3) := by decide +kernel
theorem dX13_wait_34 : decode cX13_wait 34 = .ok (.aload_n 0, 1) := by decide +kernel
theorem dX13_wait_35 : decode cX13_wait 35 = .ok (.getfield 392, 3) := by decide +kernel
theorem dX13_wait_38 : decode cX13_wait 38 = .ok (.iconst (-1), 1) := by decide +kernel
theorem dX13_wait_39 : decode cX13_wait 39 = .ok (.iastore, 1) := by decide +kernel
theorem dX13_wait_40 : decode cX13_wait 40 = .ok (.aload_n 0, 1) := by decide +kernel
theorem dX13_wait_41 : decode cX13_wait 41 = .ok (.dup, 1) := by decide +kernel
theorem dX13_wait_42 : decode cX13_wait 42 = .ok (.getfield 392, 3) := by decide +kernel
theorem dX13_wait_45 : decode cX13_wait 45 = .ok (.iconst 1, 1) := by decide +kernel
theorem dX13_wait_46 : decode cX13_wait 46 = .ok (.iadd, 1) := by decide +kernel
theorem dX13_wait_47 : decode cX13_wait 47 = .ok (.putfield 392, 3) := by decide +kernel
theorem dX13_wait_50 : decode cX13_wait 50 = .ok (.return_, 1) := by decide +kernel
theorem dX13_rankOf_0 : decode cX13_rankOf 0 = .ok (.iload_n 0, 1) := by decide +kernel
theorem dX13_rankOf_1 : decode cX13_rankOf 1 = .ok (.bipush 61, 2) := by decide +kernel
theorem dX13_rankOf_3 : decode cX13_rankOf 3 = .ok (.if_icmp .eq 9, 3) := by decide +kernel
theorem dX13_rankOf_6 : decode cX13_rankOf 6 = .ok (.iload_n 0, 1) := by decide +kernel
theorem dX13_rankOf_7 : decode cX13_rankOf 7 = .ok (.bipush 60, 2) := by decide +kernel
theorem dX13_rankOf_9 : decode cX13_rankOf 9 = .ok (.if_icmp .ne 7, 3) := by decide +kernel
theorem dX13_rankOf_12 : decode cX13_rankOf 12 = .ok (.iconst 1, 1) := by decide +kernel
theorem dX13_rankOf_13 : decode cX13_rankOf 13 = .ok (.goto 36, 3) := by decide +kernel
theorem dX13_rankOf_16 : decode cX13_rankOf 16 = .ok (.iload_n 0, 1) := by decide +kernel
theorem dX13_rankOf_17 : decode cX13_rankOf 17 = .ok (.bipush 43, 2) := by decide +kernel
theorem dX13_rankOf_19 : decode cX13_rankOf 19 = .ok (.if_icmp .eq 9, 3) := by decide +kernel
theorem dX13_rankOf_22 : decode cX13_rankOf 22 = .ok (.iload_n 0, 1) := by decide +kernel
theorem dX13_rankOf_23 : decode cX13_rankOf 23 = .ok (.bipush 45, 2) := by decide +kernel
theorem dX13_rankOf_25 : decode cX13_rankOf 25 = .ok (.if_icmp .ne 7, 3) := by decide +kernel
theorem dX13_rankOf_28 : decode cX13_rankOf 28 = .ok (.iconst 2, 1) := by decide +kernel
theorem dX13_rankOf_29 : decode cX13_rankOf 29 = .ok (.goto 20, 3) := by decide +kernel
theorem dX13_rankOf_32 : decode cX13_rankOf 32 = .ok (.iload_n 0, 1) := by decide +kernel
theorem dX13_rankOf_33 : decode cX13_rankOf 33 = .ok (.bipush 42, 2) := by decide +kernel
theorem dX13_rankOf_35 : decode cX13_rankOf 35 = .ok (.if_icmp .eq 9, 3) := by decide +kernel
theorem dX13_rankOf_38 : decode cX13_rankOf 38 = .ok (.iload_n 0, 1) := by decide +kernel
theorem dX13_rankOf_39 : decode cX13_rankOf 39 = .ok (.bipush 47, 2) := by decide +kernel
theorem dX13_rankOf_41 : decode cX13_rankOf 41 = .ok (.if_icmp .ne 7, 3) := by decide +kernel
theorem dX13_rankOf_44 : decode cX13_rankOf 44 = .ok (.iconst 3, 1) := by decide +kernel
theorem dX13_rankOf_45 : decode cX13_rankOf 45 = .ok (.goto 4, 3) := by decide +kernel
theorem dX13_rankOf_48 : decode cX13_rankOf 48 = .ok (.iconst 0, 1) := by decide +kernel
theorem dX13_rankOf_49 : decode cX13_rankOf 49 = .ok (.ireturn, 1) := by decide +kernel
theorem dX13_readExp_0 : decode cX13_readExp 0 = .ok (.aload_n 0, 1) := by decide +kernel
theorem dX13_readExp_1 : decode cX13_readExp 1 = .ok (.iconst 0, 1) := by decide +kernel
theorem dX13_readExp_2 : decode cX13_readExp 2 = .ok (.putfield 392, 3) := by decide +kernel
theorem dX13_readExp_5 : decode cX13_readExp 5 = .ok (.aload_n 0, 1) := by decide +kernel
theorem dX13_readExp_6 : decode cX13_readExp 6 = .ok (.iconst 0, 1) := by decide +kernel
theorem dX13_readExp_7 : decode cX13_readExp 7 = .ok (.iconst (-1), 1) := by decide +kernel
theorem dX13_readExp_8 : decode cX13_readExp 8 = .ok (.invokevirtual 395, 3) := by decide +kernel
theorem dX13_readExp_11 : decode cX13_readExp 11 = .ok (.aload_n 0, 1) := by decide +kernel
theorem dX13_readExp_12 : decode cX13_readExp 12 = .ok (.iconst 1, 1) := by decide +kernel
theorem dX13_readExp_13 : decode cX13_readExp 13 = .ok (.putfield 398, 3) := by decide +kernel
theorem dX13_readExp_16 : decode cX13_readExp 16 = .ok (.aload_n 0, 1) := by decide +kernel
theorem dX13_readExp_17 : decode cX13_readExp 17 = .ok (.iconst (-1), 1) := by decide +kernel
theorem dX13_readExp_18 : decode cX13_readExp 18 = .ok (.putfield 401, 3) := by decide +kernel
theorem dX13_readExp_21 : decode cX13_readExp 21 = .ok (.iconst 1, 1) := by decide +kernel
theorem dX13_readExp_22 : decode cX13_readExp 22 = .ok (.istore_n 1, 1) := by decide +kernel
theorem dX13_readExp_23 : decode cX13_readExp 23 = .ok (.iload_n 1, 1) := by decide +kernel
theorem dX13_readExp_24 : decode cX13_readExp 24 = .ok (.ifCond .eq 32, 3) := by decide +kernel
theorem dX13_readExp_27 : decode cX13_readExp 27 = .ok (.aload_n 0, 1) := by decide +kernel
theorem dX13_readExp_28 : decode cX13_readExp 28 = .ok (.invokevirtual 265, 3) := by decide +kernel
theorem dX13_readExp_31 : decode cX13_readExp 31 = .ok (.ifCond .eq 25, 3) := by decide +kernel
theorem dX13_readExp_34 : decode cX13_readExp 34 = .ok (.aload_n 0, 1) := by decide +kernel
theorem dX13_readExp_35 : decode cX13_readExp 35 = .ok (.getfield 398, 3) := by decide +kernel
theorem dX13_readExp_38 : decode cX13_readExp 38 = .ok (.ifCond .eq 10, 3) := by decide +kernel
theorem dX13_readExp_41 : decode cX13_readExp 41 = .ok (.aload_n 0, 1) := by decide +kernel
theorem dX13_readExp_42 : decode cX13_readExp 42 = .ok (.invokevirtual 404, 3) := by decide +kernel
theorem dX13_readExp_45 : decode cX13_readExp 45 = .ok (.goto (-22), 3) := by decide +kernel
theorem dX13_readExp_48 : decode cX13_readExp 48 = .ok (.aload_n 0, 1) := by decide +kernel
theorem dX13_readExp_49 : decode cX13_readExp 49 = .ok (.invokevirtual 407, 3) := by decide +kernel
theorem dX13_readExp_52 : decode cX13_readExp 52 = .ok (.istore_n 1, 1) := by decide +kernel
theorem dX13_readExp_53 : decode cX13_readExp 53 = .ok (.goto (-30), 3) := by decide +kernel
theorem dX13_readExp_56 : decode cX13_readExp 56 = .ok (.aload_n 0, 1) := by decide +kernel
theorem dX13_readExp_57 : decode cX13_readExp 57 = .ok (.getfield 401, 3) := by decide +kernel
theorem dX13_readExp_60 : decode cX13_readExp 60 = .ok (.ireturn, 1) := by decide +kernel
theorem dX13_stand_0 : decode cX13_stand 0 = .ok (.aload_n 0, 1) := by decide +kernel
theorem dX13_stand_1 : decode cX13_stand 1 = .ok (.iload_n 1, 1) := by decide +kernel
theorem dX13_stand_2 : decode cX13_stand 2 = .ok (.putfield 401, 3) := by decide +kernel
theorem dX13_stand_5 : decode cX13_stand 5 = .ok (.aload_n 0, 1) := by decide +kernel
theorem dX13_stand_6 : decode cX13_stand 6 = .ok (.getfield 81, 3) := by decide +kernel
theorem dX13_stand_9 : decode cX13_stand 9 = .ok (.aload_n 0, 1) := by decide +kernel
theorem dX13_stand_10 : decode cX13_stand 10 = .ok (.getfield 392, 3) := by decide +kernel
theorem dX13_stand_13 : decode cX13_stand 13 = .ok (.iconst 1, 1) := by decide +kernel
theorem dX13_stand_14 : decode cX13_stand 14 = .ok (.isub, 1) := by decide +kernel
theorem dX13_stand_15 : decode cX13_stand 15 = .ok (.iaload, 1) := by decide +kernel
theorem dX13_stand_16 : decode cX13_stand 16 = .ok (.iconst 2, 1) := by decide +kernel
theorem dX13_stand_17 : decode cX13_stand 17 = .ok (.if_icmp .ne 47, 3) := by decide +kernel
theorem dX13_stand_20 : decode cX13_stand 20 = .ok (.aload_n 0, 1) := by decide +kernel
theorem dX13_stand_21 : decode cX13_stand 21 = .ok (.dup, 1) := by decide +kernel
theorem dX13_stand_22 : decode cX13_stand 22 = .ok (.getfield 392, 3) := by decide +kernel
theorem dX13_stand_25 : decode cX13_stand 25 = .ok (.iconst 1, 1) := by decide +kernel
theorem dX13_stand_26 : decode cX13_stand 26 = .ok (.isub, 1) := by decide +kernel
theorem dX13_stand_27 : decode cX13_stand 27 = .ok (.putfield 392, 3) := by decide +kernel
theorem dX13_stand_30 : decode cX13_stand 30 = .ok (.aload_n 0, 1) := by decide +kernel
theorem dX13_stand_31 : decode cX13_stand 31 = .ok (.getfield 27, 3) := by decide +kernel
theorem dX13_stand_34 : decode cX13_stand 34 = .ok (.aload_n 0, 1) := by decide +kernel
theorem dX13_stand_35 : decode cX13_stand 35 = .ok (.getfield 84, 3) := by decide +kernel
theorem dX13_stand_38 : decode cX13_stand 38 = .ok (.aload_n 0, 1) := by decide +kernel
theorem dX13_stand_39 : decode cX13_stand 39 = .ok (.getfield 392, 3) := by decide +kernel
theorem dX13_stand_42 : decode cX13_stand 42 = .ok (.iaload, 1) := by decide +kernel
theorem dX13_stand_43 : decode cX13_stand 43 = .ok (.aload_n 0, 1) := by decide +kernel
theorem dX13_stand_44 : decode cX13_stand 44 = .ok (.getfield 401, 3) := by decide +kernel
theorem dX13_stand_47 : decode cX13_stand 47 = .ok (.iastore, 1) := by decide +kernel
theorem dX13_stand_48 : decode cX13_stand 48 = .ok (.aload_n 0, 1) := by decide +kernel
theorem dX13_stand_49 : decode cX13_stand 49 = .ok (.aload_n 0, 1) := by decide +kernel
theorem dX13_stand_50 : decode cX13_stand 50 = .ok (.getfield 84, 3) := by decide +kernel
theorem dX13_stand_53 : decode cX13_stand 53 = .ok (.aload_n 0, 1) := by decide +kernel
theorem dX13_stand_54 : decode cX13_stand 54 = .ok (.getfield 392, 3) := by decide +kernel
theorem dX13_stand_57 : decode cX13_stand 57 = .ok (.iaload, 1) := by decide +kernel
theorem dX13_stand_58 : decode cX13_stand 58 = .ok (.putfield 401, 3) := by decide +kernel
theorem dX13_stand_61 : decode cX13_stand 61 = .ok (.goto (-56), 3) := by decide +kernel
theorem dX13_stand_64 : decode cX13_stand 64 = .ok (.aload_n 0, 1) := by decide +kernel
theorem dX13_stand_65 : decode cX13_stand 65 = .ok (.iconst 0, 1) := by decide +kernel
theorem dX13_stand_66 : decode cX13_stand 66 = .ok (.putfield 398, 3) := by decide +kernel
theorem dX13_stand_69 : decode cX13_stand 69 = .ok (.return_, 1) := by decide +kernel
theorem dX13_close_0 : decode cX13_close 0 = .ok (.aload_n 0, 1) := by decide +kernel
theorem dX13_close_1 : decode cX13_close 1 = .ok (.getfield 81, 3) := by decide +kernel
theorem dX13_close_4 : decode cX13_close 4 = .ok (.aload_n 0, 1) := by decide +kernel
theorem dX13_close_5 : decode cX13_close 5 = .ok (.getfield 392, 3) := by decide +kernel
theorem dX13_close_8 : decode cX13_close 8 = .ok (.iconst 1, 1) := by decide +kernel
theorem dX13_close_9 : decode cX13_close 9 = .ok (.isub, 1) := by decide +kernel
theorem dX13_close_10 : decode cX13_close 10 = .ok (.iaload, 1) := by decide +kernel
theorem dX13_close_11 : decode cX13_close 11 = .ok (.iconst 1, 1) := by decide +kernel
theorem dX13_close_12 : decode cX13_close 12 = .ok (.if_icmp .ne 70, 3) := by decide +kernel
theorem dX13_close_15 : decode cX13_close 15 = .ok (.aload_n 0, 1) := by decide +kernel
theorem dX13_close_16 : decode cX13_close 16 = .ok (.getfield 27, 3) := by decide +kernel
theorem dX13_close_19 : decode cX13_close 19 = .ok (.aload_n 0, 1) := by decide +kernel
theorem dX13_close_20 : decode cX13_close 20 = .ok (.getfield 84, 3) := by decide +kernel
theorem dX13_close_23 : decode cX13_close 23 = .ok (.aload_n 0, 1) := by decide +kernel
theorem dX13_close_24 : decode cX13_close 24 = .ok (.getfield 392, 3) := by decide +kernel
theorem dX13_close_27 : decode cX13_close 27 = .ok (.iconst 1, 1) := by decide +kernel
theorem dX13_close_28 : decode cX13_close 28 = .ok (.isub, 1) := by decide +kernel
theorem dX13_close_29 : decode cX13_close 29 = .ok (.iaload, 1) := by decide +kernel
theorem dX13_close_30 : decode cX13_close 30 = .ok (.iaload, 1) := by decide +kernel
theorem dX13_close_31 : decode cX13_close 31 = .ok (.invokestatic 410, 3) := by decide +kernel
theorem dX13_close_34 : decode cX13_close 34 = .ok (.iload_n 1, 1) := by decide +kernel
theorem dX13_close_35 : decode cX13_close 35 = .ok (.if_icmp .lt 47, 3) := by decide +kernel
theorem dX13_close_38 : decode cX13_close 38 = .ok (.aload_n 0, 1) := by decide +kernel
theorem dX13_close_39 : decode cX13_close 39 = .ok (.dup, 1) := by decide +kernel
theorem dX13_close_40 : decode cX13_close 40 = .ok (.getfield 392, 3) := by decide +kernel
theorem dX13_close_43 : decode cX13_close 43 = .ok (.iconst 1, 1) := by decide +kernel
theorem dX13_close_44 : decode cX13_close 44 = .ok (.isub, 1) := by decide +kernel
theorem dX13_close_45 : decode cX13_close 45 = .ok (.putfield 392, 3) := by decide +kernel
theorem dX13_close_48 : decode cX13_close 48 = .ok (.aload_n 0, 1) := by decide +kernel
theorem dX13_close_49 : decode cX13_close 49 = .ok (.getfield 33, 3) := by decide +kernel
theorem dX13_close_52 : decode cX13_close 52 = .ok (.aload_n 0, 1) := by decide +kernel
theorem dX13_close_53 : decode cX13_close 53 = .ok (.getfield 84, 3) := by decide +kernel
theorem dX13_close_56 : decode cX13_close 56 = .ok (.aload_n 0, 1) := by decide +kernel
theorem dX13_close_57 : decode cX13_close 57 = .ok (.getfield 392, 3) := by decide +kernel
theorem dX13_close_60 : decode cX13_close 60 = .ok (.iaload, 1) := by decide +kernel
theorem dX13_close_61 : decode cX13_close 61 = .ok (.aload_n 0, 1) := by decide +kernel
theorem dX13_close_62 : decode cX13_close 62 = .ok (.getfield 401, 3) := by decide +kernel
theorem dX13_close_65 : decode cX13_close 65 = .ok (.iastore, 1) := by decide +kernel
theorem dX13_close_66 : decode cX13_close 66 = .ok (.aload_n 0, 1) := by decide +kernel
theorem dX13_close_67 : decode cX13_close 67 = .ok (.aload_n 0, 1) := by decide +kernel
theorem dX13_close_68 : decode cX13_close 68 = .ok (.getfield 84, 3) := by decide +kernel
theorem dX13_close_71 : decode cX13_close 71 = .ok (.aload_n 0, 1) := by decide +kernel
theorem dX13_close_72 : decode cX13_close 72 = .ok (.getfield 392, 3) := by decide +kernel
theorem dX13_close_75 : decode cX13_close 75 = .ok (.iaload, 1) := by decide +kernel
theorem dX13_close_76 : decode cX13_close 76 = .ok (.putfield 401, 3) := by decide +kernel
theorem dX13_close_79 : decode cX13_close 79 = .ok (.goto (-79), 3) := by decide +kernel
theorem dX13_close_82 : decode cX13_close 82 = .ok (.return_, 1) := by decide +kernel
theorem dX13_readOne_0 : decode cX13_readOne 0 = .ok (.aload_n 0, 1) := by decide +kernel
theorem dX13_readOne_1 : decode cX13_readOne 1 = .ok (.bipush 40, 2) := by decide +kernel
theorem dX13_readOne_3 : decode cX13_readOne 3 = .ok (.invokevirtual 269, 3) := by decide +kernel
theorem dX13_readOne_6 : decode cX13_readOne 6 = .ok (.ifCond .eq 16, 3) := by decide +kernel
theorem dX13_readOne_9 : decode cX13_readOne 9 = .ok (.aload_n 0, 1) := by decide +kernel
theorem dX13_readOne_10 : decode cX13_readOne 10 = .ok (.bipush 40, 2) := by decide +kernel
theorem dX13_readOne_12 : decode cX13_readOne 12 = .ok (.invokevirtual 348, 3) := by decide +kernel
theorem dX13_readOne_15 : decode cX13_readOne 15 = .ok (.aload_n 0, 1) := by decide +kernel
theorem dX13_readOne_16 : decode cX13_readOne 16 = .ok (.iconst 3, 1) := by decide +kernel
theorem dX13_readOne_17 : decode cX13_readOne 17 = .ok (.iconst (-1), 1) := by decide +kernel
theorem dX13_readOne_18 : decode cX13_readOne 18 = .ok (.invokevirtual 395, 3) := by decide +kernel
theorem dX13_readOne_21 : decode cX13_readOne 21 = .ok (.return_, 1) := by decide +kernel
theorem dX13_readOne_22 : decode cX13_readOne 22 = .ok (.aload_n 0, 1) := by decide +kernel
theorem dX13_readOne_23 : decode cX13_readOne 23 = .ok (.bipush 45, 2) := by decide +kernel
theorem dX13_readOne_25 : decode cX13_readOne 25 = .ok (.invokevirtual 269, 3) := by decide +kernel
theorem dX13_readOne_28 : decode cX13_readOne 28 = .ok (.istore_n 1, 1) := by decide +kernel
theorem dX13_readOne_29 : decode cX13_readOne 29 = .ok (.iload_n 1, 1) := by decide +kernel
theorem dX13_readOne_30 : decode cX13_readOne 30 = .ok (.ifCond .ne 23, 3) := by decide +kernel
theorem dX13_readOne_33 : decode cX13_readOne 33 = .ok (.aload_n 0, 1) := by decide +kernel
theorem dX13_readOne_34 : decode cX13_readOne 34 = .ok (.getfield 223, 3) := by decide +kernel
theorem dX13_readOne_37 : decode cX13_readOne 37 = .ok (.iconst 2, 1) := by decide +kernel
theorem dX13_readOne_38 : decode cX13_readOne 38 = .ok (.if_icmp .eq 15, 3) := by decide +kernel
theorem dX13_readOne_41 : decode cX13_readOne 41 = .ok (.aload_n 0, 1) := by decide +kernel
theorem dX13_readOne_42 : decode cX13_readOne 42 = .ok (.invokevirtual 338, 3) := by decide +kernel
theorem dX13_readOne_45 : decode cX13_readOne 45 = .ok (.ifCond .ne 8, 3) := by decide +kernel
theorem dX13_readOne_48 : decode cX13_readOne 48 = .ok (.aload_n 0, 1) := by decide +kernel
theorem dX13_readOne_49 : decode cX13_readOne 49 = .ok (.invokevirtual 275, 3) := by decide +kernel
theorem dX13_readOne_52 : decode cX13_readOne 52 = .ok (.return_, 1) := by decide +kernel
theorem dX13_readOne_53 : decode cX13_readOne 53 = .ok (.aload_n 0, 1) := by decide +kernel
theorem dX13_readOne_54 : decode cX13_readOne 54 = .ok (.iload_n 1, 1) := by decide +kernel
theorem dX13_readOne_55 : decode cX13_readOne 55 = .ok (.ifCond .eq 8, 3) := by decide +kernel
theorem dX13_readOne_58 : decode cX13_readOne 58 = .ok (.bipush 11, 2) := by decide +kernel
theorem dX13_readOne_60 : decode cX13_readOne 60 = .ok (.goto 18, 3) := by decide +kernel
theorem dX13_readOne_63 : decode cX13_readOne 63 = .ok (.aload_n 0, 1) := by decide +kernel
theorem dX13_readOne_64 : decode cX13_readOne 64 = .ok (.getfield 223, 3) := by decide +kernel
theorem dX13_readOne_67 : decode cX13_readOne 67 = .ok (.iconst 2, 1) := by decide +kernel
theorem dX13_readOne_68 : decode cX13_readOne 68 = .ok (.if_icmp .ne 8, 3) := by decide +kernel
theorem dX13_readOne_71 : decode cX13_readOne 71 = .ok (.bipush 7, 2) := by decide +kernel
theorem dX13_readOne_73 : decode cX13_readOne 73 = .ok (.goto 5, 3) := by decide +kernel
theorem dX13_readOne_76 : decode cX13_readOne 76 = .ok (.bipush 8, 2) := by decide +kernel
theorem dX13_readOne_78 : decode cX13_readOne 78 = .ok (.aload_n 0, 1) := by decide +kernel
theorem dX13_readOne_79 : decode cX13_readOne 79 = .ok (.getfield 217, 3) := by decide +kernel
theorem dX13_readOne_82 : decode cX13_readOne 82 = .ok (.invokevirtual 376, 3) := by decide +kernel
theorem dX13_readOne_85 : decode cX13_readOne 85 = .ok (.istore_n 2, 1) := by decide +kernel
theorem dX13_readOne_86 : decode cX13_readOne 86 = .ok (.aload_n 0, 1) := by decide +kernel
theorem dX13_readOne_87 : decode cX13_readOne 87 = .ok (.invokevirtual 265, 3) := by decide +kernel
theorem dX13_readOne_90 : decode cX13_readOne 90 = .ok (.ifCond .ne 4, 3) := by decide +kernel
theorem dX13_readOne_93 : decode cX13_readOne 93 = .ok (.return_, 1) := by decide +kernel
theorem dX13_readOne_94 : decode cX13_readOne 94 = .ok (.iload_n 1, 1) := by decide +kernel
theorem dX13_readOne_95 : decode cX13_readOne 95 = .ok (.ifCond .eq 16, 3) := by decide +kernel
theorem dX13_readOne_98 : decode cX13_readOne 98 = .ok (.aload_n 0, 1) := by decide +kernel
theorem dX13_readOne_99 : decode cX13_readOne 99 = .ok (.invokevirtual 272, 3) := by decide +kernel
theorem dX13_readOne_102 : decode cX13_readOne 102 = .ok (.aload_n 0, 1) := by decide +kernel
theorem dX13_readOne_103 : decode cX13_readOne 103 = .ok (.iconst 2, 1) := by decide +kernel
theorem dX13_readOne_104 : decode cX13_readOne 104 = .ok (.iload_n 2, 1) := by decide +kernel
theorem dX13_readOne_105 : decode cX13_readOne 105 = .ok (.invokevirtual 395, 3) := by decide +kernel
theorem dX13_readOne_108 : decode cX13_readOne 108 = .ok (.goto 38, 3) := by decide +kernel
theorem dX13_readOne_111 : decode cX13_readOne 111 = .ok (.aload_n 0, 1) := by decide +kernel
theorem dX13_readOne_112 : decode cX13_readOne 112 = .ok (.getfield 223, 3) := by decide +kernel
theorem dX13_readOne_115 : decode cX13_readOne 115 = .ok (.iconst 2, 1) := by decide +kernel
theorem dX13_readOne_116 : decode cX13_readOne 116 = .ok (.if_icmp .ne 25, 3) := by decide +kernel
theorem dX13_readOne_119 : decode cX13_readOne 119 = .ok (.aload_n 0, 1) := by decide +kernel
theorem dX13_readOne_120 : decode cX13_readOne 120 = .ok (.getfield 42, 3) := by decide +kernel
theorem dX13_readOne_123 : decode cX13_readOne 123 = .ok (.iload_n 2, 1) := by decide +kernel
theorem dX13_readOne_124 : decode cX13_readOne 124 = .ok (.aload_n 0, 1) := by decide +kernel
theorem dX13_readOne_125 : decode cX13_readOne 125 = .ok (.getfield 236, 3) := by decide +kernel
theorem dX13_readOne_128 : decode cX13_readOne 128 = .ok (.lastore, 1) := by decide +kernel
theorem dX13_readOne_129 : decode cX13_readOne 129 = .ok (.aload_n 0, 1) := by decide +kernel
theorem dX13_readOne_130 : decode cX13_readOne 130 = .ok (.invokevirtual 272, 3) := by decide +kernel
theorem dX13_readOne_133 : decode cX13_readOne 133 = .ok (.aload_n 0, 1) := by decide +kernel
theorem dX13_readOne_134 : decode cX13_readOne 134 = .ok (.iload_n 2, 1) := by decide +kernel
theorem dX13_readOne_135 : decode cX13_readOne 135 = .ok (.invokevirtual 413, 3) := by decide +kernel
theorem dX13_readOne_138 : decode cX13_readOne 138 = .ok (.goto 8, 3) := by decide +kernel
theorem dX13_readOne_141 : decode cX13_readOne 141 = .ok (.aload_n 0, 1) := by decide +kernel
theorem dX13_readOne_142 : decode cX13_readOne 142 = .ok (.iload_n 2, 1) := by decide +kernel
theorem dX13_readOne_143 : decode cX13_readOne 143 = .ok (.invokevirtual 416, 3) := by decide +kernel
theorem dX13_readOne_146 : decode cX13_readOne 146 = .ok (.return_, 1) := by decide +kernel
theorem dX13_readNamed_0 : decode cX13_readNamed 0 = .ok (.aload_n 0, 1) := by decide +kernel
theorem dX13_readNamed_1 : decode cX13_readNamed 1 = .ok (.invokevirtual 389, 3) := by decide +kernel
theorem dX13_readNamed_4 : decode cX13_readNamed 4 = .ok (.istore_n 2, 1) := by decide +kernel
theorem dX13_readNamed_5 : decode cX13_readNamed 5 = .ok (.iload_n 2, 1) := by decide +kernel
theorem dX13_readNamed_6 : decode cX13_readNamed 6 = .ok (.bipush 40, 2) := by decide +kernel
theorem dX13_readNamed_8 : decode cX13_readNamed 8 = .ok (.if_icmp .ne 9, 3) := by decide +kernel
theorem dX13_readNamed_11 : decode cX13_readNamed 11 = .ok (.aload_n 0, 1) := by decide +kernel
theorem dX13_readNamed_12 : decode cX13_readNamed 12 = .ok (.iload_n 1, 1) := by decide +kernel
theorem dX13_readNamed_13 : decode cX13_readNamed 13 = .ok (.invokevirtual 419, 3) := by decide +kernel
theorem dX13_readNamed_16 : decode cX13_readNamed 16 = .ok (.return_, 1) := by decide +kernel
theorem dX13_readNamed_17 : decode cX13_readNamed 17 = .ok (.aload_n 0, 1) := by decide +kernel
theorem dX13_readNamed_18 : decode cX13_readNamed 18 = .ok (.getfield 27, 3) := by decide +kernel
theorem dX13_readNamed_21 : decode cX13_readNamed 21 = .ok (.iload_n 1, 1) := by decide +kernel
theorem dX13_readNamed_22 : decode cX13_readNamed 22 = .ok (.aload_n 0, 1) := by decide +kernel
theorem dX13_readNamed_23 : decode cX13_readNamed 23 = .ok (.invokevirtual 351, 3) := by decide +kernel
theorem dX13_readNamed_26 : decode cX13_readNamed 26 = .ok (.iastore, 1) := by decide +kernel
theorem dX13_readNamed_27 : decode cX13_readNamed 27 = .ok (.aload_n 0, 1) := by decide +kernel
theorem dX13_readNamed_28 : decode cX13_readNamed 28 = .ok (.getfield 27, 3) := by decide +kernel
theorem dX13_readNamed_31 : decode cX13_readNamed 31 = .ok (.iload_n 1, 1) := by decide +kernel
theorem dX13_readNamed_32 : decode cX13_readNamed 32 = .ok (.iaload, 1) := by decide +kernel
theorem dX13_readNamed_33 : decode cX13_readNamed 33 = .ok (.ifCond .ge 13, 3) := by decide +kernel
theorem dX13_readNamed_36 : decode cX13_readNamed 36 = .ok (.aload_n 0, 1) := by decide +kernel
theorem dX13_readNamed_37 : decode cX13_readNamed 37 = .ok (.iconst 5, 1) := by decide +kernel
theorem dX13_readNamed_38 : decode cX13_readNamed 38 = .ok (.aload_n 0, 1) := by decide +kernel
theorem dX13_readNamed_39 : decode cX13_readNamed 39 = .ok (.getfield 217, 3) := by decide +kernel
theorem dX13_readNamed_42 : decode cX13_readNamed 42 = .ok (.invokevirtual 261, 3) := by decide +kernel
theorem dX13_readNamed_45 : decode cX13_readNamed 45 = .ok (.return_, 1) := by decide +kernel
theorem dX13_readNamed_46 : decode cX13_readNamed 46 = .ok (.aload_n 0, 1) := by decide +kernel
theorem dX13_readNamed_47 : decode cX13_readNamed 47 = .ok (.invokevirtual 272, 3) := by decide +kernel
theorem dX13_readNamed_50 : decode cX13_readNamed 50 = .ok (.iload_n 2, 1) := by decide +kernel
theorem dX13_readNamed_51 : decode cX13_readNamed 51 = .ok (.bipush 91, 2) := by decide +kernel
theorem dX13_readNamed_53 : decode cX13_readNamed 53 = .ok (.if_icmp .ne 26, 3) := by decide +kernel
theorem dX13_readNamed_56 : decode cX13_readNamed 56 = .ok (.aload_n 0, 1) := by decide +kernel
theorem dX13_readNamed_57 : decode cX13_readNamed 57 = .ok (.getfield 23, 3) := by decide +kernel
theorem dX13_readNamed_60 : decode cX13_readNamed 60 = .ok (.iload_n 1, 1) := by decide +kernel
theorem dX13_readNamed_61 : decode cX13_readNamed 61 = .ok (.bipush 9, 2) := by decide +kernel
theorem dX13_readNamed_63 : decode cX13_readNamed 63 = .ok (.iastore, 1) := by decide +kernel
theorem dX13_readNamed_64 : decode cX13_readNamed 64 = .ok (.aload_n 0, 1) := by decide +kernel
theorem dX13_readNamed_65 : decode cX13_readNamed 65 = .ok (.bipush 91, 2) := by decide +kernel
theorem dX13_readNamed_67 : decode cX13_readNamed 67 = .ok (.invokevirtual 348, 3) := by decide +kernel
theorem dX13_readNamed_70 : decode cX13_readNamed 70 = .ok (.aload_n 0, 1) := by decide +kernel
theorem dX13_readNamed_71 : decode cX13_readNamed 71 = .ok (.iconst 5, 1) := by decide +kernel
theorem dX13_readNamed_72 : decode cX13_readNamed 72 = .ok (.iload_n 1, 1) := by decide +kernel
theorem dX13_readNamed_73 : decode cX13_readNamed 73 = .ok (.invokevirtual 395, 3) := by decide +kernel
theorem dX13_readNamed_76 : decode cX13_readNamed 76 = .ok (.goto 8, 3) := by decide +kernel
theorem dX13_readNamed_79 : decode cX13_readNamed 79 = .ok (.aload_n 0, 1) := by decide +kernel
theorem dX13_readNamed_80 : decode cX13_readNamed 80 = .ok (.iload_n 1, 1) := by decide +kernel
theorem dX13_readNamed_81 : decode cX13_readNamed 81 = .ok (.invokevirtual 413, 3) := by decide +kernel
theorem dX13_readNamed_84 : decode cX13_readNamed 84 = .ok (.return_, 1) := by decide +kernel
theorem dX13_wantedBy_0 : decode cX13_wantedBy 0 = .ok (.iload_n 0, 1) := by decide +kernel
theorem dX13_wantedBy_1 : decode cX13_wantedBy 1 = .ok (.bipush 13, 2) := by decide +kernel
theorem dX13_wantedBy_3 : decode cX13_wantedBy 3 = .ok (.if_icmp .ge 7, 3) := by decide +kernel
theorem dX13_wantedBy_6 : decode cX13_wantedBy 6 = .ok (.iconst 1, 1) := by decide +kernel
theorem dX13_wantedBy_7 : decode cX13_wantedBy 7 = .ok (.goto 14, 3) := by decide +kernel
theorem dX13_wantedBy_10 : decode cX13_wantedBy 10 = .ok (.iload_n 0, 1) := by decide +kernel
theorem dX13_wantedBy_11 : decode cX13_wantedBy 11 = .ok (.bipush 35, 2) := by decide +kernel
theorem dX13_wantedBy_13 : decode cX13_wantedBy 13 = .ok (.if_icmp .ge 7, 3) := by decide +kernel
theorem dX13_wantedBy_16 : decode cX13_wantedBy 16 = .ok (.iconst 2, 1) := by decide +kernel
theorem dX13_wantedBy_17 : decode cX13_wantedBy 17 = .ok (.goto 4, 3) := by decide +kernel
theorem dX13_wantedBy_20 : decode cX13_wantedBy 20 = .ok (.iconst 3, 1) := by decide +kernel
theorem dX13_wantedBy_21 : decode cX13_wantedBy 21 = .ok (.ireturn, 1) := by decide +kernel
theorem dX13_readCall_0 : decode cX13_readCall 0 = .ok (.aload_n 0, 1) := by decide +kernel
theorem dX13_readCall_1 : decode cX13_readCall 1 = .ok (.aload_n 0, 1) := by decide +kernel
theorem dX13_readCall_2 : decode cX13_readCall 2 = .ok (.getfield 17, 3) := by decide +kernel
theorem dX13_readCall_5 : decode cX13_readCall 5 = .ok (.invokevirtual 251, 3) := by decide +kernel
theorem dX13_readCall_8 : decode cX13_readCall 8 = .ok (.istore_n 2, 1) := by decide +kernel
theorem dX13_readCall_9 : decode cX13_readCall 9 = .ok (.iload_n 2, 1) := by decide +kernel
theorem dX13_readCall_10 : decode cX13_readCall 10 = .ok (.ifCond .ge 10, 3) := by decide +kernel
theorem dX13_readCall_13 : decode cX13_readCall 13 = .ok (.aload_n 0, 1) := by decide +kernel
theorem dX13_readCall_14 : decode cX13_readCall 14 = .ok (.invokevirtual 341, 3) := by decide +kernel
theorem dX13_readCall_17 : decode cX13_readCall 17 = .ok (.goto 4, 3) := by decide +kernel
theorem dX13_readCall_20 : decode cX13_readCall 20 = .ok (.iconst (-1), 1) := by decide +kernel
theorem dX13_readCall_21 : decode cX13_readCall 21 = .ok (.istore_n 3, 1) := by decide +kernel
theorem dX13_readCall_22 : decode cX13_readCall 22 = .ok (.iload_n 2, 1) := by decide +kernel
theorem dX13_readCall_23 : decode cX13_readCall 23 = .ok (.ifCond .ge 17, 3) := by decide +kernel
theorem dX13_readCall_26 : decode cX13_readCall 26 = .ok (.iload_n 3, 1) := by decide +kernel
theorem dX13_readCall_27 : decode cX13_readCall 27 = .ok (.ifCond .ge 13, 3) := by decide +kernel
theorem dX13_readCall_30 : decode cX13_readCall 30 = .ok (.aload_n 0, 1) := by decide +kernel
theorem dX13_readCall_31 : decode cX13_readCall 31 = .ok (.iconst 5, 1) := by decide +kernel
theorem dX13_readCall_32 : decode cX13_readCall 32 = .ok (.aload_n 0, 1) := by decide +kernel
theorem dX13_readCall_33 : decode cX13_readCall 33 = .ok (.getfield 217, 3) := by decide +kernel
theorem dX13_readCall_36 : decode cX13_readCall 36 = .ok (.invokevirtual 261, 3) := by decide +kernel
theorem dX13_readCall_39 : decode cX13_readCall 39 = .ok (.return_, 1) := by decide +kernel
theorem dX13_readCall_40 : decode cX13_readCall 40 = .ok (.aload_n 0, 1) := by decide +kernel
theorem dX13_readCall_41 : decode cX13_readCall 41 = .ok (.getfield 23, 3) := by decide +kernel
theorem dX13_readCall_44 : decode cX13_readCall 44 = .ok (.iload_n 1, 1) := by decide +kernel
theorem dX13_readCall_45 : decode cX13_readCall 45 = .ok (.bipush 10, 2) := by decide +kernel
theorem dX13_readCall_47 : decode cX13_readCall 47 = .ok (.iastore, 1) := by decide +kernel
theorem dX13_readCall_48 : decode cX13_readCall 48 = .ok (.aload_n 0, 1) := by decide +kernel
theorem dX13_readCall_49 : decode cX13_readCall 49 = .ok (.getfield 27, 3) := by decide +kernel
theorem dX13_readCall_52 : decode cX13_readCall 52 = .ok (.iload_n 1, 1) := by decide +kernel
theorem dX13_readCall_53 : decode cX13_readCall 53 = .ok (.iload_n 2, 1) := by decide +kernel
theorem dX13_readCall_54 : decode cX13_readCall 54 = .ok (.ifCond .lt 7, 3) := by decide +kernel
theorem dX13_readCall_57 : decode cX13_readCall 57 = .ok (.iload_n 2, 1) := by decide +kernel
theorem dX13_readCall_58 : decode cX13_readCall 58 = .ok (.goto 7, 3) := by decide +kernel
theorem dX13_readCall_61 : decode cX13_readCall 61 = .ok (.bipush 100, 2) := by decide +kernel
theorem dX13_readCall_63 : decode cX13_readCall 63 = .ok (.iload_n 3, 1) := by decide +kernel
theorem dX13_readCall_64 : decode cX13_readCall 64 = .ok (.iadd, 1) := by decide +kernel
theorem dX13_readCall_65 : decode cX13_readCall 65 = .ok (.iastore, 1) := by decide +kernel
theorem dX13_readCall_66 : decode cX13_readCall 66 = .ok (.aload_n 0, 1) := by decide +kernel
theorem dX13_readCall_67 : decode cX13_readCall 67 = .ok (.invokevirtual 272, 3) := by decide +kernel
theorem dX13_readCall_70 : decode cX13_readCall 70 = .ok (.aload_n 0, 1) := by decide +kernel
theorem dX13_readCall_71 : decode cX13_readCall 71 = .ok (.bipush 40, 2) := by decide +kernel
theorem dX13_readCall_73 : decode cX13_readCall 73 = .ok (.invokevirtual 348, 3) := by decide +kernel
theorem dX13_readCall_76 : decode cX13_readCall 76 = .ok (.aload_n 0, 1) := by decide +kernel
theorem dX13_readCall_77 : decode cX13_readCall 77 = .ok (.iconst 4, 1) := by decide +kernel
theorem dX13_readCall_78 : decode cX13_readCall 78 = .ok (.iload_n 1, 1) := by decide +kernel
theorem dX13_readCall_79 : decode cX13_readCall 79 = .ok (.invokevirtual 395, 3) := by decide +kernel
theorem dX13_readCall_82 : decode cX13_readCall 82 = .ok (.aload_n 0, 1) := by decide +kernel
theorem dX13_readCall_83 : decode cX13_readCall 83 = .ok (.invokevirtual 265, 3) := by decide +kernel
theorem dX13_readCall_86 : decode cX13_readCall 86 = .ok (.ifCond .eq 16, 3) := by decide +kernel
theorem dX13_readCall_89 : decode cX13_readCall 89 = .ok (.aload_n 0, 1) := by decide +kernel
theorem dX13_readCall_90 : decode cX13_readCall 90 = .ok (.bipush 41, 2) := by decide +kernel
theorem dX13_readCall_92 : decode cX13_readCall 92 = .ok (.invokevirtual 269, 3) := by decide +kernel
theorem dX13_readCall_95 : decode cX13_readCall 95 = .ok (.ifCond .eq 7, 3) := by decide +kernel
theorem dX13_readCall_98 : decode cX13_readCall 98 = .ok (.aload_n 0, 1) := by decide +kernel
theorem dX13_readCall_99 : decode cX13_readCall 99 = .ok (.invokevirtual 422, 3) := by decide +kernel
theorem dX13_readCall_102 : decode cX13_readCall 102 = .ok (.return_, 1) := by decide +kernel
theorem dX13_endCall_0 : decode cX13_endCall 0 = .ok (.aload_n 0, 1) := by decide +kernel
theorem dX13_endCall_1 : decode cX13_endCall 1 = .ok (.dup, 1) := by decide +kernel
theorem dX13_endCall_2 : decode cX13_endCall 2 = .ok (.getfield 392, 3) := by decide +kernel
theorem dX13_endCall_5 : decode cX13_endCall 5 = .ok (.iconst 1, 1) := by decide +kernel
theorem dX13_endCall_6 : decode cX13_endCall 6 = .ok (.isub, 1) := by decide +kernel
theorem dX13_endCall_7 : decode cX13_endCall 7 = .ok (.putfield 392, 3) := by decide +kernel
theorem dX13_endCall_10 : decode cX13_endCall 10 = .ok (.aload_n 0, 1) := by decide +kernel
theorem dX13_endCall_11 : decode cX13_endCall 11 = .ok (.getfield 84, 3) := by decide +kernel
theorem dX13_endCall_14 : decode cX13_endCall 14 = .ok (.aload_n 0, 1) := by decide +kernel
theorem dX13_endCall_15 : decode cX13_endCall 15 = .ok (.getfield 392, 3) := by decide +kernel
theorem dX13_endCall_18 : decode cX13_endCall 18 = .ok (.iaload, 1) := by decide +kernel
theorem dX13_endCall_19 : decode cX13_endCall 19 = .ok (.istore_n 1, 1) := by decide +kernel
theorem dX13_endCall_20 : decode cX13_endCall 20 = .ok (.aload_n 0, 1) := by decide +kernel
theorem dX13_endCall_21 : decode cX13_endCall 21 = .ok (.getfield 87, 3) := by decide +kernel
theorem dX13_endCall_24 : decode cX13_endCall 24 = .ok (.aload_n 0, 1) := by decide +kernel
theorem dX13_endCall_25 : decode cX13_endCall 25 = .ok (.getfield 392, 3) := by decide +kernel
theorem dX13_endCall_28 : decode cX13_endCall 28 = .ok (.iaload, 1) := by decide +kernel
theorem dX13_endCall_29 : decode cX13_endCall 29 = .ok (.istore_n 2, 1) := by decide +kernel
theorem dX13_endCall_30 : decode cX13_endCall 30 = .ok (.aload_n 0, 1) := by decide +kernel
theorem dX13_endCall_31 : decode cX13_endCall 31 = .ok (.bipush 41, 2) := by decide +kernel
theorem dX13_endCall_33 : decode cX13_endCall 33 = .ok (.invokevirtual 360, 3) := by decide +kernel
theorem dX13_endCall_36 : decode cX13_endCall 36 = .ok (.aload_n 0, 1) := by decide +kernel
theorem dX13_endCall_37 : decode cX13_endCall 37 = .ok (.invokevirtual 265, 3) := by decide +kernel
theorem dX13_endCall_40 : decode cX13_endCall 40 = .ok (.ifCond .eq 59, 3) := by decide +kernel
theorem dX13_endCall_43 : decode cX13_endCall 43 = .ok (.iload_n 2, 1) := by decide +kernel
theorem dX13_endCall_44 : decode cX13_endCall 44 = .ok (.aload_n 0, 1) := by decide +kernel
theorem dX13_endCall_45 : decode cX13_endCall 45 = .ok (.getfield 27, 3) := by decide +kernel
theorem dX13_endCall_48 : decode cX13_endCall 48 = .ok (.iload_n 1, 1) := by decide +kernel
theorem dX13_endCall_49 : decode cX13_endCall 49 = .ok (.iaload, 1) := by decide +kernel
theorem dX13_endCall_50 : decode cX13_endCall 50 = .ok (.bipush 100, 2) := by decide +kernel
theorem dX13_endCall_52 : decode cX13_endCall 52 = .ok (.if_icmp .ge 15, 3) := by decide +kernel
theorem dX13_endCall_55 : decode cX13_endCall 55 = .ok (.aload_n 0, 1) := by decide +kernel
theorem dX13_endCall_56 : decode cX13_endCall 56 = .ok (.getfield 27, 3) := by decide +kernel
theorem dX13_endCall_59 : decode cX13_endCall 59 = .ok (.iload_n 1, 1) := by decide +kernel
theorem dX13_endCall_60 : decode cX13_endCall 60 = .ok (.iaload, 1) := by decide +kernel
theorem dX13_endCall_61 : decode cX13_endCall 61 = .ok (.invokestatic 425, 3) := by decide +kernel
theorem dX13_endCall_64 : decode cX13_endCall 64 = .ok (.goto 20, 3) := by decide +kernel
theorem dX13_endCall_67 : decode cX13_endCall 67 = .ok (.aload_n 0, 1) := by decide +kernel
theorem dX13_endCall_68 : decode cX13_endCall 68 = .ok (.getfield 55, 3) := by decide +kernel
theorem dX13_endCall_71 : decode cX13_endCall 71 = .ok (.bipush 13, 2) := by decide +kernel
theorem dX13_endCall_73 : decode cX13_endCall 73 = .ok (.aload_n 0, 1) := by decide +kernel
theorem dX13_endCall_74 : decode cX13_endCall 74 = .ok (.getfield 27, 3) := by decide +kernel
theorem dX13_endCall_77 : decode cX13_endCall 77 = .ok (.iload_n 1, 1) := by decide +kernel
theorem dX13_endCall_78 : decode cX13_endCall 78 = .ok (.iaload, 1) := by decide +kernel
theorem dX13_endCall_79 : decode cX13_endCall 79 = .ok (.iadd, 1) := by decide +kernel
theorem dX13_endCall_80 : decode cX13_endCall 80 = .ok (.bipush 100, 2) := by decide +kernel
theorem dX13_endCall_82 : decode cX13_endCall 82 = .ok (.isub, 1) := by decide +kernel
theorem dX13_endCall_83 : decode cX13_endCall 83 = .ok (.iaload, 1) := by decide +kernel
theorem dX13_endCall_84 : decode cX13_endCall 84 = .ok (.if_icmp .eq 15, 3) := by decide +kernel
theorem dX13_endCall_87 : decode cX13_endCall 87 = .ok (.aload_n 0, 1) := by decide +kernel
theorem dX13_endCall_88 : decode cX13_endCall 88 = .ok (.bipush 6, 2) := by decide +kernel
theorem dX13_endCall_90 : decode cX13_endCall 90 = .ok (.aload_n 0, 1) := by decide +kernel
theorem dX13_endCall_91 : decode cX13_endCall 91 = .ok (.getfield 36, 3) := by decide +kernel
theorem dX13_endCall_94 : decode cX13_endCall 94 = .ok (.iload_n 1, 1) := by decide +kernel
theorem dX13_endCall_95 : decode cX13_endCall 95 = .ok (.iaload, 1) := by decide +kernel
theorem dX13_endCall_96 : decode cX13_endCall 96 = .ok (.invokevirtual 261, 3) := by decide +kernel
theorem dX13_endCall_99 : decode cX13_endCall 99 = .ok (.aload_n 0, 1) := by decide +kernel
theorem dX13_endCall_100 : decode cX13_endCall 100 = .ok (.iload_n 1, 1) := by decide +kernel
theorem dX13_endCall_101 : decode cX13_endCall 101 = .ok (.invokevirtual 413, 3) := by decide +kernel
theorem dX13_endCall_104 : decode cX13_endCall 104 = .ok (.return_, 1) := by decide +kernel
theorem dX13_argue_0 : decode cX13_argue 0 = .ok (.aload_n 0, 1) := by decide +kernel
theorem dX13_argue_1 : decode cX13_argue 1 = .ok (.getfield 392, 3) := by decide +kernel
theorem dX13_argue_4 : decode cX13_argue 4 = .ok (.iconst 1, 1) := by decide +kernel
theorem dX13_argue_5 : decode cX13_argue 5 = .ok (.isub, 1) := by decide +kernel
theorem dX13_argue_6 : decode cX13_argue 6 = .ok (.istore_n 1, 1) := by decide +kernel
theorem dX13_argue_7 : decode cX13_argue 7 = .ok (.aload_n 0, 1) := by decide +kernel
theorem dX13_argue_8 : decode cX13_argue 8 = .ok (.getfield 90, 3) := by decide +kernel
theorem dX13_argue_11 : decode cX13_argue 11 = .ok (.iload_n 1, 1) := by decide +kernel
theorem dX13_argue_12 : decode cX13_argue 12 = .ok (.iaload, 1) := by decide +kernel
theorem dX13_argue_13 : decode cX13_argue 13 = .ok (.ifCond .ge 21, 3) := by decide +kernel
theorem dX13_argue_16 : decode cX13_argue 16 = .ok (.aload_n 0, 1) := by decide +kernel
theorem dX13_argue_17 : decode cX13_argue 17 = .ok (.getfield 30, 3) := by decide +kernel
theorem dX13_argue_20 : decode cX13_argue 20 = .ok (.aload_n 0, 1) := by decide +kernel
theorem dX13_argue_21 : decode cX13_argue 21 = .ok (.getfield 84, 3) := by decide +kernel
theorem dX13_argue_24 : decode cX13_argue 24 = .ok (.iload_n 1, 1) := by decide +kernel
theorem dX13_argue_25 : decode cX13_argue 25 = .ok (.iaload, 1) := by decide +kernel
theorem dX13_argue_26 : decode cX13_argue 26 = .ok (.aload_n 0, 1) := by decide +kernel
theorem dX13_argue_27 : decode cX13_argue 27 = .ok (.getfield 401, 3) := by decide +kernel
theorem dX13_argue_30 : decode cX13_argue 30 = .ok (.iastore, 1) := by decide +kernel
theorem dX13_argue_31 : decode cX13_argue 31 = .ok (.goto 18, 3) := by decide +kernel
theorem dX13_argue_34 : decode cX13_argue 34 = .ok (.aload_n 0, 1) := by decide +kernel
theorem dX13_argue_35 : decode cX13_argue 35 = .ok (.getfield 39, 3) := by decide +kernel
theorem dX13_argue_38 : decode cX13_argue 38 = .ok (.aload_n 0, 1) := by decide +kernel
theorem dX13_argue_39 : decode cX13_argue 39 = .ok (.getfield 90, 3) := by decide +kernel
theorem dX13_argue_42 : decode cX13_argue 42 = .ok (.iload_n 1, 1) := by decide +kernel
theorem dX13_argue_43 : decode cX13_argue 43 = .ok (.iaload, 1) := by decide +kernel
theorem dX13_argue_44 : decode cX13_argue 44 = .ok (.aload_n 0, 1) := by decide +kernel
theorem dX13_argue_45 : decode cX13_argue 45 = .ok (.getfield 401, 3) := by decide +kernel
theorem dX13_argue_48 : decode cX13_argue 48 = .ok (.iastore, 1) := by decide +kernel
theorem dX13_argue_49 : decode cX13_argue 49 = .ok (.aload_n 0, 1) := by decide +kernel
theorem dX13_argue_50 : decode cX13_argue 50 = .ok (.getfield 90, 3) := by decide +kernel
theorem dX13_argue_53 : decode cX13_argue 53 = .ok (.iload_n 1, 1) := by decide +kernel
theorem dX13_argue_54 : decode cX13_argue 54 = .ok (.aload_n 0, 1) := by decide +kernel
theorem dX13_argue_55 : decode cX13_argue 55 = .ok (.getfield 401, 3) := by decide +kernel
theorem dX13_argue_58 : decode cX13_argue 58 = .ok (.iastore, 1) := by decide +kernel
theorem dX13_argue_59 : decode cX13_argue 59 = .ok (.aload_n 0, 1) := by decide +kernel
theorem dX13_argue_60 : decode cX13_argue 60 = .ok (.getfield 87, 3) := by decide +kernel
theorem dX13_argue_63 : decode cX13_argue 63 = .ok (.iload_n 1, 1) := by decide +kernel
theorem dX13_argue_64 : decode cX13_argue 64 = .ok (.dup2, 1) := by decide +kernel
theorem dX13_argue_65 : decode cX13_argue 65 = .ok (.iaload, 1) := by decide +kernel
theorem dX13_argue_66 : decode cX13_argue 66 = .ok (.iconst 1, 1) := by decide +kernel
theorem dX13_argue_67 : decode cX13_argue 67 = .ok (.iadd, 1) := by decide +kernel
theorem dX13_argue_68 : decode cX13_argue 68 = .ok (.iastore, 1) := by decide +kernel
theorem dX13_argue_69 : decode cX13_argue 69 = .ok (.return_, 1) := by decide +kernel
theorem dX13_readBehind_0 : decode cX13_readBehind 0 = .ok (.aload_n 0, 1) := by decide +kernel
theorem dX13_readBehind_1 : decode cX13_readBehind 1 = .ok (.getfield 223, 3) := by decide +kernel
theorem dX13_readBehind_4 : decode cX13_readBehind 4 = .ok (.iconst 3, 1) := by decide +kernel
theorem dX13_readBehind_5 : decode cX13_readBehind 5 = .ok (.if_icmp .ne 13, 3) := by decide +kernel
theorem dX13_readBehind_8 : decode cX13_readBehind 8 = .ok (.aload_n 0, 1) := by decide +kernel
theorem dX13_readBehind_9 : decode cX13_readBehind 9 = .ok (.getfield 242, 3) := by decide +kernel
theorem dX13_readBehind_12 : decode cX13_readBehind 12 = .ok (.invokestatic 410, 3) := by decide +kernel
theorem dX13_readBehind_15 : decode cX13_readBehind 15 = .ok (.goto 4, 3) := by decide +kernel
theorem dX13_readBehind_18 : decode cX13_readBehind 18 = .ok (.iconst 0, 1) := by decide +kernel
theorem dX13_readBehind_19 : decode cX13_readBehind 19 = .ok (.istore_n 1, 1) := by decide +kernel
theorem dX13_readBehind_20 : decode cX13_readBehind 20 = .ok (.iload_n 1, 1) := by decide +kernel
theorem dX13_readBehind_21 : decode cX13_readBehind 21 = .ok (.ifCond .le 98, 3) := by decide +kernel
theorem dX13_readBehind_24 : decode cX13_readBehind 24 = .ok (.aload_n 0, 1) := by decide +kernel
theorem dX13_readBehind_25 : decode cX13_readBehind 25 = .ok (.iload_n 1, 1) := by decide +kernel
theorem dX13_readBehind_26 : decode cX13_readBehind 26 = .ok (.iconst 1, 1) := by decide +kernel
theorem dX13_readBehind_27 : decode cX13_readBehind 27 = .ok (.if_icmp .ne 7, 3) := by decide +kernel
theorem dX13_readBehind_30 : decode cX13_readBehind 30 = .ok (.iconst 2, 1) := by decide +kernel
theorem dX13_readBehind_31 : decode cX13_readBehind 31 = .ok (.goto 4, 3) := by decide +kernel
theorem dX13_readBehind_34 : decode cX13_readBehind 34 = .ok (.iload_n 1, 1) := by decide +kernel
theorem dX13_readBehind_35 : decode cX13_readBehind 35 = .ok (.invokevirtual 428, 3) := by decide +kernel
theorem dX13_readBehind_38 : decode cX13_readBehind 38 = .ok (.iload_n 1, 1) := by decide +kernel
theorem dX13_readBehind_39 : decode cX13_readBehind 39 = .ok (.iconst 1, 1) := by decide +kernel
theorem dX13_readBehind_40 : decode cX13_readBehind 40 = .ok (.if_icmp .ne 24, 3) := by decide +kernel
theorem dX13_readBehind_43 : decode cX13_readBehind 43 = .ok (.aload_n 0, 1) := by decide +kernel
theorem dX13_readBehind_44 : decode cX13_readBehind 44 = .ok (.getfield 81, 3) := by decide +kernel
theorem dX13_readBehind_47 : decode cX13_readBehind 47 = .ok (.aload_n 0, 1) := by decide +kernel
theorem dX13_readBehind_48 : decode cX13_readBehind 48 = .ok (.getfield 392, 3) := by decide +kernel
theorem dX13_readBehind_51 : decode cX13_readBehind 51 = .ok (.iconst 1, 1) := by decide +kernel
theorem dX13_readBehind_52 : decode cX13_readBehind 52 = .ok (.isub, 1) := by decide +kernel
theorem dX13_readBehind_53 : decode cX13_readBehind 53 = .ok (.iaload, 1) := by decide +kernel
theorem dX13_readBehind_54 : decode cX13_readBehind 54 = .ok (.iconst 1, 1) := by decide +kernel
theorem dX13_readBehind_55 : decode cX13_readBehind 55 = .ok (.if_icmp .ne 9, 3) := by decide +kernel
theorem dX13_readBehind_58 : decode cX13_readBehind 58 = .ok (.aload_n 0, 1) := by decide +kernel
theorem dX13_readBehind_59 : decode cX13_readBehind 59 = .ok (.invokevirtual 275, 3) := by decide +kernel
theorem dX13_readBehind_62 : decode cX13_readBehind 62 = .ok (.iconst 0, 1) := by decide +kernel
theorem dX13_readBehind_63 : decode cX13_readBehind 63 = .ok (.ireturn, 1) := by decide +kernel
theorem dX13_readBehind_64 : decode cX13_readBehind 64 = .ok (.aload_n 0, 1) := by decide +kernel
theorem dX13_readBehind_65 : decode cX13_readBehind 65 = .ok (.bipush 12, 2) := by decide +kernel
theorem dX13_readBehind_67 : decode cX13_readBehind 67 = .ok (.aload_n 0, 1) := by decide +kernel
theorem dX13_readBehind_68 : decode cX13_readBehind 68 = .ok (.getfield 217, 3) := by decide +kernel
theorem dX13_readBehind_71 : decode cX13_readBehind 71 = .ok (.invokevirtual 376, 3) := by decide +kernel
theorem dX13_readBehind_74 : decode cX13_readBehind 74 = .ok (.istore_n 2, 1) := by decide +kernel
theorem dX13_readBehind_75 : decode cX13_readBehind 75 = .ok (.aload_n 0, 1) := by decide +kernel
theorem dX13_readBehind_76 : decode cX13_readBehind 76 = .ok (.invokevirtual 265, 3) := by decide +kernel
theorem dX13_readBehind_79 : decode cX13_readBehind 79 = .ok (.ifCond .eq 38, 3) := by decide +kernel
theorem dX13_readBehind_82 : decode cX13_readBehind 82 = .ok (.aload_n 0, 1) := by decide +kernel
theorem dX13_readBehind_83 : decode cX13_readBehind 83 = .ok (.getfield 27, 3) := by decide +kernel
theorem dX13_readBehind_86 : decode cX13_readBehind 86 = .ok (.iload_n 2, 1) := by decide +kernel
theorem dX13_readBehind_87 : decode cX13_readBehind 87 = .ok (.aload_n 0, 1) := by decide +kernel
theorem dX13_readBehind_88 : decode cX13_readBehind 88 = .ok (.getfield 242, 3) := by decide +kernel
theorem dX13_readBehind_91 : decode cX13_readBehind 91 = .ok (.iastore, 1) := by decide +kernel
theorem dX13_readBehind_92 : decode cX13_readBehind 92 = .ok (.aload_n 0, 1) := by decide +kernel
theorem dX13_readBehind_93 : decode cX13_readBehind 93 = .ok (.getfield 30, 3) := by decide +kernel
theorem dX13_readBehind_96 : decode cX13_readBehind 96 = .ok (.iload_n 2, 1) := by decide +kernel
theorem dX13_readBehind_97 : decode cX13_readBehind 97 = .ok (.aload_n 0, 1) := by decide +kernel
theorem dX13_readBehind_98 : decode cX13_readBehind 98 = .ok (.getfield 401, 3) := by decide +kernel
theorem dX13_readBehind_101 : decode cX13_readBehind 101 = .ok (.iastore, 1) := by decide +kernel
theorem dX13_readBehind_102 : decode cX13_readBehind 102 = .ok (.aload_n 0, 1) := by decide +kernel
theorem dX13_readBehind_103 : decode cX13_readBehind 103 = .ok (.invokevirtual 272, 3) := by decide +kernel
theorem dX13_readBehind_106 : decode cX13_readBehind 106 = .ok (.aload_n 0, 1) := by decide +kernel
theorem dX13_readBehind_107 : decode cX13_readBehind 107 = .ok (.iconst 1, 1) := by decide +kernel
theorem dX13_readBehind_108 : decode cX13_readBehind 108 = .ok (.iload_n 2, 1) := by decide +kernel
theorem dX13_readBehind_109 : decode cX13_readBehind 109 = .ok (.invokevirtual 395, 3) := by decide +kernel
theorem dX13_readBehind_112 : decode cX13_readBehind 112 = .ok (.aload_n 0, 1) := by decide +kernel
theorem dX13_readBehind_113 : decode cX13_readBehind 113 = .ok (.iconst 1, 1) := by decide +kernel
theorem dX13_readBehind_114 : decode cX13_readBehind 114 = .ok (.putfield 398, 3) := by decide +kernel
theorem dX13_readBehind_117 : decode cX13_readBehind 117 = .ok (.iconst 1, 1) := by decide +kernel
theorem dX13_readBehind_118 : decode cX13_readBehind 118 = .ok (.ireturn, 1) := by decide +kernel
theorem dX13_readBehind_119 : decode cX13_readBehind 119 = .ok (.aload_n 0, 1) := by decide +kernel
theorem dX13_readBehind_120 : decode cX13_readBehind 120 = .ok (.iconst 1, 1) := by decide +kernel
theorem dX13_readBehind_121 : decode cX13_readBehind 121 = .ok (.invokevirtual 428, 3) := by decide +kernel
theorem dX13_readBehind_124 : decode cX13_readBehind 124 = .ok (.aload_n 0, 1) := by decide +kernel
theorem dX13_readBehind_125 : decode cX13_readBehind 125 = .ok (.getfield 81, 3) := by decide +kernel
theorem dX13_readBehind_128 : decode cX13_readBehind 128 = .ok (.aload_n 0, 1) := by decide +kernel
theorem dX13_readBehind_129 : decode cX13_readBehind 129 = .ok (.getfield 392, 3) := by decide +kernel
theorem dX13_readBehind_132 : decode cX13_readBehind 132 = .ok (.iconst 1, 1) := by decide +kernel
theorem dX13_readBehind_133 : decode cX13_readBehind 133 = .ok (.isub, 1) := by decide +kernel
theorem dX13_readBehind_134 : decode cX13_readBehind 134 = .ok (.iaload, 1) := by decide +kernel
theorem dX13_readBehind_135 : decode cX13_readBehind 135 = .ok (.istore_n 2, 1) := by decide +kernel
theorem dX13_readBehind_136 : decode cX13_readBehind 136 = .ok (.iload_n 2, 1) := by decide +kernel
theorem dX13_readBehind_137 : decode cX13_readBehind 137 = .ok (.ifCond .ne 5, 3) := by decide +kernel
theorem dX13_readBehind_140 : decode cX13_readBehind 140 = .ok (.iconst 0, 1) := by decide +kernel
theorem dX13_readBehind_141 : decode cX13_readBehind 141 = .ok (.ireturn, 1) := by decide +kernel
theorem dX13_readBehind_142 : decode cX13_readBehind 142 = .ok (.iload_n 2, 1) := by decide +kernel
theorem dX13_readBehind_143 : decode cX13_readBehind 143 = .ok (.iconst 3, 1) := by decide +kernel
theorem dX13_readBehind_144 : decode cX13_readBehind 144 = .ok (.if_icmp .ne 39, 3) := by decide +kernel
theorem dX13_readBehind_147 : decode cX13_readBehind 147 = .ok (.aload_n 0, 1) := by decide +kernel
theorem dX13_readBehind_148 : decode cX13_readBehind 148 = .ok (.bipush 41, 2) := by decide +kernel
theorem dX13_readBehind_150 : decode cX13_readBehind 150 = .ok (.invokevirtual 269, 3) := by decide +kernel
theorem dX13_readBehind_153 : decode cX13_readBehind 153 = .ok (.ifCond .eq 30, 3) := by decide +kernel
theorem dX13_readBehind_156 : decode cX13_readBehind 156 = .ok (.aload_n 0, 1) := by decide +kernel
theorem dX13_readBehind_157 : decode cX13_readBehind 157 = .ok (.dup, 1) := by decide +kernel
theorem dX13_readBehind_158 : decode cX13_readBehind 158 = .ok (.getfield 392, 3) := by decide +kernel
theorem dX13_readBehind_161 : decode cX13_readBehind 161 = .ok (.iconst 1, 1) := by decide +kernel
theorem dX13_readBehind_162 : decode cX13_readBehind 162 = .ok (.isub, 1) := by decide +kernel
theorem dX13_readBehind_163 : decode cX13_readBehind 163 = .ok (.putfield 392, 3) := by decide +kernel
theorem dX13_readBehind_166 : decode cX13_readBehind 166 = .ok (.aload_n 0, 1) := by decide +kernel
theorem dX13_readBehind_167 : decode cX13_readBehind 167 = .ok (.bipush 41, 2) := by decide +kernel
theorem dX13_readBehind_169 : decode cX13_readBehind 169 = .ok (.invokevirtual 360, 3) := by decide +kernel
theorem dX13_readBehind_172 : decode cX13_readBehind 172 = .ok (.aload_n 0, 1) := by decide +kernel
theorem dX13_readBehind_173 : decode cX13_readBehind 173 = .ok (.aload_n 0, 1) := by decide +kernel
theorem dX13_readBehind_174 : decode cX13_readBehind 174 = .ok (.getfield 401, 3) := by decide +kernel
theorem dX13_readBehind_177 : decode cX13_readBehind 177 = .ok (.invokevirtual 413, 3) := by decide +kernel
theorem dX13_readBehind_180 : decode cX13_readBehind 180 = .ok (.goto 126, 3) := by decide +kernel
theorem dX13_readBehind_183 : decode cX13_readBehind 183 = .ok (.iload_n 2, 1) := by decide +kernel
theorem dX13_readBehind_184 : decode cX13_readBehind 184 = .ok (.iconst 4, 1) := by decide +kernel
theorem dX13_readBehind_185 : decode cX13_readBehind 185 = .ok (.if_icmp .ne 28, 3) := by decide +kernel
theorem dX13_readBehind_188 : decode cX13_readBehind 188 = .ok (.aload_n 0, 1) := by decide +kernel
theorem dX13_readBehind_189 : decode cX13_readBehind 189 = .ok (.bipush 44, 2) := by decide +kernel
theorem dX13_readBehind_191 : decode cX13_readBehind 191 = .ok (.invokevirtual 269, 3) := by decide +kernel
theorem dX13_readBehind_194 : decode cX13_readBehind 194 = .ok (.ifCond .eq 19, 3) := by decide +kernel
theorem dX13_readBehind_197 : decode cX13_readBehind 197 = .ok (.aload_n 0, 1) := by decide +kernel
theorem dX13_readBehind_198 : decode cX13_readBehind 198 = .ok (.invokevirtual 431, 3) := by decide +kernel
theorem dX13_readBehind_201 : decode cX13_readBehind 201 = .ok (.aload_n 0, 1) := by decide +kernel
theorem dX13_readBehind_202 : decode cX13_readBehind 202 = .ok (.invokevirtual 272, 3) := by decide +kernel
theorem dX13_readBehind_205 : decode cX13_readBehind 205 = .ok (.aload_n 0, 1) := by decide +kernel
theorem dX13_readBehind_206 : decode cX13_readBehind 206 = .ok (.iconst 1, 1) := by decide +kernel
theorem dX13_readBehind_207 : decode cX13_readBehind 207 = .ok (.putfield 398, 3) := by decide +kernel
theorem dX13_readBehind_210 : decode cX13_readBehind 210 = .ok (.goto 96, 3) := by decide +kernel
theorem dX13_readBehind_213 : decode cX13_readBehind 213 = .ok (.iload_n 2, 1) := by decide +kernel
theorem dX13_readBehind_214 : decode cX13_readBehind 214 = .ok (.iconst 4, 1) := by decide +kernel
theorem dX13_readBehind_215 : decode cX13_readBehind 215 = .ok (.if_icmp .ne 23, 3) := by decide +kernel
theorem dX13_readBehind_218 : decode cX13_readBehind 218 = .ok (.aload_n 0, 1) := by decide +kernel
theorem dX13_readBehind_219 : decode cX13_readBehind 219 = .ok (.bipush 41, 2) := by decide +kernel
theorem dX13_readBehind_221 : decode cX13_readBehind 221 = .ok (.invokevirtual 269, 3) := by decide +kernel
theorem dX13_readBehind_224 : decode cX13_readBehind 224 = .ok (.ifCond .eq 14, 3) := by decide +kernel
theorem dX13_readBehind_227 : decode cX13_readBehind 227 = .ok (.aload_n 0, 1) := by decide +kernel
theorem dX13_readBehind_228 : decode cX13_readBehind 228 = .ok (.invokevirtual 431, 3) := by decide +kernel
theorem dX13_readBehind_231 : decode cX13_readBehind 231 = .ok (.aload_n 0, 1) := by decide +kernel
theorem dX13_readBehind_232 : decode cX13_readBehind 232 = .ok (.invokevirtual 422, 3) := by decide +kernel
theorem dX13_readBehind_235 : decode cX13_readBehind 235 = .ok (.goto 71, 3) := by decide +kernel
theorem dX13_readBehind_238 : decode cX13_readBehind 238 = .ok (.iload_n 2, 1) := by decide +kernel
theorem dX13_readBehind_239 : decode cX13_readBehind 239 = .ok (.iconst 5, 1) := by decide +kernel
theorem dX13_readBehind_240 : decode cX13_readBehind 240 = .ok (.if_icmp .ne 62, 3) := by decide +kernel
theorem dX13_readBehind_243 : decode cX13_readBehind 243 = .ok (.aload_n 0, 1) := by decide +kernel
theorem dX13_readBehind_244 : decode cX13_readBehind 244 = .ok (.bipush 93, 2) := by decide +kernel
theorem dX13_readBehind_246 : decode cX13_readBehind 246 = .ok (.invokevirtual 269, 3) := by decide +kernel
theorem dX13_readBehind_249 : decode cX13_readBehind 249 = .ok (.ifCond .eq 53, 3) := by decide +kernel
theorem dX13_readBehind_252 : decode cX13_readBehind 252 = .ok (.aload_n 0, 1) := by decide +kernel
theorem dX13_readBehind_253 : decode cX13_readBehind 253 = .ok (.dup, 1) := by decide +kernel
theorem dX13_readBehind_254 : decode cX13_readBehind 254 = .ok (.getfield 392, 3) := by decide +kernel
theorem dX13_readBehind_257 : decode cX13_readBehind 257 = .ok (.iconst 1, 1) := by decide +kernel
theorem dX13_readBehind_258 : decode cX13_readBehind 258 = .ok (.isub, 1) := by decide +kernel
theorem dX13_readBehind_259 : decode cX13_readBehind 259 = .ok (.putfield 392, 3) := by decide +kernel
theorem dX13_readBehind_262 : decode cX13_readBehind 262 = .ok (.aload_n 0, 1) := by decide +kernel
theorem dX13_readBehind_263 : decode cX13_readBehind 263 = .ok (.getfield 30, 3) := by decide +kernel
theorem dX13_readBehind_266 : decode cX13_readBehind 266 = .ok (.aload_n 0, 1) := by decide +kernel
theorem dX13_readBehind_267 : decode cX13_readBehind 267 = .ok (.getfield 84, 3) := by decide +kernel
theorem dX13_readBehind_270 : decode cX13_readBehind 270 = .ok (.aload_n 0, 1) := by decide +kernel
theorem dX13_readBehind_271 : decode cX13_readBehind 271 = .ok (.getfield 392, 3) := by decide +kernel
theorem dX13_readBehind_274 : decode cX13_readBehind 274 = .ok (.iaload, 1) := by decide +kernel
theorem dX13_readBehind_275 : decode cX13_readBehind 275 = .ok (.aload_n 0, 1) := by decide +kernel
theorem dX13_readBehind_276 : decode cX13_readBehind 276 = .ok (.getfield 401, 3) := by decide +kernel
theorem dX13_readBehind_279 : decode cX13_readBehind 279 = .ok (.iastore, 1) := by decide +kernel
theorem dX13_readBehind_280 : decode cX13_readBehind 280 = .ok (.aload_n 0, 1) := by decide +kernel
theorem dX13_readBehind_281 : decode cX13_readBehind 281 = .ok (.bipush 93, 2) := by decide +kernel
theorem dX13_readBehind_283 : decode cX13_readBehind 283 = .ok (.invokevirtual 360, 3) := by decide +kernel
theorem dX13_readBehind_286 : decode cX13_readBehind 286 = .ok (.aload_n 0, 1) := by decide +kernel
theorem dX13_readBehind_287 : decode cX13_readBehind 287 = .ok (.aload_n 0, 1) := by decide +kernel
theorem dX13_readBehind_288 : decode cX13_readBehind 288 = .ok (.getfield 84, 3) := by decide +kernel
theorem dX13_readBehind_291 : decode cX13_readBehind 291 = .ok (.aload_n 0, 1) := by decide +kernel
theorem dX13_readBehind_292 : decode cX13_readBehind 292 = .ok (.getfield 392, 3) := by decide +kernel
theorem dX13_readBehind_295 : decode cX13_readBehind 295 = .ok (.iaload, 1) := by decide +kernel
theorem dX13_readBehind_296 : decode cX13_readBehind 296 = .ok (.invokevirtual 413, 3) := by decide +kernel
theorem dX13_readBehind_299 : decode cX13_readBehind 299 = .ok (.goto 7, 3) := by decide +kernel
theorem dX13_readBehind_302 : decode cX13_readBehind 302 = .ok (.aload_n 0, 1) := by decide +kernel
theorem dX13_readBehind_303 : decode cX13_readBehind 303 = .ok (.invokevirtual 275, 3) := by decide +kernel
theorem dX13_readBehind_306 : decode cX13_readBehind 306 = .ok (.iconst 1, 1) := by decide +kernel
theorem dX13_readBehind_307 : decode cX13_readBehind 307 = .ok (.ireturn, 1) := by decide +kernel
theorem dX13_measure_0 : decode cX13_measure 0 = .ok (.lload_n 0, 1) := by decide +kernel
theorem dX13_measure_1 : decode cX13_measure 1 = .ok (.lconst 0, 1) := by decide +kernel
theorem dX13_measure_2 : decode cX13_measure 2 = .ok (.lcmp, 1) := by decide +kernel
theorem dX13_measure_3 : decode cX13_measure 3 = .ok (.ifCond .ge 8, 3) := by decide +kernel
theorem dX13_measure_6 : decode cX13_measure 6 = .ok (.lload_n 0, 1) := by decide +kernel
theorem dX13_measure_7 : decode cX13_measure 7 = .ok (.lneg, 1) := by decide +kernel
theorem dX13_measure_8 : decode cX13_measure 8 = .ok (.goto 4, 3) := by decide +kernel
theorem dX13_measure_11 : decode cX13_measure 11 = .ok (.lload_n 0, 1) := by decide +kernel
theorem dX13_measure_12 : decode cX13_measure 12 = .ok (.lstore 4, 2) := by decide +kernel
theorem dX13_measure_14 : decode cX13_measure 14 = .ok (.lload_n 2, 1) := by decide +kernel
theorem dX13_measure_15 : decode cX13_measure 15 = .ok (.lstore 6, 2) := by decide +kernel
theorem dX13_measure_17 : decode cX13_measure 17 = .ok (.lload 6, 2) := by decide +kernel
theorem dX13_measure_19 : decode cX13_measure 19 = .ok (.lconst 0, 1) := by decide +kernel
theorem dX13_measure_20 : decode cX13_measure 20 = .ok (.lcmp, 1) := by decide +kernel
theorem dX13_measure_21 : decode cX13_measure 21 = .ok (.ifCond .eq 21, 3) := by decide +kernel
theorem dX13_measure_24 : decode cX13_measure 24 = .ok (.lload 4, 2) := by decide +kernel
theorem dX13_measure_26 : decode cX13_measure 26 = .ok (.lload 6, 2) := by decide +kernel
theorem dX13_measure_28 : decode cX13_measure 28 = .ok (.lrem, 1) := by decide +kernel
theorem dX13_measure_29 : decode cX13_measure 29 = .ok (.lstore 8, 2) := by decide +kernel
theorem dX13_measure_31 : decode cX13_measure 31 = .ok (.lload 6, 2) := by decide +kernel
theorem dX13_measure_33 : decode cX13_measure 33 = .ok (.lstore 4, 2) := by decide +kernel
theorem dX13_measure_35 : decode cX13_measure 35 = .ok (.lload 8, 2) := by decide +kernel
theorem dX13_measure_37 : decode cX13_measure 37 = .ok (.lstore 6, 2) := by decide +kernel
theorem dX13_measure_39 : decode cX13_measure 39 = .ok (.goto (-22), 3) := by decide +kernel
theorem dX13_measure_42 : decode cX13_measure 42 = .ok (.lload 4, 2) := by decide +kernel
theorem dX13_measure_44 : decode cX13_measure 44 = .ok (.lreturn, 1) := by decide +kernel
theorem dX13_fail_0 : decode cX13_fail 0 = .ok (.aload_n 0, 1) := by decide +kernel
theorem dX13_fail_1 : decode cX13_fail 1 = .ok (.getfield 434, 3) := by decide +kernel
theorem dX13_fail_4 : decode cX13_fail 4 = .ok (.ifCond .ne 8, 3) := by decide +kernel
theorem dX13_fail_7 : decode cX13_fail 7 = .ok (.aload_n 0, 1) := by decide +kernel
theorem dX13_fail_8 : decode cX13_fail 8 = .ok (.iload_n 1, 1) := by decide +kernel
theorem dX13_fail_9 : decode cX13_fail 9 = .ok (.putfield 434, 3) := by decide +kernel
theorem dX13_fail_12 : decode cX13_fail 12 = .ok (.return_, 1) := by decide +kernel
theorem dX13_push_0 : decode cX13_push 0 = .ok (.aload_n 0, 1) := by decide +kernel
theorem dX13_push_1 : decode cX13_push 1 = .ok (.getfield 93, 3) := by decide +kernel
theorem dX13_push_4 : decode cX13_push 4 = .ok (.aload_n 0, 1) := by decide +kernel
theorem dX13_push_5 : decode cX13_push 5 = .ok (.getfield 437, 3) := by decide +kernel
theorem dX13_push_8 : decode cX13_push 8 = .ok (.lload_n 1, 1) := by decide +kernel
theorem dX13_push_9 : decode cX13_push 9 = .ok (.lastore, 1) := by decide +kernel
theorem dX13_push_10 : decode cX13_push 10 = .ok (.aload_n 0, 1) := by decide +kernel
theorem dX13_push_11 : decode cX13_push 11 = .ok (.getfield 96, 3) := by decide +kernel
theorem dX13_push_14 : decode cX13_push 14 = .ok (.aload_n 0, 1) := by decide +kernel
theorem dX13_push_15 : decode cX13_push 15 = .ok (.getfield 437, 3) := by decide +kernel
theorem dX13_push_18 : decode cX13_push 18 = .ok (.lload_n 3, 1) := by decide +kernel
theorem dX13_push_19 : decode cX13_push 19 = .ok (.lastore, 1) := by decide +kernel
theorem dX13_push_20 : decode cX13_push 20 = .ok (.aload_n 0, 1) := by decide +kernel
theorem dX13_push_21 : decode cX13_push 21 = .ok (.dup, 1) := by decide +kernel
theorem dX13_push_22 : decode cX13_push 22 = .ok (.getfield 437, 3) := by decide +kernel
theorem dX13_push_25 : decode cX13_push 25 = .ok (.iconst 1, 1) := by decide +kernel
theorem dX13_push_26 : decode cX13_push 26 = .ok (.iadd, 1) := by decide +kernel
theorem dX13_push_27 : decode cX13_push 27 = .ok (.putfield 437, 3) := by decide +kernel
theorem dX13_push_30 : decode cX13_push 30 = .ok (.return_, 1) := by decide +kernel
theorem dX13_whole_0 : decode cX13_whole 0 = .ok (.aload_n 0, 1) := by decide +kernel
theorem dX13_whole_1 : decode cX13_whole 1 = .ok (.lload_n 1, 1) := by decide +kernel
theorem dX13_whole_2 : decode cX13_whole 2 = .ok (.lconst 1, 1) := by decide +kernel
theorem dX13_whole_3 : decode cX13_whole 3 = .ok (.invokevirtual 440, 3) := by decide +kernel
theorem dX13_whole_6 : decode cX13_whole 6 = .ok (.return_, 1) := by decide +kernel
theorem dX13_come_0 : decode cX13_come 0 = .ok (.aload_n 0, 1) := by decide +kernel
theorem dX13_come_1 : decode cX13_come 1 = .ok (.dup, 1) := by decide +kernel
theorem dX13_come_2 : decode cX13_come 2 = .ok (.getfield 437, 3) := by decide +kernel
theorem dX13_come_5 : decode cX13_come 5 = .ok (.iconst 2, 1) := by decide +kernel
theorem dX13_come_6 : decode cX13_come 6 = .ok (.isub, 1) := by decide +kernel
theorem dX13_come_7 : decode cX13_come 7 = .ok (.putfield 437, 3) := by decide +kernel
theorem dX13_come_10 : decode cX13_come 10 = .ok (.aload_n 0, 1) := by decide +kernel
theorem dX13_come_11 : decode cX13_come 11 = .ok (.getfield 434, 3) := by decide +kernel
theorem dX13_come_14 : decode cX13_come 14 = .ok (.ifCond .le 10, 3) := by decide +kernel
theorem dX13_come_17 : decode cX13_come 17 = .ok (.aload_n 0, 1) := by decide +kernel
theorem dX13_come_18 : decode cX13_come 18 = .ok (.lconst 0, 1) := by decide +kernel
theorem dX13_come_19 : decode cX13_come 19 = .ok (.lconst 1, 1) := by decide +kernel
theorem dX13_come_20 : decode cX13_come 20 = .ok (.invokevirtual 440, 3) := by decide +kernel
theorem dX13_come_23 : decode cX13_come 23 = .ok (.return_, 1) := by decide +kernel
theorem dX13_come_24 : decode cX13_come 24 = .ok (.lload_n 1, 1) := by decide +kernel
theorem dX13_come_25 : decode cX13_come 25 = .ok (.lload_n 3, 1) := by decide +kernel
theorem dX13_come_26 : decode cX13_come 26 = .ok (.invokestatic 444, 3) := by decide +kernel
theorem dX13_come_29 : decode cX13_come 29 = .ok (.lstore 5, 2) := by decide +kernel
theorem dX13_come_31 : decode cX13_come 31 = .ok (.lload_n 3, 1) := by decide +kernel
theorem dX13_come_32 : decode cX13_come 32 = .ok (.lconst 0, 1) := by decide +kernel
theorem dX13_come_33 : decode cX13_come 33 = .ok (.lcmp, 1) := by decide +kernel
theorem dX13_come_34 : decode cX13_come 34 = .ok (.ifCond .ge 11, 3) := by decide +kernel
theorem dX13_come_37 : decode cX13_come 37 = .ok (.lload_n 1, 1) := by decide +kernel
theorem dX13_come_38 : decode cX13_come 38 = .ok (.lneg, 1) := by decide +kernel
theorem dX13_come_39 : decode cX13_come 39 = .ok (.lload 5, 2) := by decide +kernel
theorem dX13_come_41 : decode cX13_come 41 = .ok (.ldiv, 1) := by decide +kernel
theorem dX13_come_42 : decode cX13_come 42 = .ok (.goto 7, 3) := by decide +kernel
theorem dX13_come_45 : decode cX13_come 45 = .ok (.lload_n 1, 1) := by decide +kernel
theorem dX13_come_46 : decode cX13_come 46 = .ok (.lload 5, 2) := by decide +kernel
theorem dX13_come_48 : decode cX13_come 48 = .ok (.ldiv, 1) := by decide +kernel
theorem dX13_come_49 : decode cX13_come 49 = .ok (.lstore 7, 2) := by decide +kernel
theorem dX13_come_51 : decode cX13_come 51 = .ok (.lload_n 3, 1) := by decide +kernel
theorem dX13_come_52 : decode cX13_come 52 = .ok (.lconst 0, 1) := by decide +kernel
theorem dX13_come_53 : decode cX13_come 53 = .ok (.lcmp, 1) := by decide +kernel
theorem dX13_come_54 : decode cX13_come 54 = .ok (.ifCond .ge 11, 3) := by decide +kernel
theorem dX13_come_57 : decode cX13_come 57 = .ok (.lload_n 3, 1) := by decide +kernel
theorem dX13_come_58 : decode cX13_come 58 = .ok (.lneg, 1) := by decide +kernel
theorem dX13_come_59 : decode cX13_come 59 = .ok (.lload 5, 2) := by decide +kernel
theorem dX13_come_61 : decode cX13_come 61 = .ok (.ldiv, 1) := by decide +kernel
theorem dX13_come_62 : decode cX13_come 62 = .ok (.goto 7, 3) := by decide +kernel
theorem dX13_come_65 : decode cX13_come 65 = .ok (.lload_n 3, 1) := by decide +kernel
theorem dX13_come_66 : decode cX13_come 66 = .ok (.lload 5, 2) := by decide +kernel
theorem dX13_come_68 : decode cX13_come 68 = .ok (.ldiv, 1) := by decide +kernel
theorem dX13_come_69 : decode cX13_come 69 = .ok (.lstore 9, 2) := by decide +kernel
theorem dX13_come_71 : decode cX13_come 71 = .ok (.lload 7, 2) := by decide +kernel
theorem dX13_come_73 : decode cX13_come 73 = .ok (.ldc2_w 448, 3) := by decide +kernel
theorem dX13_come_76 : decode cX13_come 76 = .ok (.lcmp, 1) := by decide +kernel
theorem dX13_come_77 : decode cX13_come 77 = .ok (.ifCond .gt 21, 3) := by decide +kernel
theorem dX13_come_80 : decode cX13_come 80 = .ok (.lload 7, 2) := by decide +kernel
theorem dX13_come_82 : decode cX13_come 82 = .ok (.ldc2_w 450, 3) := by decide +kernel
theorem dX13_come_85 : decode cX13_come 85 = .ok (.lcmp, 1) := by decide +kernel
theorem dX13_come_86 : decode cX13_come 86 = .ok (.ifCond .lt 12, 3) := by decide +kernel
theorem dX13_come_89 : decode cX13_come 89 = .ok (.lload 9, 2) := by decide +kernel
theorem dX13_come_91 : decode cX13_come 91 = .ok (.ldc2_w 448, 3) := by decide +kernel
theorem dX13_come_94 : decode cX13_come 94 = .ok (.lcmp, 1) := by decide +kernel
theorem dX13_come_95 : decode cX13_come 95 = .ok (.ifCond .le 16, 3) := by decide +kernel
theorem dX13_come_98 : decode cX13_come 98 = .ok (.aload_n 0, 1) := by decide +kernel
theorem dX13_come_99 : decode cX13_come 99 = .ok (.bipush 7, 2) := by decide +kernel
theorem dX13_come_101 : decode cX13_come 101 = .ok (.invokevirtual 452, 3) := by decide +kernel
theorem dX13_come_104 : decode cX13_come 104 = .ok (.aload_n 0, 1) := by decide +kernel
theorem dX13_come_105 : decode cX13_come 105 = .ok (.lconst 0, 1) := by decide +kernel
theorem dX13_come_106 : decode cX13_come 106 = .ok (.lconst 1, 1) := by decide +kernel
theorem dX13_come_107 : decode cX13_come 107 = .ok (.invokevirtual 440, 3) := by decide +kernel
theorem dX13_come_110 : decode cX13_come 110 = .ok (.return_, 1) := by decide +kernel
theorem dX13_come_111 : decode cX13_come 111 = .ok (.aload_n 0, 1) := by decide +kernel
theorem dX13_come_112 : decode cX13_come 112 = .ok (.lload 7, 2) := by decide +kernel
theorem dX13_come_114 : decode cX13_come 114 = .ok (.lload 9, 2) := by decide +kernel
theorem dX13_come_116 : decode cX13_come 116 = .ok (.invokevirtual 440, 3) := by decide +kernel
theorem dX13_come_119 : decode cX13_come 119 = .ok (.return_, 1) := by decide +kernel
theorem dX13_plus_0 : decode cX13_plus 0 = .ok (.aload_n 0, 1) := by decide +kernel
theorem dX13_plus_1 : decode cX13_plus 1 = .ok (.getfield 437, 3) := by decide +kernel
theorem dX13_plus_4 : decode cX13_plus 4 = .ok (.iconst 2, 1) := by decide +kernel
theorem dX13_plus_5 : decode cX13_plus 5 = .ok (.isub, 1) := by decide +kernel
theorem dX13_plus_6 : decode cX13_plus 6 = .ok (.istore_n 1, 1) := by decide +kernel
theorem dX13_plus_7 : decode cX13_plus 7 = .ok (.aload_n 0, 1) := by decide +kernel
theorem dX13_plus_8 : decode cX13_plus 8 = .ok (.aload_n 0, 1) := by decide +kernel
theorem dX13_plus_9 : decode cX13_plus 9 = .ok (.getfield 93, 3) := by decide +kernel
theorem dX13_plus_12 : decode cX13_plus 12 = .ok (.iload_n 1, 1) := by decide +kernel
theorem dX13_plus_13 : decode cX13_plus 13 = .ok (.laload, 1) := by decide +kernel
theorem dX13_plus_14 : decode cX13_plus 14 = .ok (.aload_n 0, 1) := by decide +kernel
theorem dX13_plus_15 : decode cX13_plus 15 = .ok (.getfield 96, 3) := by decide +kernel
theorem dX13_plus_18 : decode cX13_plus 18 = .ok (.iload_n 1, 1) := by decide +kernel
theorem dX13_plus_19 : decode cX13_plus 19 = .ok (.iconst 1, 1) := by decide +kernel
theorem dX13_plus_20 : decode cX13_plus 20 = .ok (.iadd, 1) := by decide +kernel
theorem dX13_plus_21 : decode cX13_plus 21 = .ok (.laload, 1) := by decide +kernel
theorem dX13_plus_22 : decode cX13_plus 22 = .ok (.lmul, 1) := by decide +kernel
theorem dX13_plus_23 : decode cX13_plus 23 = .ok (.aload_n 0, 1) := by decide +kernel
theorem dX13_plus_24 : decode cX13_plus 24 = .ok (.getfield 93, 3) := by decide +kernel
theorem dX13_plus_27 : decode cX13_plus 27 = .ok (.iload_n 1, 1) := by decide +kernel
theorem dX13_plus_28 : decode cX13_plus 28 = .ok (.iconst 1, 1) := by decide +kernel
theorem dX13_plus_29 : decode cX13_plus 29 = .ok (.iadd, 1) := by decide +kernel
theorem dX13_plus_30 : decode cX13_plus 30 = .ok (.laload, 1) := by decide +kernel
theorem dX13_plus_31 : decode cX13_plus 31 = .ok (.aload_n 0, 1) := by decide +kernel
theorem dX13_plus_32 : decode cX13_plus 32 = .ok (.getfield 96, 3) := by decide +kernel
theorem dX13_plus_35 : decode cX13_plus 35 = .ok (.iload_n 1, 1) := by decide +kernel
theorem dX13_plus_36 : decode cX13_plus 36 = .ok (.laload, 1) := by decide +kernel
theorem dX13_plus_37 : decode cX13_plus 37 = .ok (.lmul, 1) := by decide +kernel
theorem dX13_plus_38 : decode cX13_plus 38 = .ok (.ladd, 1) := by decide +kernel
theorem dX13_plus_39 : decode cX13_plus 39 = .ok (.aload_n 0, 1) := by decide +kernel
theorem dX13_plus_40 : decode cX13_plus 40 = .ok (.getfield 96, 3) := by decide +kernel
theorem dX13_plus_43 : decode cX13_plus 43 = .ok (.iload_n 1, 1) := by decide +kernel
theorem dX13_plus_44 : decode cX13_plus 44 = .ok (.laload, 1) := by decide +kernel
theorem dX13_plus_45 : decode cX13_plus 45 = .ok (.aload_n 0, 1) := by decide +kernel
theorem dX13_plus_46 : decode cX13_plus 46 = .ok (.getfield 96, 3) := by decide +kernel
theorem dX13_plus_49 : decode cX13_plus 49 = .ok (.iload_n 1, 1) := by decide +kernel
theorem dX13_plus_50 : decode cX13_plus 50 = .ok (.iconst 1, 1) := by decide +kernel
theorem dX13_plus_51 : decode cX13_plus 51 = .ok (.iadd, 1) := by decide +kernel
theorem dX13_plus_52 : decode cX13_plus 52 = .ok (.laload, 1) := by decide +kernel
theorem dX13_plus_53 : decode cX13_plus 53 = .ok (.lmul, 1) := by decide +kernel
theorem dX13_plus_54 : decode cX13_plus 54 = .ok (.invokevirtual 455, 3) := by decide +kernel
theorem dX13_plus_57 : decode cX13_plus 57 = .ok (.return_, 1) := by decide +kernel
theorem dX13_less_0 : decode cX13_less 0 = .ok (.aload_n 0, 1) := by decide +kernel
theorem dX13_less_1 : decode cX13_less 1 = .ok (.getfield 437, 3) := by decide +kernel
theorem dX13_less_4 : decode cX13_less 4 = .ok (.iconst 2, 1) := by decide +kernel
theorem dX13_less_5 : decode cX13_less 5 = .ok (.isub, 1) := by decide +kernel
theorem dX13_less_6 : decode cX13_less 6 = .ok (.istore_n 1, 1) := by decide +kernel
theorem dX13_less_7 : decode cX13_less 7 = .ok (.aload_n 0, 1) := by decide +kernel
theorem dX13_less_8 : decode cX13_less 8 = .ok (.aload_n 0, 1) := by decide +kernel
theorem dX13_less_9 : decode cX13_less 9 = .ok (.getfield 93, 3) := by decide +kernel
theorem dX13_less_12 : decode cX13_less 12 = .ok (.iload_n 1, 1) := by decide +kernel
theorem dX13_less_13 : decode cX13_less 13 = .ok (.laload, 1) := by decide +kernel
theorem dX13_less_14 : decode cX13_less 14 = .ok (.aload_n 0, 1) := by decide +kernel
theorem dX13_less_15 : decode cX13_less 15 = .ok (.getfield 96, 3) := by decide +kernel
theorem dX13_less_18 : decode cX13_less 18 = .ok (.iload_n 1, 1) := by decide +kernel
theorem dX13_less_19 : decode cX13_less 19 = .ok (.iconst 1, 1) := by decide +kernel
theorem dX13_less_20 : decode cX13_less 20 = .ok (.iadd, 1) := by decide +kernel
theorem dX13_less_21 : decode cX13_less 21 = .ok (.laload, 1) := by decide +kernel
theorem dX13_less_22 : decode cX13_less 22 = .ok (.lmul, 1) := by decide +kernel
theorem dX13_less_23 : decode cX13_less 23 = .ok (.aload_n 0, 1) := by decide +kernel
theorem dX13_less_24 : decode cX13_less 24 = .ok (.getfield 93, 3) := by decide +kernel
theorem dX13_less_27 : decode cX13_less 27 = .ok (.iload_n 1, 1) := by decide +kernel
theorem dX13_less_28 : decode cX13_less 28 = .ok (.iconst 1, 1) := by decide +kernel
theorem dX13_less_29 : decode cX13_less 29 = .ok (.iadd, 1) := by decide +kernel
theorem dX13_less_30 : decode cX13_less 30 = .ok (.laload, 1) := by decide +kernel
theorem dX13_less_31 : decode cX13_less 31 = .ok (.aload_n 0, 1) := by decide +kernel
theorem dX13_less_32 : decode cX13_less 32 = .ok (.getfield 96, 3) := by decide +kernel
theorem dX13_less_35 : decode cX13_less 35 = .ok (.iload_n 1, 1) := by decide +kernel
theorem dX13_less_36 : decode cX13_less 36 = .ok (.laload, 1) := by decide +kernel
theorem dX13_less_37 : decode cX13_less 37 = .ok (.lmul, 1) := by decide +kernel
theorem dX13_less_38 : decode cX13_less 38 = .ok (.lsub, 1) := by decide +kernel
theorem dX13_less_39 : decode cX13_less 39 = .ok (.aload_n 0, 1) := by decide +kernel
theorem dX13_less_40 : decode cX13_less 40 = .ok (.getfield 96, 3) := by decide +kernel
theorem dX13_less_43 : decode cX13_less 43 = .ok (.iload_n 1, 1) := by decide +kernel
theorem dX13_less_44 : decode cX13_less 44 = .ok (.laload, 1) := by decide +kernel
theorem dX13_less_45 : decode cX13_less 45 = .ok (.aload_n 0, 1) := by decide +kernel
theorem dX13_less_46 : decode cX13_less 46 = .ok (.getfield 96, 3) := by decide +kernel
theorem dX13_less_49 : decode cX13_less 49 = .ok (.iload_n 1, 1) := by decide +kernel
theorem dX13_less_50 : decode cX13_less 50 = .ok (.iconst 1, 1) := by decide +kernel
theorem dX13_less_51 : decode cX13_less 51 = .ok (.iadd, 1) := by decide +kernel
theorem dX13_less_52 : decode cX13_less 52 = .ok (.laload, 1) := by decide +kernel
theorem dX13_less_53 : decode cX13_less 53 = .ok (.lmul, 1) := by decide +kernel
theorem dX13_less_54 : decode cX13_less 54 = .ok (.invokevirtual 455, 3) := by decide +kernel
theorem dX13_less_57 : decode cX13_less 57 = .ok (.return_, 1) := by decide +kernel
theorem dX13_times_0 : decode cX13_times 0 = .ok (.aload_n 0, 1) := by decide +kernel
theorem dX13_times_1 : decode cX13_times 1 = .ok (.getfield 437, 3) := by decide +kernel
theorem dX13_times_4 : decode cX13_times 4 = .ok (.iconst 2, 1) := by decide +kernel
theorem dX13_times_5 : decode cX13_times 5 = .ok (.isub, 1) := by decide +kernel
theorem dX13_times_6 : decode cX13_times 6 = .ok (.istore_n 1, 1) := by decide +kernel
theorem dX13_times_7 : decode cX13_times 7 = .ok (.aload_n 0, 1) := by decide +kernel
theorem dX13_times_8 : decode cX13_times 8 = .ok (.aload_n 0, 1) := by decide +kernel
theorem dX13_times_9 : decode cX13_times 9 = .ok (.getfield 93, 3) := by decide +kernel
theorem dX13_times_12 : decode cX13_times 12 = .ok (.iload_n 1, 1) := by decide +kernel
theorem dX13_times_13 : decode cX13_times 13 = .ok (.laload, 1) := by decide +kernel
theorem dX13_times_14 : decode cX13_times 14 = .ok (.aload_n 0, 1) := by decide +kernel
theorem dX13_times_15 : decode cX13_times 15 = .ok (.getfield 93, 3) := by decide +kernel
theorem dX13_times_18 : decode cX13_times 18 = .ok (.iload_n 1, 1) := by decide +kernel
theorem dX13_times_19 : decode cX13_times 19 = .ok (.iconst 1, 1) := by decide +kernel
theorem dX13_times_20 : decode cX13_times 20 = .ok (.iadd, 1) := by decide +kernel
theorem dX13_times_21 : decode cX13_times 21 = .ok (.laload, 1) := by decide +kernel
theorem dX13_times_22 : decode cX13_times 22 = .ok (.lmul, 1) := by decide +kernel
theorem dX13_times_23 : decode cX13_times 23 = .ok (.aload_n 0, 1) := by decide +kernel
theorem dX13_times_24 : decode cX13_times 24 = .ok (.getfield 96, 3) := by decide +kernel
theorem dX13_times_27 : decode cX13_times 27 = .ok (.iload_n 1, 1) := by decide +kernel
theorem dX13_times_28 : decode cX13_times 28 = .ok (.laload, 1) := by decide +kernel
theorem dX13_times_29 : decode cX13_times 29 = .ok (.aload_n 0, 1) := by decide +kernel
theorem dX13_times_30 : decode cX13_times 30 = .ok (.getfield 96, 3) := by decide +kernel
theorem dX13_times_33 : decode cX13_times 33 = .ok (.iload_n 1, 1) := by decide +kernel
theorem dX13_times_34 : decode cX13_times 34 = .ok (.iconst 1, 1) := by decide +kernel
theorem dX13_times_35 : decode cX13_times 35 = .ok (.iadd, 1) := by decide +kernel
theorem dX13_times_36 : decode cX13_times 36 = .ok (.laload, 1) := by decide +kernel
theorem dX13_times_37 : decode cX13_times 37 = .ok (.lmul, 1) := by decide +kernel
theorem dX13_times_38 : decode cX13_times 38 = .ok (.invokevirtual 455, 3) := by decide +kernel
theorem dX13_times_41 : decode cX13_times 41 = .ok (.return_, 1) := by decide +kernel
theorem dX13_by_0 : decode cX13_by 0 = .ok (.aload_n 0, 1) := by decide +kernel
theorem dX13_by_1 : decode cX13_by 1 = .ok (.getfield 437, 3) := by decide +kernel
theorem dX13_by_4 : decode cX13_by 4 = .ok (.iconst 2, 1) := by decide +kernel
theorem dX13_by_5 : decode cX13_by 5 = .ok (.isub, 1) := by decide +kernel
theorem dX13_by_6 : decode cX13_by 6 = .ok (.istore_n 1, 1) := by decide +kernel
theorem dX13_by_7 : decode cX13_by 7 = .ok (.aload_n 0, 1) := by decide +kernel
theorem dX13_by_8 : decode cX13_by 8 = .ok (.getfield 93, 3) := by decide +kernel
theorem dX13_by_11 : decode cX13_by 11 = .ok (.iload_n 1, 1) := by decide +kernel
theorem dX13_by_12 : decode cX13_by 12 = .ok (.iconst 1, 1) := by decide +kernel
theorem dX13_by_13 : decode cX13_by 13 = .ok (.iadd, 1) := by decide +kernel
theorem dX13_by_14 : decode cX13_by 14 = .ok (.laload, 1) := by decide +kernel
theorem dX13_by_15 : decode cX13_by 15 = .ok (.lconst 0, 1) := by decide +kernel
theorem dX13_by_16 : decode cX13_by 16 = .ok (.lcmp, 1) := by decide +kernel
theorem dX13_by_17 : decode cX13_by 17 = .ok (.ifCond .ne 16, 3) := by decide +kernel
theorem dX13_by_20 : decode cX13_by 20 = .ok (.aload_n 0, 1) := by decide +kernel
theorem dX13_by_21 : decode cX13_by 21 = .ok (.bipush 6, 2) := by decide +kernel
theorem dX13_by_23 : decode cX13_by 23 = .ok (.invokevirtual 452, 3) := by decide +kernel
theorem dX13_by_26 : decode cX13_by 26 = .ok (.aload_n 0, 1) := by decide +kernel
theorem dX13_by_27 : decode cX13_by 27 = .ok (.lconst 0, 1) := by decide +kernel
theorem dX13_by_28 : decode cX13_by 28 = .ok (.lconst 1, 1) := by decide +kernel
theorem dX13_by_29 : decode cX13_by 29 = .ok (.invokevirtual 455, 3) := by decide +kernel
theorem dX13_by_32 : decode cX13_by 32 = .ok (.return_, 1) := by decide +kernel
theorem dX13_by_33 : decode cX13_by 33 = .ok (.aload_n 0, 1) := by decide +kernel
theorem dX13_by_34 : decode cX13_by 34 = .ok (.getfield 93, 3) := by decide +kernel
theorem dX13_by_37 : decode cX13_by 37 = .ok (.iload_n 1, 1) := by decide +kernel
theorem dX13_by_38 : decode cX13_by 38 = .ok (.iconst 1, 1) := by decide +kernel
theorem dX13_by_39 : decode cX13_by 39 = .ok (.iadd, 1) := by decide +kernel
theorem dX13_by_40 : decode cX13_by 40 = .ok (.laload, 1) := by decide +kernel
theorem dX13_by_41 : decode cX13_by 41 = .ok (.lconst 0, 1) := by decide +kernel
theorem dX13_by_42 : decode cX13_by 42 = .ok (.lcmp, 1) := by decide +kernel
theorem dX13_by_43 : decode cX13_by 43 = .ok (.ifCond .ge 7, 3) := by decide +kernel
theorem dX13_by_46 : decode cX13_by 46 = .ok (.iconst 1, 1) := by decide +kernel
theorem dX13_by_47 : decode cX13_by 47 = .ok (.goto 4, 3) := by decide +kernel
theorem dX13_by_50 : decode cX13_by 50 = .ok (.iconst 0, 1) := by decide +kernel
theorem dX13_by_51 : decode cX13_by 51 = .ok (.istore_n 2, 1) := by decide +kernel
theorem dX13_by_52 : decode cX13_by 52 = .ok (.aload_n 0, 1) := by decide +kernel
theorem dX13_by_53 : decode cX13_by 53 = .ok (.getfield 93, 3) := by decide +kernel
theorem dX13_by_56 : decode cX13_by 56 = .ok (.iload_n 1, 1) := by decide +kernel
theorem dX13_by_57 : decode cX13_by 57 = .ok (.laload, 1) := by decide +kernel
theorem dX13_by_58 : decode cX13_by 58 = .ok (.aload_n 0, 1) := by decide +kernel
theorem dX13_by_59 : decode cX13_by 59 = .ok (.getfield 96, 3) := by decide +kernel
theorem dX13_by_62 : decode cX13_by 62 = .ok (.iload_n 1, 1) := by decide +kernel
theorem dX13_by_63 : decode cX13_by 63 = .ok (.iconst 1, 1) := by decide +kernel
theorem dX13_by_64 : decode cX13_by 64 = .ok (.iadd, 1) := by decide +kernel
theorem dX13_by_65 : decode cX13_by 65 = .ok (.laload, 1) := by decide +kernel
theorem dX13_by_66 : decode cX13_by 66 = .ok (.lmul, 1) := by decide +kernel
theorem dX13_by_67 : decode cX13_by 67 = .ok (.lstore_n 3, 1) := by decide +kernel
theorem dX13_by_68 : decode cX13_by 68 = .ok (.aload_n 0, 1) := by decide +kernel
theorem dX13_by_69 : decode cX13_by 69 = .ok (.getfield 96, 3) := by decide +kernel
theorem dX13_by_72 : decode cX13_by 72 = .ok (.iload_n 1, 1) := by decide +kernel
theorem dX13_by_73 : decode cX13_by 73 = .ok (.laload, 1) := by decide +kernel
theorem dX13_by_74 : decode cX13_by 74 = .ok (.aload_n 0, 1) := by decide +kernel
theorem dX13_by_75 : decode cX13_by 75 = .ok (.getfield 93, 3) := by decide +kernel
theorem dX13_by_78 : decode cX13_by 78 = .ok (.iload_n 1, 1) := by decide +kernel
theorem dX13_by_79 : decode cX13_by 79 = .ok (.iconst 1, 1) := by decide +kernel
theorem dX13_by_80 : decode cX13_by 80 = .ok (.iadd, 1) := by decide +kernel
theorem dX13_by_81 : decode cX13_by 81 = .ok (.laload, 1) := by decide +kernel
theorem dX13_by_82 : decode cX13_by 82 = .ok (.lmul, 1) := by decide +kernel
theorem dX13_by_83 : decode cX13_by 83 = .ok (.lstore 5, 2) := by decide +kernel
theorem dX13_by_85 : decode cX13_by 85 = .ok (.aload_n 0, 1) := by decide +kernel
theorem dX13_by_86 : decode cX13_by 86 = .ok (.iload_n 2, 1) := by decide +kernel
theorem dX13_by_87 : decode cX13_by 87 = .ok (.ifCond .eq 8, 3) := by decide +kernel
theorem dX13_by_90 : decode cX13_by 90 = .ok (.lload_n 3, 1) := by decide +kernel
theorem dX13_by_91 : decode cX13_by 91 = .ok (.lneg, 1) := by decide +kernel
theorem dX13_by_92 : decode cX13_by 92 = .ok (.goto 4, 3) := by decide +kernel
theorem dX13_by_95 : decode cX13_by 95 = .ok (.lload_n 3, 1) := by decide +kernel
theorem dX13_by_96 : decode cX13_by 96 = .ok (.iload_n 2, 1) := by decide +kernel
theorem dX13_by_97 : decode cX13_by 97 = .ok (.ifCond .eq 9, 3) := by decide +kernel
theorem dX13_by_100 : decode cX13_by 100 = .ok (.lload 5, 2) := by decide +kernel
theorem dX13_by_102 : decode cX13_by 102 = .ok (.lneg, 1) := by decide +kernel
theorem dX13_by_103 : decode cX13_by 103 = .ok (.goto 5, 3) := by decide +kernel
theorem dX13_by_106 : decode cX13_by 106 = .ok (.lload 5, 2) := by decide +kernel
theorem dX13_by_108 : decode cX13_by 108 = .ok (.invokevirtual 455, 3) := by decide +kernel
theorem dX13_by_111 : decode cX13_by 111 = .ok (.return_, 1) := by decide +kernel
theorem dX13_negative_0 : decode cX13_negative 0 = .ok (.aload_n 0, 1) := by decide +kernel
theorem dX13_negative_1 : decode cX13_negative 1 = .ok (.getfield 93, 3) := by decide +kernel
theorem dX13_negative_4 : decode cX13_negative 4 = .ok (.aload_n 0, 1) := by decide +kernel
theorem dX13_negative_5 : decode cX13_negative 5 = .ok (.getfield 437, 3) := by decide +kernel
theorem dX13_negative_8 : decode cX13_negative 8 = .ok (.iconst 1, 1) := by decide +kernel
theorem dX13_negative_9 : decode cX13_negative 9 = .ok (.isub, 1) := by decide +kernel
theorem dX13_negative_10 : decode cX13_negative 10 = .ok (.aload_n 0, 1) := by decide +kernel
theorem dX13_negative_11 : decode cX13_negative 11 = .ok (.getfield 93, 3) := by decide +kernel
theorem dX13_negative_14 : decode cX13_negative 14 = .ok (.aload_n 0, 1) := by decide +kernel
theorem dX13_negative_15 : decode cX13_negative 15 = .ok (.getfield 437, 3) := by decide +kernel
theorem dX13_negative_18 : decode cX13_negative 18 = .ok (.iconst 1, 1) := by decide +kernel
theorem dX13_negative_19 : decode cX13_negative 19 = .ok (.isub, 1) := by decide +kernel
theorem dX13_negative_20 : decode cX13_negative 20 = .ok (.laload, 1) := by decide +kernel
theorem dX13_negative_21 : decode cX13_negative 21 = .ok (.lneg, 1) := by decide +kernel
theorem dX13_negative_22 : decode cX13_negative 22 = .ok (.lastore, 1) := by decide +kernel
theorem dX13_negative_23 : decode cX13_negative 23 = .ok (.return_, 1) := by decide +kernel
theorem dX13_compare_0 : decode cX13_compare 0 = .ok (.lload_n 0, 1) := by decide +kernel
theorem dX13_compare_1 : decode cX13_compare 1 = .ok (.lload 6, 2) := by decide +kernel
theorem dX13_compare_3 : decode cX13_compare 3 = .ok (.lmul, 1) := by decide +kernel
theorem dX13_compare_4 : decode cX13_compare 4 = .ok (.lstore 8, 2) := by decide +kernel
theorem dX13_compare_6 : decode cX13_compare 6 = .ok (.lload 4, 2) := by decide +kernel
theorem dX13_compare_8 : decode cX13_compare 8 = .ok (.lload_n 2, 1) := by decide +kernel
theorem dX13_compare_9 : decode cX13_compare 9 = .ok (.lmul, 1) := by decide +kernel
theorem dX13_compare_10 : decode cX13_compare 10 = .ok (.lstore 10, 2) := by decide +kernel
theorem dX13_compare_12 : decode cX13_compare 12 = .ok (.lload 8, 2) := by decide +kernel
theorem dX13_compare_14 : decode cX13_compare 14 = .ok (.lload 10, 2) := by decide +kernel
theorem dX13_compare_16 : decode cX13_compare 16 = .ok (.lcmp, 1) := by decide +kernel
theorem dX13_compare_17 : decode cX13_compare 17 = .ok (.ifCond .ge 7, 3) := by decide +kernel
theorem dX13_compare_20 : decode cX13_compare 20 = .ok (.iconst (-1), 1) := by decide +kernel
theorem dX13_compare_21 : decode cX13_compare 21 = .ok (.goto 16, 3) := by decide +kernel
theorem dX13_compare_24 : decode cX13_compare 24 = .ok (.lload 8, 2) := by decide +kernel
theorem dX13_compare_26 : decode cX13_compare 26 = .ok (.lload 10, 2) := by decide +kernel
theorem dX13_compare_28 : decode cX13_compare 28 = .ok (.lcmp, 1) := by decide +kernel
theorem dX13_compare_29 : decode cX13_compare 29 = .ok (.ifCond .le 7, 3) := by decide +kernel
theorem dX13_compare_32 : decode cX13_compare 32 = .ok (.iconst 1, 1) := by decide +kernel
theorem dX13_compare_33 : decode cX13_compare 33 = .ok (.goto 4, 3) := by decide +kernel
theorem dX13_compare_36 : decode cX13_compare 36 = .ok (.iconst 0, 1) := by decide +kernel
theorem dX13_compare_37 : decode cX13_compare 37 = .ok (.ireturn, 1) := by decide +kernel
theorem dX13_newThing_0 : decode cX13_newThing 0 = .ok (.aload_n 0, 1) := by decide +kernel
theorem dX13_newThing_1 : decode cX13_newThing 1 = .ok (.getfield 99, 3) := by decide +kernel
theorem dX13_newThing_4 : decode cX13_newThing 4 = .ok (.aload_n 0, 1) := by decide +kernel
theorem dX13_newThing_5 : decode cX13_newThing 5 = .ok (.getfield 457, 3) := by decide +kernel
theorem dX13_newThing_8 : decode cX13_newThing 8 = .ok (.iload_n 1, 1) := by decide +kernel
theorem dX13_newThing_9 : decode cX13_newThing 9 = .ok (.iastore, 1) := by decide +kernel
theorem dX13_newThing_10 : decode cX13_newThing 10 = .ok (.aload_n 0, 1) := by decide +kernel
theorem dX13_newThing_11 : decode cX13_newThing 11 = .ok (.getfield 102, 3) := by decide +kernel
theorem dX13_newThing_14 : decode cX13_newThing 14 = .ok (.aload_n 0, 1) := by decide +kernel
theorem dX13_newThing_15 : decode cX13_newThing 15 = .ok (.getfield 457, 3) := by decide +kernel
theorem dX13_newThing_18 : decode cX13_newThing 18 = .ok (.iconst 0, 1) := by decide +kernel
theorem dX13_newThing_19 : decode cX13_newThing 19 = .ok (.iastore, 1) := by decide +kernel
theorem dX13_newThing_20 : decode cX13_newThing 20 = .ok (.iconst 0, 1) := by decide +kernel
theorem dX13_newThing_21 : decode cX13_newThing 21 = .ok (.istore_n 2, 1) := by decide +kernel
theorem dX13_newThing_22 : decode cX13_newThing 22 = .ok (.iload_n 2, 1) := by decide +kernel
theorem dX13_newThing_23 : decode cX13_newThing 23 = .ok (.bipush 7, 2) := by decide +kernel
theorem dX13_newThing_25 : decode cX13_newThing 25 = .ok (.if_icmp .ge 39, 3) := by decide +kernel
theorem dX13_newThing_28 : decode cX13_newThing 28 = .ok (.aload_n 0, 1) := by decide +kernel
theorem dX13_newThing_29 : decode cX13_newThing 29 = .ok (.getfield 108, 3) := by decide +kernel
theorem dX13_newThing_32 : decode cX13_newThing 32 = .ok (.bipush 7, 2) := by decide +kernel
theorem dX13_newThing_34 : decode cX13_newThing 34 = .ok (.aload_n 0, 1) := by decide +kernel
theorem dX13_newThing_35 : decode cX13_newThing 35 = .ok (.getfield 457, 3) := by decide +kernel
theorem dX13_newThing_38 : decode cX13_newThing 38 = .ok (.imul, 1) := by decide +kernel
theorem dX13_newThing_39 : decode cX13_newThing 39 = .ok (.iload_n 2, 1) := by decide +kernel
theorem dX13_newThing_40 : decode cX13_newThing 40 = .ok (.iadd, 1) := by decide +kernel
theorem dX13_newThing_41 : decode cX13_newThing 41 = .ok (.lconst 0, 1) := by decide +kernel
theorem dX13_newThing_42 : decode cX13_newThing 42 = .ok (.lastore, 1) := by decide +kernel
theorem dX13_newThing_43 : decode cX13_newThing 43 = .ok (.aload_n 0, 1) := by decide +kernel
theorem dX13_newThing_44 : decode cX13_newThing 44 = .ok (.getfield 111, 3) := by decide +kernel
theorem dX13_newThing_47 : decode cX13_newThing 47 = .ok (.bipush 7, 2) := by decide +kernel
theorem dX13_newThing_49 : decode cX13_newThing 49 = .ok (.aload_n 0, 1) := by decide +kernel
theorem dX13_newThing_50 : decode cX13_newThing 50 = .ok (.getfield 457, 3) := by decide +kernel
theorem dX13_newThing_53 : decode cX13_newThing 53 = .ok (.imul, 1) := by decide +kernel
theorem dX13_newThing_54 : decode cX13_newThing 54 = .ok (.iload_n 2, 1) := by decide +kernel
theorem dX13_newThing_55 : decode cX13_newThing 55 = .ok (.iadd, 1) := by decide +kernel
theorem dX13_newThing_56 : decode cX13_newThing 56 = .ok (.lconst 1, 1) := by decide +kernel
theorem dX13_newThing_57 : decode cX13_newThing 57 = .ok (.lastore, 1) := by decide +kernel
theorem dX13_newThing_58 : decode cX13_newThing 58 = .ok (.iinc 2 1, 3) := by decide +kernel
theorem dX13_newThing_61 : decode cX13_newThing 61 = .ok (.goto (-39), 3) := by decide +kernel
theorem dX13_newThing_64 : decode cX13_newThing 64 = .ok (.aload_n 0, 1) := by decide +kernel
theorem dX13_newThing_65 : decode cX13_newThing 65 = .ok (.dup, 1) := by decide +kernel
theorem dX13_newThing_66 : decode cX13_newThing 66 = .ok (.getfield 457, 3) := by decide +kernel
theorem dX13_newThing_69 : decode cX13_newThing 69 = .ok (.iconst 1, 1) := by decide +kernel
theorem dX13_newThing_70 : decode cX13_newThing 70 = .ok (.iadd, 1) := by decide +kernel
theorem dX13_newThing_71 : decode cX13_newThing 71 = .ok (.putfield 457, 3) := by decide +kernel
theorem dX13_newThing_74 : decode cX13_newThing 74 = .ok (.aload_n 0, 1) := by decide +kernel
theorem dX13_newThing_75 : decode cX13_newThing 75 = .ok (.getfield 457, 3) := by decide +kernel
theorem dX13_newThing_78 : decode cX13_newThing 78 = .ok (.iconst 1, 1) := by decide +kernel
theorem dX13_newThing_79 : decode cX13_newThing 79 = .ok (.isub, 1) := by decide +kernel
theorem dX13_newThing_80 : decode cX13_newThing 80 = .ok (.ireturn, 1) := by decide +kernel
theorem dX13_part_0 : decode cX13_part 0 = .ok (.aload_n 0, 1) := by decide +kernel
theorem dX13_part_1 : decode cX13_part 1 = .ok (.aload_n 0, 1) := by decide +kernel
theorem dX13_part_2 : decode cX13_part 2 = .ok (.getfield 108, 3) := by decide +kernel
theorem dX13_part_5 : decode cX13_part 5 = .ok (.bipush 7, 2) := by decide +kernel
theorem dX13_part_7 : decode cX13_part 7 = .ok (.iload_n 1, 1) := by decide +kernel
theorem dX13_part_8 : decode cX13_part 8 = .ok (.imul, 1) := by decide +kernel
theorem dX13_part_9 : decode cX13_part 9 = .ok (.iload_n 2, 1) := by decide +kernel
theorem dX13_part_10 : decode cX13_part 10 = .ok (.iadd, 1) := by decide +kernel
theorem dX13_part_11 : decode cX13_part 11 = .ok (.laload, 1) := by decide +kernel
theorem dX13_part_12 : decode cX13_part 12 = .ok (.aload_n 0, 1) := by decide +kernel
theorem dX13_part_13 : decode cX13_part 13 = .ok (.getfield 111, 3) := by decide +kernel
theorem dX13_part_16 : decode cX13_part 16 = .ok (.bipush 7, 2) := by decide +kernel
theorem dX13_part_18 : decode cX13_part 18 = .ok (.iload_n 1, 1) := by decide +kernel
theorem dX13_part_19 : decode cX13_part 19 = .ok (.imul, 1) := by decide +kernel
theorem dX13_part_20 : decode cX13_part 20 = .ok (.iload_n 2, 1) := by decide +kernel
theorem dX13_part_21 : decode cX13_part 21 = .ok (.iadd, 1) := by decide +kernel
theorem dX13_part_22 : decode cX13_part 22 = .ok (.laload, 1) := by decide +kernel
theorem dX13_part_23 : decode cX13_part 23 = .ok (.invokevirtual 440, 3) := by decide +kernel
theorem dX13_part_26 : decode cX13_part 26 = .ok (.return_, 1) := by decide +kernel
theorem dX13_keep_0 : decode cX13_keep 0 = .ok (.aload_n 0, 1) := by decide +kernel
theorem dX13_keep_1 : decode cX13_keep 1 = .ok (.dup, 1) := by decide +kernel
theorem dX13_keep_2 : decode cX13_keep 2 = .ok (.getfield 437, 3) := by decide +kernel
theorem dX13_keep_5 : decode cX13_keep 5 = .ok (.iconst 1, 1) := by decide +kernel
theorem dX13_keep_6 : decode cX13_keep 6 = .ok (.isub, 1) := by decide +kernel
theorem dX13_keep_7 : decode cX13_keep 7 = .ok (.putfield 437, 3) := by decide +kernel
theorem dX13_keep_10 : decode cX13_keep 10 = .ok (.aload_n 0, 1) := by decide +kernel
theorem dX13_keep_11 : decode cX13_keep 11 = .ok (.getfield 108, 3) := by decide +kernel
theorem dX13_keep_14 : decode cX13_keep 14 = .ok (.bipush 7, 2) := by decide +kernel
theorem dX13_keep_16 : decode cX13_keep 16 = .ok (.iload_n 1, 1) := by decide +kernel
theorem dX13_keep_17 : decode cX13_keep 17 = .ok (.imul, 1) := by decide +kernel
theorem dX13_keep_18 : decode cX13_keep 18 = .ok (.iload_n 2, 1) := by decide +kernel
theorem dX13_keep_19 : decode cX13_keep 19 = .ok (.iadd, 1) := by decide +kernel
theorem dX13_keep_20 : decode cX13_keep 20 = .ok (.aload_n 0, 1) := by decide +kernel
theorem dX13_keep_21 : decode cX13_keep 21 = .ok (.getfield 93, 3) := by decide +kernel
theorem dX13_keep_24 : decode cX13_keep 24 = .ok (.aload_n 0, 1) := by decide +kernel
theorem dX13_keep_25 : decode cX13_keep 25 = .ok (.getfield 437, 3) := by decide +kernel
theorem dX13_keep_28 : decode cX13_keep 28 = .ok (.laload, 1) := by decide +kernel
theorem dX13_keep_29 : decode cX13_keep 29 = .ok (.lastore, 1) := by decide +kernel
theorem dX13_keep_30 : decode cX13_keep 30 = .ok (.aload_n 0, 1) := by decide +kernel
theorem dX13_keep_31 : decode cX13_keep 31 = .ok (.getfield 111, 3) := by decide +kernel
theorem dX13_keep_34 : decode cX13_keep 34 = .ok (.bipush 7, 2) := by decide +kernel
theorem dX13_keep_36 : decode cX13_keep 36 = .ok (.iload_n 1, 1) := by decide +kernel
theorem dX13_keep_37 : decode cX13_keep 37 = .ok (.imul, 1) := by decide +kernel
theorem dX13_keep_38 : decode cX13_keep 38 = .ok (.iload_n 2, 1) := by decide +kernel
theorem dX13_keep_39 : decode cX13_keep 39 = .ok (.iadd, 1) := by decide +kernel
theorem dX13_keep_40 : decode cX13_keep 40 = .ok (.aload_n 0, 1) := by decide +kernel
theorem dX13_keep_41 : decode cX13_keep 41 = .ok (.getfield 96, 3) := by decide +kernel
theorem dX13_keep_44 : decode cX13_keep 44 = .ok (.aload_n 0, 1) := by decide +kernel
theorem dX13_keep_45 : decode cX13_keep 45 = .ok (.getfield 437, 3) := by decide +kernel
theorem dX13_keep_48 : decode cX13_keep 48 = .ok (.laload, 1) := by decide +kernel
theorem dX13_keep_49 : decode cX13_keep 49 = .ok (.lastore, 1) := by decide +kernel
theorem dX13_keep_50 : decode cX13_keep 50 = .ok (.return_, 1) := by decide +kernel
theorem dX13_isPoint_0 : decode cX13_isPoint 0 = .ok (.iload_n 0, 1) := by decide +kernel
theorem dX13_isPoint_1 : decode cX13_isPoint 1 = .ok (.iconst 1, 1) := by decide +kernel
theorem dX13_isPoint_2 : decode cX13_isPoint 2 = .ok (.if_icmp .eq 8, 3) := by decide +kernel
theorem dX13_isPoint_5 : decode cX13_isPoint 5 = .ok (.iload_n 0, 1) := by decide +kernel
theorem dX13_isPoint_6 : decode cX13_isPoint 6 = .ok (.iconst 2, 1) := by decide +kernel
theorem dX13_isPoint_7 : decode cX13_isPoint 7 = .ok (.if_icmp .ne 7, 3) := by decide +kernel
theorem dX13_isPoint_10 : decode cX13_isPoint 10 = .ok (.iconst 1, 1) := by decide +kernel
theorem dX13_isPoint_11 : decode cX13_isPoint 11 = .ok (.goto 4, 3) := by decide +kernel
theorem dX13_isPoint_14 : decode cX13_isPoint 14 = .ok (.iconst 0, 1) := by decide +kernel
theorem dX13_isPoint_15 : decode cX13_isPoint 15 = .ok (.ireturn, 1) := by decide +kernel
theorem dX13_isLine_0 : decode cX13_isLine 0 = .ok (.iload_n 0, 1) := by decide +kernel
theorem dX13_isLine_1 : decode cX13_isLine 1 = .ok (.iconst 3, 1) := by decide +kernel
theorem dX13_isLine_2 : decode cX13_isLine 2 = .ok (.if_icmp .eq 8, 3) := by decide +kernel
theorem dX13_isLine_5 : decode cX13_isLine 5 = .ok (.iload_n 0, 1) := by decide +kernel
theorem dX13_isLine_6 : decode cX13_isLine 6 = .ok (.iconst 4, 1) := by decide +kernel
theorem dX13_isLine_7 : decode cX13_isLine 7 = .ok (.if_icmp .ne 7, 3) := by decide +kernel
theorem dX13_isLine_10 : decode cX13_isLine 10 = .ok (.iconst 1, 1) := by decide +kernel
theorem dX13_isLine_11 : decode cX13_isLine 11 = .ok (.goto 4, 3) := by decide +kernel
theorem dX13_isLine_14 : decode cX13_isLine 14 = .ok (.iconst 0, 1) := by decide +kernel
theorem dX13_isLine_15 : decode cX13_isLine 15 = .ok (.ireturn, 1) := by decide +kernel
theorem dX13_normal_0 : decode cX13_normal 0 = .ok (.aload_n 0, 1) := by decide +kernel
theorem dX13_normal_1 : decode cX13_normal 1 = .ok (.getfield 108, 3) := by decide +kernel
theorem dX13_normal_4 : decode cX13_normal 4 = .ok (.bipush 7, 2) := by decide +kernel
theorem dX13_normal_6 : decode cX13_normal 6 = .ok (.iload_n 1, 1) := by decide +kernel
theorem dX13_normal_7 : decode cX13_normal 7 = .ok (.imul, 1) := by decide +kernel
theorem dX13_normal_8 : decode cX13_normal 8 = .ok (.laload, 1) := by decide +kernel
theorem dX13_normal_9 : decode cX13_normal 9 = .ok (.lconst 0, 1) := by decide +kernel
theorem dX13_normal_10 : decode cX13_normal 10 = .ok (.lcmp, 1) := by decide +kernel
theorem dX13_normal_11 : decode cX13_normal 11 = .ok (.ifCond .eq 7, 3) := by decide +kernel
theorem dX13_normal_14 : decode cX13_normal 14 = .ok (.iconst 0, 1) := by decide +kernel
theorem dX13_normal_15 : decode cX13_normal 15 = .ok (.goto 4, 3) := by decide +kernel
theorem dX13_normal_18 : decode cX13_normal 18 = .ok (.iconst 1, 1) := by decide +kernel
theorem dX13_normal_19 : decode cX13_normal 19 = .ok (.istore_n 2, 1) := by decide +kernel
theorem dX13_normal_20 : decode cX13_normal 20 = .ok (.aload_n 0, 1) := by decide +kernel
theorem dX13_normal_21 : decode cX13_normal 21 = .ok (.getfield 108, 3) := by decide +kernel
theorem dX13_normal_24 : decode cX13_normal 24 = .ok (.bipush 7, 2) := by decide +kernel
theorem dX13_normal_26 : decode cX13_normal 26 = .ok (.iload_n 1, 1) := by decide +kernel
theorem dX13_normal_27 : decode cX13_normal 27 = .ok (.imul, 1) := by decide +kernel
theorem dX13_normal_28 : decode cX13_normal 28 = .ok (.iload_n 2, 1) := by decide +kernel
theorem dX13_normal_29 : decode cX13_normal 29 = .ok (.iadd, 1) := by decide +kernel
theorem dX13_normal_30 : decode cX13_normal 30 = .ok (.laload, 1) := by decide +kernel
theorem dX13_normal_31 : decode cX13_normal 31 = .ok (.lstore_n 3, 1) := by decide +kernel
theorem dX13_normal_32 : decode cX13_normal 32 = .ok (.aload_n 0, 1) := by decide +kernel
theorem dX13_normal_33 : decode cX13_normal 33 = .ok (.getfield 111, 3) := by decide +kernel
theorem dX13_normal_36 : decode cX13_normal 36 = .ok (.bipush 7, 2) := by decide +kernel
theorem dX13_normal_38 : decode cX13_normal 38 = .ok (.iload_n 1, 1) := by decide +kernel
theorem dX13_normal_39 : decode cX13_normal 39 = .ok (.imul, 1) := by decide +kernel
theorem dX13_normal_40 : decode cX13_normal 40 = .ok (.iload_n 2, 1) := by decide +kernel
theorem dX13_normal_41 : decode cX13_normal 41 = .ok (.iadd, 1) := by decide +kernel
theorem dX13_normal_42 : decode cX13_normal 42 = .ok (.laload, 1) := by decide +kernel
theorem dX13_normal_43 : decode cX13_normal 43 = .ok (.lstore 5, 2) := by decide +kernel
theorem dX13_normal_45 : decode cX13_normal 45 = .ok (.iconst 0, 1) := by decide +kernel
theorem dX13_normal_46 : decode cX13_normal 46 = .ok (.istore 7, 2) := by decide +kernel
theorem dX13_normal_48 : decode cX13_normal 48 = .ok (.iload 7, 2) := by decide +kernel
theorem dX13_normal_50 : decode cX13_normal 50 = .ok (.iconst 3, 1) := by decide +kernel
theorem dX13_normal_51 : decode cX13_normal 51 = .ok (.if_icmp .ge 34, 3) := by decide +kernel
theorem dX13_normal_54 : decode cX13_normal 54 = .ok (.aload_n 0, 1) := by decide +kernel
theorem dX13_normal_55 : decode cX13_normal 55 = .ok (.iload_n 1, 1) := by decide +kernel
theorem dX13_normal_56 : decode cX13_normal 56 = .ok (.iload 7, 2) := by decide +kernel
theorem dX13_normal_58 : decode cX13_normal 58 = .ok (.invokevirtual 460, 3) := by decide +kernel
theorem dX13_normal_61 : decode cX13_normal 61 = .ok (.aload_n 0, 1) := by decide +kernel
theorem dX13_normal_62 : decode cX13_normal 62 = .ok (.lload_n 3, 1) := by decide +kernel
theorem dX13_normal_63 : decode cX13_normal 63 = .ok (.lload 5, 2) := by decide +kernel
theorem dX13_normal_65 : decode cX13_normal 65 = .ok (.invokevirtual 440, 3) := by decide +kernel
theorem dX13_normal_68 : decode cX13_normal 68 = .ok (.aload_n 0, 1) := by decide +kernel
theorem dX13_normal_69 : decode cX13_normal 69 = .ok (.invokevirtual 463, 3) := by decide +kernel
theorem dX13_normal_72 : decode cX13_normal 72 = .ok (.aload_n 0, 1) := by decide +kernel
theorem dX13_normal_73 : decode cX13_normal 73 = .ok (.iload_n 1, 1) := by decide +kernel
theorem dX13_normal_74 : decode cX13_normal 74 = .ok (.iload 7, 2) := by decide +kernel
theorem dX13_normal_76 : decode cX13_normal 76 = .ok (.invokevirtual 466, 3) := by decide +kernel
theorem dX13_normal_79 : decode cX13_normal 79 = .ok (.iinc 7 1, 3) := by decide +kernel
theorem dX13_normal_82 : decode cX13_normal 82 = .ok (.goto (-34), 3) := by decide +kernel
theorem dX13_normal_85 : decode cX13_normal 85 = .ok (.return_, 1) := by decide +kernel
theorem dX13_line_0 : decode cX13_line 0 = .ok (.aload_n 0, 1) := by decide +kernel
theorem dX13_line_1 : decode cX13_line 1 = .ok (.iload_n 3, 1) := by decide +kernel
theorem dX13_line_2 : decode cX13_line 2 = .ok (.invokevirtual 469, 3) := by decide +kernel
theorem dX13_line_5 : decode cX13_line 5 = .ok (.istore 4, 2) := by decide +kernel
theorem dX13_line_7 : decode cX13_line 7 = .ok (.aload_n 0, 1) := by decide +kernel
theorem dX13_line_8 : decode cX13_line 8 = .ok (.iload_n 1, 1) := by decide +kernel
theorem dX13_line_9 : decode cX13_line 9 = .ok (.iconst 1, 1) := by decide +kernel
theorem dX13_line_10 : decode cX13_line 10 = .ok (.invokevirtual 460, 3) := by decide +kernel
theorem dX13_line_13 : decode cX13_line 13 = .ok (.aload_n 0, 1) := by decide +kernel
theorem dX13_line_14 : decode cX13_line 14 = .ok (.iload_n 2, 1) := by decide +kernel
theorem dX13_line_15 : decode cX13_line 15 = .ok (.iconst 1, 1) := by decide +kernel
theorem dX13_line_16 : decode cX13_line 16 = .ok (.invokevirtual 460, 3) := by decide +kernel
theorem dX13_line_19 : decode cX13_line 19 = .ok (.aload_n 0, 1) := by decide +kernel
theorem dX13_line_20 : decode cX13_line 20 = .ok (.invokevirtual 472, 3) := by decide +kernel
theorem dX13_line_23 : decode cX13_line 23 = .ok (.aload_n 0, 1) := by decide +kernel
theorem dX13_line_24 : decode cX13_line 24 = .ok (.iload 4, 2) := by decide +kernel
theorem dX13_line_26 : decode cX13_line 26 = .ok (.iconst 0, 1) := by decide +kernel
theorem dX13_line_27 : decode cX13_line 27 = .ok (.invokevirtual 466, 3) := by decide +kernel
theorem dX13_line_30 : decode cX13_line 30 = .ok (.aload_n 0, 1) := by decide +kernel
theorem dX13_line_31 : decode cX13_line 31 = .ok (.iload_n 2, 1) := by decide +kernel
theorem dX13_line_32 : decode cX13_line 32 = .ok (.iconst 0, 1) := by decide +kernel
theorem dX13_line_33 : decode cX13_line 33 = .ok (.invokevirtual 460, 3) := by decide +kernel
theorem dX13_line_36 : decode cX13_line 36 = .ok (.aload_n 0, 1) := by decide +kernel
theorem dX13_line_37 : decode cX13_line 37 = .ok (.iload_n 1, 1) := by decide +kernel
theorem dX13_line_38 : decode cX13_line 38 = .ok (.iconst 0, 1) := by decide +kernel
theorem dX13_line_39 : decode cX13_line 39 = .ok (.invokevirtual 460, 3) := by decide +kernel
theorem dX13_line_42 : decode cX13_line 42 = .ok (.aload_n 0, 1) := by decide +kernel
theorem dX13_line_43 : decode cX13_line 43 = .ok (.invokevirtual 472, 3) := by decide +kernel
theorem dX13_line_46 : decode cX13_line 46 = .ok (.aload_n 0, 1) := by decide +kernel
theorem dX13_line_47 : decode cX13_line 47 = .ok (.iload 4, 2) := by decide +kernel
theorem dX13_line_49 : decode cX13_line 49 = .ok (.iconst 1, 1) := by decide +kernel
theorem dX13_line_50 : decode cX13_line 50 = .ok (.invokevirtual 466, 3) := by decide +kernel
theorem dX13_line_53 : decode cX13_line 53 = .ok (.aload_n 0, 1) := by decide +kernel
theorem dX13_line_54 : decode cX13_line 54 = .ok (.iload_n 1, 1) := by decide +kernel
theorem dX13_line_55 : decode cX13_line 55 = .ok (.iconst 1, 1) := by decide +kernel
theorem dX13_line_56 : decode cX13_line 56 = .ok (.invokevirtual 460, 3) := by decide +kernel
theorem dX13_line_59 : decode cX13_line 59 = .ok (.aload_n 0, 1) := by decide +kernel
theorem dX13_line_60 : decode cX13_line 60 = .ok (.iload_n 2, 1) := by decide +kernel
theorem dX13_line_61 : decode cX13_line 61 = .ok (.iconst 1, 1) := by decide +kernel
theorem dX13_line_62 : decode cX13_line 62 = .ok (.invokevirtual 460, 3) := by decide +kernel
theorem dX13_line_65 : decode cX13_line 65 = .ok (.aload_n 0, 1) := by decide +kernel
theorem dX13_line_66 : decode cX13_line 66 = .ok (.invokevirtual 472, 3) := by decide +kernel
theorem dX13_line_69 : decode cX13_line 69 = .ok (.aload_n 0, 1) := by decide +kernel
theorem dX13_line_70 : decode cX13_line 70 = .ok (.iload_n 1, 1) := by decide +kernel
theorem dX13_line_71 : decode cX13_line 71 = .ok (.iconst 0, 1) := by decide +kernel
theorem dX13_line_72 : decode cX13_line 72 = .ok (.invokevirtual 460, 3) := by decide +kernel
theorem dX13_line_75 : decode cX13_line 75 = .ok (.aload_n 0, 1) := by decide +kernel
theorem dX13_line_76 : decode cX13_line 76 = .ok (.invokevirtual 475, 3) := by decide +kernel
theorem dX13_line_79 : decode cX13_line 79 = .ok (.aload_n 0, 1) := by decide +kernel
theorem dX13_line_80 : decode cX13_line 80 = .ok (.iload_n 2, 1) := by decide +kernel
theorem dX13_line_81 : decode cX13_line 81 = .ok (.iconst 0, 1) := by decide +kernel
theorem dX13_line_82 : decode cX13_line 82 = .ok (.invokevirtual 460, 3) := by decide +kernel
theorem dX13_line_85 : decode cX13_line 85 = .ok (.aload_n 0, 1) := by decide +kernel
theorem dX13_line_86 : decode cX13_line 86 = .ok (.iload_n 1, 1) := by decide +kernel
theorem dX13_line_87 : decode cX13_line 87 = .ok (.iconst 0, 1) := by decide +kernel
theorem dX13_line_88 : decode cX13_line 88 = .ok (.invokevirtual 460, 3) := by decide +kernel
theorem dX13_line_91 : decode cX13_line 91 = .ok (.aload_n 0, 1) := by decide +kernel
theorem dX13_line_92 : decode cX13_line 92 = .ok (.invokevirtual 472, 3) := by decide +kernel
theorem dX13_line_95 : decode cX13_line 95 = .ok (.aload_n 0, 1) := by decide +kernel
theorem dX13_line_96 : decode cX13_line 96 = .ok (.iload_n 1, 1) := by decide +kernel
theorem dX13_line_97 : decode cX13_line 97 = .ok (.iconst 1, 1) := by decide +kernel
theorem dX13_line_98 : decode cX13_line 98 = .ok (.invokevirtual 460, 3) := by decide +kernel
theorem dX13_line_101 : decode cX13_line 101 = .ok (.aload_n 0, 1) := by decide +kernel
theorem dX13_line_102 : decode cX13_line 102 = .ok (.invokevirtual 475, 3) := by decide +kernel
theorem dX13_line_105 : decode cX13_line 105 = .ok (.aload_n 0, 1) := by decide +kernel
theorem dX13_line_106 : decode cX13_line 106 = .ok (.invokevirtual 478, 3) := by decide +kernel
theorem dX13_line_109 : decode cX13_line 109 = .ok (.aload_n 0, 1) := by decide +kernel
theorem dX13_line_110 : decode cX13_line 110 = .ok (.iload 4, 2) := by decide +kernel
theorem dX13_line_112 : decode cX13_line 112 = .ok (.iconst 2, 1) := by decide +kernel
theorem dX13_line_113 : decode cX13_line 113 = .ok (.invokevirtual 466, 3) := by decide +kernel
theorem dX13_line_116 : decode cX13_line 116 = .ok (.aload_n 0, 1) := by decide +kernel
theorem dX13_line_117 : decode cX13_line 117 = .ok (.iload 4, 2) := by decide +kernel
theorem dX13_line_119 : decode cX13_line 119 = .ok (.invokevirtual 481, 3) := by decide +kernel
theorem dX13_line_122 : decode cX13_line 122 = .ok (.iload_n 3, 1) := by decide +kernel
theorem dX13_line_123 : decode cX13_line 123 = .ok (.iconst 4, 1) := by decide +kernel
theorem dX13_line_124 : decode cX13_line 124 = .ok (.if_icmp .ne 52, 3) := by decide +kernel
theorem dX13_line_127 : decode cX13_line 127 = .ok (.iconst 0, 1) := by decide +kernel
theorem dX13_line_128 : decode cX13_line 128 = .ok (.istore 5, 2) := by decide +kernel
theorem dX13_line_130 : decode cX13_line 130 = .ok (.iload 5, 2) := by decide +kernel
theorem dX13_line_132 : decode cX13_line 132 = .ok (.iconst 2, 1) := by decide +kernel
theorem dX13_line_133 : decode cX13_line 133 = .ok (.if_icmp .ge 43, 3) := by decide +kernel
theorem dX13_line_136 : decode cX13_line 136 = .ok (.aload_n 0, 1) := by decide +kernel
theorem dX13_line_137 : decode cX13_line 137 = .ok (.iload_n 1, 1) := by decide +kernel
theorem dX13_line_138 : decode cX13_line 138 = .ok (.iload 5, 2) := by decide +kernel
theorem dX13_line_140 : decode cX13_line 140 = .ok (.invokevirtual 460, 3) := by decide +kernel
theorem dX13_line_143 : decode cX13_line 143 = .ok (.aload_n 0, 1) := by decide +kernel
theorem dX13_line_144 : decode cX13_line 144 = .ok (.iload 4, 2) := by decide +kernel
theorem dX13_line_146 : decode cX13_line 146 = .ok (.iconst 3, 1) := by decide +kernel
theorem dX13_line_147 : decode cX13_line 147 = .ok (.iload 5, 2) := by decide +kernel
theorem dX13_line_149 : decode cX13_line 149 = .ok (.iadd, 1) := by decide +kernel
theorem dX13_line_150 : decode cX13_line 150 = .ok (.invokevirtual 466, 3) := by decide +kernel
theorem dX13_line_153 : decode cX13_line 153 = .ok (.aload_n 0, 1) := by decide +kernel
theorem dX13_line_154 : decode cX13_line 154 = .ok (.iload_n 2, 1) := by decide +kernel
theorem dX13_line_155 : decode cX13_line 155 = .ok (.iload 5, 2) := by decide +kernel
theorem dX13_line_157 : decode cX13_line 157 = .ok (.invokevirtual 460, 3) := by decide +kernel
theorem dX13_line_160 : decode cX13_line 160 = .ok (.aload_n 0, 1) := by decide +kernel
theorem dX13_line_161 : decode cX13_line 161 = .ok (.iload 4, 2) := by decide +kernel
theorem dX13_line_163 : decode cX13_line 163 = .ok (.iconst 5, 1) := by decide +kernel
theorem dX13_line_164 : decode cX13_line 164 = .ok (.iload 5, 2) := by decide +kernel
theorem dX13_line_166 : decode cX13_line 166 = .ok (.iadd, 1) := by decide +kernel
theorem dX13_line_167 : decode cX13_line 167 = .ok (.invokevirtual 466, 3) := by decide +kernel
theorem dX13_line_170 : decode cX13_line 170 = .ok (.iinc 5 1, 3) := by decide +kernel
theorem dX13_line_173 : decode cX13_line 173 = .ok (.goto (-43), 3) := by decide +kernel
theorem dX13_line_176 : decode cX13_line 176 = .ok (.iload 4, 2) := by decide +kernel
theorem dX13_line_178 : decode cX13_line 178 = .ok (.ireturn, 1) := by decide +kernel
theorem dX13_mid_0 : decode cX13_mid 0 = .ok (.aload_n 0, 1) := by decide +kernel
theorem dX13_mid_1 : decode cX13_mid 1 = .ok (.iconst 1, 1) := by decide +kernel
theorem dX13_mid_2 : decode cX13_mid 2 = .ok (.invokevirtual 469, 3) := by decide +kernel
theorem dX13_mid_5 : decode cX13_mid 5 = .ok (.istore_n 3, 1) := by decide +kernel
theorem dX13_mid_6 : decode cX13_mid 6 = .ok (.iconst 0, 1) := by decide +kernel
theorem dX13_mid_7 : decode cX13_mid 7 = .ok (.istore 4, 2) := by decide +kernel
theorem dX13_mid_9 : decode cX13_mid 9 = .ok (.iload 4, 2) := by decide +kernel
theorem dX13_mid_11 : decode cX13_mid 11 = .ok (.iconst 2, 1) := by decide +kernel
theorem dX13_mid_12 : decode cX13_mid 12 = .ok (.if_icmp .ge 45, 3) := by decide +kernel
theorem dX13_mid_15 : decode cX13_mid 15 = .ok (.aload_n 0, 1) := by decide +kernel
theorem dX13_mid_16 : decode cX13_mid 16 = .ok (.iload_n 1, 1) := by decide +kernel
theorem dX13_mid_17 : decode cX13_mid 17 = .ok (.iload 4, 2) := by decide +kernel
theorem dX13_mid_19 : decode cX13_mid 19 = .ok (.invokevirtual 460, 3) := by decide +kernel
theorem dX13_mid_22 : decode cX13_mid 22 = .ok (.aload_n 0, 1) := by decide +kernel
theorem dX13_mid_23 : decode cX13_mid 23 = .ok (.iload_n 2, 1) := by decide +kernel
theorem dX13_mid_24 : decode cX13_mid 24 = .ok (.iload 4, 2) := by decide +kernel
theorem dX13_mid_26 : decode cX13_mid 26 = .ok (.invokevirtual 460, 3) := by decide +kernel
theorem dX13_mid_29 : decode cX13_mid 29 = .ok (.aload_n 0, 1) := by decide +kernel
theorem dX13_mid_30 : decode cX13_mid 30 = .ok (.invokevirtual 478, 3) := by decide +kernel
theorem dX13_mid_33 : decode cX13_mid 33 = .ok (.aload_n 0, 1) := by decide +kernel
theorem dX13_mid_34 : decode cX13_mid 34 = .ok (.ldc2_w 484, 3) := by decide +kernel
theorem dX13_mid_37 : decode cX13_mid 37 = .ok (.invokevirtual 486, 3) := by decide +kernel
theorem dX13_mid_40 : decode cX13_mid 40 = .ok (.aload_n 0, 1) := by decide +kernel
theorem dX13_mid_41 : decode cX13_mid 41 = .ok (.invokevirtual 463, 3) := by decide +kernel
theorem dX13_mid_44 : decode cX13_mid 44 = .ok (.aload_n 0, 1) := by decide +kernel
theorem dX13_mid_45 : decode cX13_mid 45 = .ok (.iload_n 3, 1) := by decide +kernel
theorem dX13_mid_46 : decode cX13_mid 46 = .ok (.iload 4, 2) := by decide +kernel
theorem dX13_mid_48 : decode cX13_mid 48 = .ok (.invokevirtual 466, 3) := by decide +kernel
theorem dX13_mid_51 : decode cX13_mid 51 = .ok (.iinc 4 1, 3) := by decide +kernel
theorem dX13_mid_54 : decode cX13_mid 54 = .ok (.goto (-45), 3) := by decide +kernel
theorem dX13_mid_57 : decode cX13_mid 57 = .ok (.iload_n 3, 1) := by decide +kernel
theorem dX13_mid_58 : decode cX13_mid 58 = .ok (.ireturn, 1) := by decide +kernel
theorem dX13_through_0 : decode cX13_through 0 = .ok (.aload_n 0, 1) := by decide +kernel
theorem dX13_through_1 : decode cX13_through 1 = .ok (.iload_n 1, 1) := by decide +kernel
theorem dX13_through_2 : decode cX13_through 2 = .ok (.iconst 0, 1) := by decide +kernel
theorem dX13_through_3 : decode cX13_through 3 = .ok (.invokevirtual 460, 3) := by decide +kernel
theorem dX13_through_6 : decode cX13_through 6 = .ok (.aload_n 0, 1) := by decide +kernel
theorem dX13_through_7 : decode cX13_through 7 = .ok (.iload_n 2, 1) := by decide +kernel
theorem dX13_through_8 : decode cX13_through 8 = .ok (.iconst 0, 1) := by decide +kernel
theorem dX13_through_9 : decode cX13_through 9 = .ok (.invokevirtual 460, 3) := by decide +kernel
theorem dX13_through_12 : decode cX13_through 12 = .ok (.aload_n 0, 1) := by decide +kernel
theorem dX13_through_13 : decode cX13_through 13 = .ok (.invokevirtual 475, 3) := by decide +kernel
theorem dX13_through_16 : decode cX13_through 16 = .ok (.aload_n 0, 1) := by decide +kernel
theorem dX13_through_17 : decode cX13_through 17 = .ok (.iload_n 1, 1) := by decide +kernel
theorem dX13_through_18 : decode cX13_through 18 = .ok (.iconst 1, 1) := by decide +kernel
theorem dX13_through_19 : decode cX13_through 19 = .ok (.invokevirtual 460, 3) := by decide +kernel
theorem dX13_through_22 : decode cX13_through 22 = .ok (.aload_n 0, 1) := by decide +kernel
theorem dX13_through_23 : decode cX13_through 23 = .ok (.iload_n 2, 1) := by decide +kernel
theorem dX13_through_24 : decode cX13_through 24 = .ok (.iconst 1, 1) := by decide +kernel
theorem dX13_through_25 : decode cX13_through 25 = .ok (.invokevirtual 460, 3) := by decide +kernel
theorem dX13_through_28 : decode cX13_through 28 = .ok (.aload_n 0, 1) := by decide +kernel
theorem dX13_through_29 : decode cX13_through 29 = .ok (.invokevirtual 475, 3) := by decide +kernel
theorem dX13_through_32 : decode cX13_through 32 = .ok (.aload_n 0, 1) := by decide +kernel
theorem dX13_through_33 : decode cX13_through 33 = .ok (.invokevirtual 478, 3) := by decide +kernel
theorem dX13_through_36 : decode cX13_through 36 = .ok (.return_, 1) := by decide +kernel
theorem dX13_par_0 : decode cX13_par 0 = .ok (.aload_n 0, 1) := by decide +kernel
theorem dX13_par_1 : decode cX13_par 1 = .ok (.iconst 3, 1) := by decide +kernel
theorem dX13_par_2 : decode cX13_par 2 = .ok (.invokevirtual 469, 3) := by decide +kernel
theorem dX13_par_5 : decode cX13_par 5 = .ok (.istore_n 3, 1) := by decide +kernel
theorem dX13_par_6 : decode cX13_par 6 = .ok (.aload_n 0, 1) := by decide +kernel
theorem dX13_par_7 : decode cX13_par 7 = .ok (.iload_n 2, 1) := by decide +kernel
theorem dX13_par_8 : decode cX13_par 8 = .ok (.iconst 0, 1) := by decide +kernel
theorem dX13_par_9 : decode cX13_par 9 = .ok (.invokevirtual 460, 3) := by decide +kernel
theorem dX13_par_12 : decode cX13_par 12 = .ok (.aload_n 0, 1) := by decide +kernel
theorem dX13_par_13 : decode cX13_par 13 = .ok (.iload_n 3, 1) := by decide +kernel
theorem dX13_par_14 : decode cX13_par 14 = .ok (.iconst 0, 1) := by decide +kernel
theorem dX13_par_15 : decode cX13_par 15 = .ok (.invokevirtual 466, 3) := by decide +kernel
theorem dX13_par_18 : decode cX13_par 18 = .ok (.aload_n 0, 1) := by decide +kernel
theorem dX13_par_19 : decode cX13_par 19 = .ok (.iload_n 2, 1) := by decide +kernel
theorem dX13_par_20 : decode cX13_par 20 = .ok (.iconst 1, 1) := by decide +kernel
theorem dX13_par_21 : decode cX13_par 21 = .ok (.invokevirtual 460, 3) := by decide +kernel
theorem dX13_par_24 : decode cX13_par 24 = .ok (.aload_n 0, 1) := by decide +kernel
theorem dX13_par_25 : decode cX13_par 25 = .ok (.iload_n 3, 1) := by decide +kernel
theorem dX13_par_26 : decode cX13_par 26 = .ok (.iconst 1, 1) := by decide +kernel
theorem dX13_par_27 : decode cX13_par 27 = .ok (.invokevirtual 466, 3) := by decide +kernel
theorem dX13_par_30 : decode cX13_par 30 = .ok (.aload_n 0, 1) := by decide +kernel
theorem dX13_par_31 : decode cX13_par 31 = .ok (.iload_n 2, 1) := by decide +kernel
theorem dX13_par_32 : decode cX13_par 32 = .ok (.iload_n 1, 1) := by decide +kernel
theorem dX13_par_33 : decode cX13_par 33 = .ok (.invokevirtual 490, 3) := by decide +kernel
theorem dX13_par_36 : decode cX13_par 36 = .ok (.aload_n 0, 1) := by decide +kernel
theorem dX13_par_37 : decode cX13_par 37 = .ok (.iload_n 3, 1) := by decide +kernel
theorem dX13_par_38 : decode cX13_par 38 = .ok (.iconst 2, 1) := by decide +kernel
theorem dX13_par_39 : decode cX13_par 39 = .ok (.invokevirtual 466, 3) := by decide +kernel
theorem dX13_par_42 : decode cX13_par 42 = .ok (.iload_n 3, 1) := by decide +kernel
theorem dX13_par_43 : decode cX13_par 43 = .ok (.ireturn, 1) := by decide +kernel
theorem dX13_perp_0 : decode cX13_perp 0 = .ok (.aload_n 0, 1) := by decide +kernel
theorem dX13_perp_1 : decode cX13_perp 1 = .ok (.iconst 3, 1) := by decide +kernel
theorem dX13_perp_2 : decode cX13_perp 2 = .ok (.invokevirtual 469, 3) := by decide +kernel
theorem dX13_perp_5 : decode cX13_perp 5 = .ok (.istore_n 3, 1) := by decide +kernel
theorem dX13_perp_6 : decode cX13_perp 6 = .ok (.aload_n 0, 1) := by decide +kernel
theorem dX13_perp_7 : decode cX13_perp 7 = .ok (.iload_n 2, 1) := by decide +kernel
theorem dX13_perp_8 : decode cX13_perp 8 = .ok (.iconst 1, 1) := by decide +kernel
theorem dX13_perp_9 : decode cX13_perp 9 = .ok (.invokevirtual 460, 3) := by decide +kernel
theorem dX13_perp_12 : decode cX13_perp 12 = .ok (.aload_n 0, 1) := by decide +kernel
theorem dX13_perp_13 : decode cX13_perp 13 = .ok (.invokevirtual 493, 3) := by decide +kernel
theorem dX13_perp_16 : decode cX13_perp 16 = .ok (.aload_n 0, 1) := by decide +kernel
theorem dX13_perp_17 : decode cX13_perp 17 = .ok (.iload_n 3, 1) := by decide +kernel
theorem dX13_perp_18 : decode cX13_perp 18 = .ok (.iconst 0, 1) := by decide +kernel
theorem dX13_perp_19 : decode cX13_perp 19 = .ok (.invokevirtual 466, 3) := by decide +kernel
theorem dX13_perp_22 : decode cX13_perp 22 = .ok (.aload_n 0, 1) := by decide +kernel
theorem dX13_perp_23 : decode cX13_perp 23 = .ok (.iload_n 2, 1) := by decide +kernel
theorem dX13_perp_24 : decode cX13_perp 24 = .ok (.iconst 0, 1) := by decide +kernel
theorem dX13_perp_25 : decode cX13_perp 25 = .ok (.invokevirtual 460, 3) := by decide +kernel
theorem dX13_perp_28 : decode cX13_perp 28 = .ok (.aload_n 0, 1) := by decide +kernel
theorem dX13_perp_29 : decode cX13_perp 29 = .ok (.iload_n 3, 1) := by decide +kernel
theorem dX13_perp_30 : decode cX13_perp 30 = .ok (.iconst 1, 1) := by decide +kernel
theorem dX13_perp_31 : decode cX13_perp 31 = .ok (.invokevirtual 466, 3) := by decide +kernel
theorem dX13_perp_34 : decode cX13_perp 34 = .ok (.aload_n 0, 1) := by decide +kernel
theorem dX13_perp_35 : decode cX13_perp 35 = .ok (.iload_n 2, 1) := by decide +kernel
theorem dX13_perp_36 : decode cX13_perp 36 = .ok (.iconst 1, 1) := by decide +kernel
theorem dX13_perp_37 : decode cX13_perp 37 = .ok (.invokevirtual 460, 3) := by decide +kernel
theorem dX13_perp_40 : decode cX13_perp 40 = .ok (.aload_n 0, 1) := by decide +kernel
theorem dX13_perp_41 : decode cX13_perp 41 = .ok (.invokevirtual 493, 3) := by decide +kernel
theorem dX13_perp_44 : decode cX13_perp 44 = .ok (.aload_n 0, 1) := by decide +kernel
theorem dX13_perp_45 : decode cX13_perp 45 = .ok (.iload_n 1, 1) := by decide +kernel
theorem dX13_perp_46 : decode cX13_perp 46 = .ok (.iconst 0, 1) := by decide +kernel
theorem dX13_perp_47 : decode cX13_perp 47 = .ok (.invokevirtual 460, 3) := by decide +kernel
theorem dX13_perp_50 : decode cX13_perp 50 = .ok (.aload_n 0, 1) := by decide +kernel
theorem dX13_perp_51 : decode cX13_perp 51 = .ok (.invokevirtual 475, 3) := by decide +kernel
theorem dX13_perp_54 : decode cX13_perp 54 = .ok (.aload_n 0, 1) := by decide +kernel
theorem dX13_perp_55 : decode cX13_perp 55 = .ok (.iload_n 2, 1) := by decide +kernel
theorem dX13_perp_56 : decode cX13_perp 56 = .ok (.iconst 0, 1) := by decide +kernel
theorem dX13_perp_57 : decode cX13_perp 57 = .ok (.invokevirtual 460, 3) := by decide +kernel
theorem dX13_perp_60 : decode cX13_perp 60 = .ok (.aload_n 0, 1) := by decide +kernel
theorem dX13_perp_61 : decode cX13_perp 61 = .ok (.iload_n 1, 1) := by decide +kernel
theorem dX13_perp_62 : decode cX13_perp 62 = .ok (.iconst 1, 1) := by decide +kernel
theorem dX13_perp_63 : decode cX13_perp 63 = .ok (.invokevirtual 460, 3) := by decide +kernel
theorem dX13_perp_66 : decode cX13_perp 66 = .ok (.aload_n 0, 1) := by decide +kernel
theorem dX13_perp_67 : decode cX13_perp 67 = .ok (.invokevirtual 475, 3) := by decide +kernel
theorem dX13_perp_70 : decode cX13_perp 70 = .ok (.aload_n 0, 1) := by decide +kernel
theorem dX13_perp_71 : decode cX13_perp 71 = .ok (.invokevirtual 478, 3) := by decide +kernel
theorem dX13_perp_74 : decode cX13_perp 74 = .ok (.aload_n 0, 1) := by decide +kernel
theorem dX13_perp_75 : decode cX13_perp 75 = .ok (.iload_n 3, 1) := by decide +kernel
theorem dX13_perp_76 : decode cX13_perp 76 = .ok (.iconst 2, 1) := by decide +kernel
theorem dX13_perp_77 : decode cX13_perp 77 = .ok (.invokevirtual 466, 3) := by decide +kernel
theorem dX13_perp_80 : decode cX13_perp 80 = .ok (.aload_n 0, 1) := by decide +kernel
theorem dX13_perp_81 : decode cX13_perp 81 = .ok (.iload_n 3, 1) := by decide +kernel
theorem dX13_perp_82 : decode cX13_perp 82 = .ok (.invokevirtual 481, 3) := by decide +kernel
theorem dX13_perp_85 : decode cX13_perp 85 = .ok (.iload_n 3, 1) := by decide +kernel
theorem dX13_perp_86 : decode cX13_perp 86 = .ok (.ireturn, 1) := by decide +kernel
theorem dX13_meet_0 : decode cX13_meet 0 = .ok (.aload_n 0, 1) := by decide +kernel
theorem dX13_meet_1 : decode cX13_meet 1 = .ok (.iconst 1, 1) := by decide +kernel
theorem dX13_meet_2 : decode cX13_meet 2 = .ok (.invokevirtual 469, 3) := by decide +kernel
theorem dX13_meet_5 : decode cX13_meet 5 = .ok (.istore_n 3, 1) := by decide +kernel
theorem dX13_meet_6 : decode cX13_meet 6 = .ok (.aload_n 0, 1) := by decide +kernel
theorem dX13_meet_7 : decode cX13_meet 7 = .ok (.iload_n 1, 1) := by decide +kernel
theorem dX13_meet_8 : decode cX13_meet 8 = .ok (.iconst 0, 1) := by decide +kernel
theorem dX13_meet_9 : decode cX13_meet 9 = .ok (.invokevirtual 460, 3) := by decide +kernel
theorem dX13_meet_12 : decode cX13_meet 12 = .ok (.aload_n 0, 1) := by decide +kernel
theorem dX13_meet_13 : decode cX13_meet 13 = .ok (.iload_n 2, 1) := by decide +kernel
theorem dX13_meet_14 : decode cX13_meet 14 = .ok (.iconst 1, 1) := by decide +kernel
theorem dX13_meet_15 : decode cX13_meet 15 = .ok (.invokevirtual 460, 3) := by decide +kernel
theorem dX13_meet_18 : decode cX13_meet 18 = .ok (.aload_n 0, 1) := by decide +kernel
theorem dX13_meet_19 : decode cX13_meet 19 = .ok (.invokevirtual 475, 3) := by decide +kernel
theorem dX13_meet_22 : decode cX13_meet 22 = .ok (.aload_n 0, 1) := by decide +kernel
theorem dX13_meet_23 : decode cX13_meet 23 = .ok (.iload_n 2, 1) := by decide +kernel
theorem dX13_meet_24 : decode cX13_meet 24 = .ok (.iconst 0, 1) := by decide +kernel
theorem dX13_meet_25 : decode cX13_meet 25 = .ok (.invokevirtual 460, 3) := by decide +kernel
theorem dX13_meet_28 : decode cX13_meet 28 = .ok (.aload_n 0, 1) := by decide +kernel
theorem dX13_meet_29 : decode cX13_meet 29 = .ok (.iload_n 1, 1) := by decide +kernel
theorem dX13_meet_30 : decode cX13_meet 30 = .ok (.iconst 1, 1) := by decide +kernel
theorem dX13_meet_31 : decode cX13_meet 31 = .ok (.invokevirtual 460, 3) := by decide +kernel
theorem dX13_meet_34 : decode cX13_meet 34 = .ok (.aload_n 0, 1) := by decide +kernel
theorem dX13_meet_35 : decode cX13_meet 35 = .ok (.invokevirtual 475, 3) := by decide +kernel
theorem dX13_meet_38 : decode cX13_meet 38 = .ok (.aload_n 0, 1) := by decide +kernel
theorem dX13_meet_39 : decode cX13_meet 39 = .ok (.invokevirtual 472, 3) := by decide +kernel
theorem dX13_meet_42 : decode cX13_meet 42 = .ok (.aload_n 0, 1) := by decide +kernel
theorem dX13_meet_43 : decode cX13_meet 43 = .ok (.getfield 93, 3) := by decide +kernel
theorem dX13_meet_46 : decode cX13_meet 46 = .ok (.aload_n 0, 1) := by decide +kernel
theorem dX13_meet_47 : decode cX13_meet 47 = .ok (.getfield 437, 3) := by decide +kernel
theorem dX13_meet_50 : decode cX13_meet 50 = .ok (.iconst 1, 1) := by decide +kernel
theorem dX13_meet_51 : decode cX13_meet 51 = .ok (.isub, 1) := by decide +kernel
theorem dX13_meet_52 : decode cX13_meet 52 = .ok (.laload, 1) := by decide +kernel
theorem dX13_meet_53 : decode cX13_meet 53 = .ok (.lstore 4, 2) := by decide +kernel
theorem dX13_meet_55 : decode cX13_meet 55 = .ok (.aload_n 0, 1) := by decide +kernel
theorem dX13_meet_56 : decode cX13_meet 56 = .ok (.getfield 96, 3) := by decide +kernel
theorem dX13_meet_59 : decode cX13_meet 59 = .ok (.aload_n 0, 1) := by decide +kernel
theorem dX13_meet_60 : decode cX13_meet 60 = .ok (.getfield 437, 3) := by decide +kernel
theorem dX13_meet_63 : decode cX13_meet 63 = .ok (.iconst 1, 1) := by decide +kernel
theorem dX13_meet_64 : decode cX13_meet 64 = .ok (.isub, 1) := by decide +kernel
theorem dX13_meet_65 : decode cX13_meet 65 = .ok (.laload, 1) := by decide +kernel
theorem dX13_meet_66 : decode cX13_meet 66 = .ok (.lstore 6, 2) := by decide +kernel
theorem dX13_meet_68 : decode cX13_meet 68 = .ok (.aload_n 0, 1) := by decide +kernel
theorem dX13_meet_69 : decode cX13_meet 69 = .ok (.dup, 1) := by decide +kernel
theorem dX13_meet_70 : decode cX13_meet 70 = .ok (.getfield 437, 3) := by decide +kernel
theorem dX13_meet_73 : decode cX13_meet 73 = .ok (.iconst 1, 1) := by decide +kernel
theorem dX13_meet_74 : decode cX13_meet 74 = .ok (.isub, 1) := by decide +kernel
theorem dX13_meet_75 : decode cX13_meet 75 = .ok (.putfield 437, 3) := by decide +kernel
theorem dX13_meet_78 : decode cX13_meet 78 = .ok (.aload_n 0, 1) := by decide +kernel
theorem dX13_meet_79 : decode cX13_meet 79 = .ok (.iload_n 1, 1) := by decide +kernel
theorem dX13_meet_80 : decode cX13_meet 80 = .ok (.iconst 2, 1) := by decide +kernel
theorem dX13_meet_81 : decode cX13_meet 81 = .ok (.invokevirtual 460, 3) := by decide +kernel
theorem dX13_meet_84 : decode cX13_meet 84 = .ok (.aload_n 0, 1) := by decide +kernel
theorem dX13_meet_85 : decode cX13_meet 85 = .ok (.iload_n 2, 1) := by decide +kernel
theorem dX13_meet_86 : decode cX13_meet 86 = .ok (.iconst 1, 1) := by decide +kernel
theorem dX13_meet_87 : decode cX13_meet 87 = .ok (.invokevirtual 460, 3) := by decide +kernel
theorem dX13_meet_90 : decode cX13_meet 90 = .ok (.aload_n 0, 1) := by decide +kernel
theorem dX13_meet_91 : decode cX13_meet 91 = .ok (.invokevirtual 475, 3) := by decide +kernel
theorem dX13_meet_94 : decode cX13_meet 94 = .ok (.aload_n 0, 1) := by decide +kernel
theorem dX13_meet_95 : decode cX13_meet 95 = .ok (.iload_n 2, 1) := by decide +kernel
theorem dX13_meet_96 : decode cX13_meet 96 = .ok (.iconst 2, 1) := by decide +kernel
theorem dX13_meet_97 : decode cX13_meet 97 = .ok (.invokevirtual 460, 3) := by decide +kernel
theorem dX13_meet_100 : decode cX13_meet 100 = .ok (.aload_n 0, 1) := by decide +kernel
theorem dX13_meet_101 : decode cX13_meet 101 = .ok (.iload_n 1, 1) := by decide +kernel
theorem dX13_meet_102 : decode cX13_meet 102 = .ok (.iconst 1, 1) := by decide +kernel
theorem dX13_meet_103 : decode cX13_meet 103 = .ok (.invokevirtual 460, 3) := by decide +kernel
theorem dX13_meet_106 : decode cX13_meet 106 = .ok (.aload_n 0, 1) := by decide +kernel
theorem dX13_meet_107 : decode cX13_meet 107 = .ok (.invokevirtual 475, 3) := by decide +kernel
theorem dX13_meet_110 : decode cX13_meet 110 = .ok (.aload_n 0, 1) := by decide +kernel
theorem dX13_meet_111 : decode cX13_meet 111 = .ok (.invokevirtual 472, 3) := by decide +kernel
theorem dX13_meet_114 : decode cX13_meet 114 = .ok (.aload_n 0, 1) := by decide +kernel
theorem dX13_meet_115 : decode cX13_meet 115 = .ok (.lload 4, 2) := by decide +kernel
theorem dX13_meet_117 : decode cX13_meet 117 = .ok (.lload 6, 2) := by decide +kernel
theorem dX13_meet_119 : decode cX13_meet 119 = .ok (.invokevirtual 440, 3) := by decide +kernel
theorem dX13_meet_122 : decode cX13_meet 122 = .ok (.aload_n 0, 1) := by decide +kernel
theorem dX13_meet_123 : decode cX13_meet 123 = .ok (.invokevirtual 463, 3) := by decide +kernel
theorem dX13_meet_126 : decode cX13_meet 126 = .ok (.aload_n 0, 1) := by decide +kernel
theorem dX13_meet_127 : decode cX13_meet 127 = .ok (.iload_n 3, 1) := by decide +kernel
theorem dX13_meet_128 : decode cX13_meet 128 = .ok (.iconst 0, 1) := by decide +kernel
theorem dX13_meet_129 : decode cX13_meet 129 = .ok (.invokevirtual 466, 3) := by decide +kernel
theorem dX13_meet_132 : decode cX13_meet 132 = .ok (.aload_n 0, 1) := by decide +kernel
theorem dX13_meet_133 : decode cX13_meet 133 = .ok (.iload_n 1, 1) := by decide +kernel
theorem dX13_meet_134 : decode cX13_meet 134 = .ok (.iconst 0, 1) := by decide +kernel
theorem dX13_meet_135 : decode cX13_meet 135 = .ok (.invokevirtual 460, 3) := by decide +kernel
theorem dX13_meet_138 : decode cX13_meet 138 = .ok (.aload_n 0, 1) := by decide +kernel
theorem dX13_meet_139 : decode cX13_meet 139 = .ok (.iload_n 2, 1) := by decide +kernel
theorem dX13_meet_140 : decode cX13_meet 140 = .ok (.iconst 2, 1) := by decide +kernel
theorem dX13_meet_141 : decode cX13_meet 141 = .ok (.invokevirtual 460, 3) := by decide +kernel
theorem dX13_meet_144 : decode cX13_meet 144 = .ok (.aload_n 0, 1) := by decide +kernel
theorem dX13_meet_145 : decode cX13_meet 145 = .ok (.invokevirtual 475, 3) := by decide +kernel
theorem dX13_meet_148 : decode cX13_meet 148 = .ok (.aload_n 0, 1) := by decide +kernel
theorem dX13_meet_149 : decode cX13_meet 149 = .ok (.iload_n 2, 1) := by decide +kernel
theorem dX13_meet_150 : decode cX13_meet 150 = .ok (.iconst 0, 1) := by decide +kernel
theorem dX13_meet_151 : decode cX13_meet 151 = .ok (.invokevirtual 460, 3) := by decide +kernel
theorem dX13_meet_154 : decode cX13_meet 154 = .ok (.aload_n 0, 1) := by decide +kernel
theorem dX13_meet_155 : decode cX13_meet 155 = .ok (.iload_n 1, 1) := by decide +kernel
theorem dX13_meet_156 : decode cX13_meet 156 = .ok (.iconst 2, 1) := by decide +kernel
theorem dX13_meet_157 : decode cX13_meet 157 = .ok (.invokevirtual 460, 3) := by decide +kernel
theorem dX13_meet_160 : decode cX13_meet 160 = .ok (.aload_n 0, 1) := by decide +kernel
theorem dX13_meet_161 : decode cX13_meet 161 = .ok (.invokevirtual 475, 3) := by decide +kernel
theorem dX13_meet_164 : decode cX13_meet 164 = .ok (.aload_n 0, 1) := by decide +kernel
theorem dX13_meet_165 : decode cX13_meet 165 = .ok (.invokevirtual 472, 3) := by decide +kernel
theorem dX13_meet_168 : decode cX13_meet 168 = .ok (.aload_n 0, 1) := by decide +kernel
theorem dX13_meet_169 : decode cX13_meet 169 = .ok (.lload 4, 2) := by decide +kernel
theorem dX13_meet_171 : decode cX13_meet 171 = .ok (.lload 6, 2) := by decide +kernel
theorem dX13_meet_173 : decode cX13_meet 173 = .ok (.invokevirtual 440, 3) := by decide +kernel
theorem dX13_meet_176 : decode cX13_meet 176 = .ok (.aload_n 0, 1) := by decide +kernel
theorem dX13_meet_177 : decode cX13_meet 177 = .ok (.invokevirtual 463, 3) := by decide +kernel
theorem dX13_meet_180 : decode cX13_meet 180 = .ok (.aload_n 0, 1) := by decide +kernel
theorem dX13_meet_181 : decode cX13_meet 181 = .ok (.iload_n 3, 1) := by decide +kernel
theorem dX13_meet_182 : decode cX13_meet 182 = .ok (.iconst 1, 1) := by decide +kernel
theorem dX13_meet_183 : decode cX13_meet 183 = .ok (.invokevirtual 466, 3) := by decide +kernel
theorem dX13_meet_186 : decode cX13_meet 186 = .ok (.iload_n 3, 1) := by decide +kernel
theorem dX13_meet_187 : decode cX13_meet 187 = .ok (.ireturn, 1) := by decide +kernel
theorem dX13_foot_0 : decode cX13_foot 0 = .ok (.aload_n 0, 1) := by decide +kernel
theorem dX13_foot_1 : decode cX13_foot 1 = .ok (.iload_n 2, 1) := by decide +kernel
theorem dX13_foot_2 : decode cX13_foot 2 = .ok (.aload_n 0, 1) := by decide +kernel
theorem dX13_foot_3 : decode cX13_foot 3 = .ok (.iload_n 1, 1) := by decide +kernel
theorem dX13_foot_4 : decode cX13_foot 4 = .ok (.iload_n 2, 1) := by decide +kernel
theorem dX13_foot_5 : decode cX13_foot 5 = .ok (.invokevirtual 496, 3) := by decide +kernel
theorem dX13_foot_8 : decode cX13_foot 8 = .ok (.invokevirtual 499, 3) := by decide +kernel
theorem dX13_foot_11 : decode cX13_foot 11 = .ok (.ireturn, 1) := by decide +kernel
theorem dX13_mirror_0 : decode cX13_mirror 0 = .ok (.aload_n 0, 1) := by decide +kernel
theorem dX13_mirror_1 : decode cX13_mirror 1 = .ok (.iload_n 1, 1) := by decide +kernel
theorem dX13_mirror_2 : decode cX13_mirror 2 = .ok (.iload_n 2, 1) := by decide +kernel
theorem dX13_mirror_3 : decode cX13_mirror 3 = .ok (.invokevirtual 502, 3) := by decide +kernel
theorem dX13_mirror_6 : decode cX13_mirror 6 = .ok (.istore_n 3, 1) := by decide +kernel
theorem dX13_mirror_7 : decode cX13_mirror 7 = .ok (.aload_n 0, 1) := by decide +kernel
theorem dX13_mirror_8 : decode cX13_mirror 8 = .ok (.iconst 1, 1) := by decide +kernel
theorem dX13_mirror_9 : decode cX13_mirror 9 = .ok (.invokevirtual 469, 3) := by decide +kernel
theorem dX13_mirror_12 : decode cX13_mirror 12 = .ok (.istore 4, 2) := by decide +kernel
theorem dX13_mirror_14 : decode cX13_mirror 14 = .ok (.iconst 0, 1) := by decide +kernel
theorem dX13_mirror_15 : decode cX13_mirror 15 = .ok (.istore 5, 2) := by decide +kernel
theorem dX13_mirror_17 : decode cX13_mirror 17 = .ok (.iload 5, 2) := by decide +kernel
theorem dX13_mirror_19 : decode cX13_mirror 19 = .ok (.iconst 2, 1) := by decide +kernel
theorem dX13_mirror_20 : decode cX13_mirror 20 = .ok (.if_icmp .ge 46, 3) := by decide +kernel
theorem dX13_mirror_23 : decode cX13_mirror 23 = .ok (.aload_n 0, 1) := by decide +kernel
theorem dX13_mirror_24 : decode cX13_mirror 24 = .ok (.ldc2_w 484, 3) := by decide +kernel
theorem dX13_mirror_27 : decode cX13_mirror 27 = .ok (.invokevirtual 486, 3) := by decide +kernel
theorem dX13_mirror_30 : decode cX13_mirror 30 = .ok (.aload_n 0, 1) := by decide +kernel
theorem dX13_mirror_31 : decode cX13_mirror 31 = .ok (.iload_n 3, 1) := by decide +kernel
theorem dX13_mirror_32 : decode cX13_mirror 32 = .ok (.iload 5, 2) := by decide +kernel
theorem dX13_mirror_34 : decode cX13_mirror 34 = .ok (.invokevirtual 460, 3) := by decide +kernel
theorem dX13_mirror_37 : decode cX13_mirror 37 = .ok (.aload_n 0, 1) := by decide +kernel
theorem dX13_mirror_38 : decode cX13_mirror 38 = .ok (.invokevirtual 475, 3) := by decide +kernel
theorem dX13_mirror_41 : decode cX13_mirror 41 = .ok (.aload_n 0, 1) := by decide +kernel
theorem dX13_mirror_42 : decode cX13_mirror 42 = .ok (.iload_n 1, 1) := by decide +kernel
theorem dX13_mirror_43 : decode cX13_mirror 43 = .ok (.iload 5, 2) := by decide +kernel
theorem dX13_mirror_45 : decode cX13_mirror 45 = .ok (.invokevirtual 460, 3) := by decide +kernel
theorem dX13_mirror_48 : decode cX13_mirror 48 = .ok (.aload_n 0, 1) := by decide +kernel
theorem dX13_mirror_49 : decode cX13_mirror 49 = .ok (.invokevirtual 472, 3) := by decide +kernel
theorem dX13_mirror_52 : decode cX13_mirror 52 = .ok (.aload_n 0, 1) := by decide +kernel
theorem dX13_mirror_53 : decode cX13_mirror 53 = .ok (.iload 4, 2) := by decide +kernel
theorem dX13_mirror_55 : decode cX13_mirror 55 = .ok (.iload 5, 2) := by decide +kernel
theorem dX13_mirror_57 : decode cX13_mirror 57 = .ok (.invokevirtual 466, 3) := by decide +kernel
theorem dX13_mirror_60 : decode cX13_mirror 60 = .ok (.iinc 5 1, 3) := by decide +kernel
theorem dX13_mirror_63 : decode cX13_mirror 63 = .ok (.goto (-46), 3) := by decide +kernel
theorem dX13_mirror_66 : decode cX13_mirror 66 = .ok (.iload 4, 2) := by decide +kernel
theorem dX13_mirror_68 : decode cX13_mirror 68 = .ok (.ireturn, 1) := by decide +kernel
theorem dX13_turn_0 : decode cX13_turn 0 = .ok (.aload_n 0, 1) := by decide +kernel
theorem dX13_turn_1 : decode cX13_turn 1 = .ok (.iconst 1, 1) := by decide +kernel
theorem dX13_turn_2 : decode cX13_turn 2 = .ok (.invokevirtual 469, 3) := by decide +kernel
theorem dX13_turn_5 : decode cX13_turn 5 = .ok (.istore_n 3, 1) := by decide +kernel
theorem dX13_turn_6 : decode cX13_turn 6 = .ok (.aload_n 0, 1) := by decide +kernel
theorem dX13_turn_7 : decode cX13_turn 7 = .ok (.iload_n 2, 1) := by decide +kernel
theorem dX13_turn_8 : decode cX13_turn 8 = .ok (.iconst 0, 1) := by decide +kernel
theorem dX13_turn_9 : decode cX13_turn 9 = .ok (.invokevirtual 460, 3) := by decide +kernel
theorem dX13_turn_12 : decode cX13_turn 12 = .ok (.aload_n 0, 1) := by decide +kernel
theorem dX13_turn_13 : decode cX13_turn 13 = .ok (.iload_n 1, 1) := by decide +kernel
theorem dX13_turn_14 : decode cX13_turn 14 = .ok (.iconst 1, 1) := by decide +kernel
theorem dX13_turn_15 : decode cX13_turn 15 = .ok (.invokevirtual 460, 3) := by decide +kernel
theorem dX13_turn_18 : decode cX13_turn 18 = .ok (.aload_n 0, 1) := by decide +kernel
theorem dX13_turn_19 : decode cX13_turn 19 = .ok (.iload_n 2, 1) := by decide +kernel
theorem dX13_turn_20 : decode cX13_turn 20 = .ok (.iconst 1, 1) := by decide +kernel
theorem dX13_turn_21 : decode cX13_turn 21 = .ok (.invokevirtual 460, 3) := by decide +kernel
theorem dX13_turn_24 : decode cX13_turn 24 = .ok (.aload_n 0, 1) := by decide +kernel
theorem dX13_turn_25 : decode cX13_turn 25 = .ok (.invokevirtual 472, 3) := by decide +kernel
theorem dX13_turn_28 : decode cX13_turn 28 = .ok (.aload_n 0, 1) := by decide +kernel
theorem dX13_turn_29 : decode cX13_turn 29 = .ok (.invokevirtual 472, 3) := by decide +kernel
theorem dX13_turn_32 : decode cX13_turn 32 = .ok (.aload_n 0, 1) := by decide +kernel
theorem dX13_turn_33 : decode cX13_turn 33 = .ok (.iload_n 3, 1) := by decide +kernel
theorem dX13_turn_34 : decode cX13_turn 34 = .ok (.iconst 0, 1) := by decide +kernel
theorem dX13_turn_35 : decode cX13_turn 35 = .ok (.invokevirtual 466, 3) := by decide +kernel
theorem dX13_turn_38 : decode cX13_turn 38 = .ok (.aload_n 0, 1) := by decide +kernel
theorem dX13_turn_39 : decode cX13_turn 39 = .ok (.iload_n 2, 1) := by decide +kernel
theorem dX13_turn_40 : decode cX13_turn 40 = .ok (.iconst 1, 1) := by decide +kernel
theorem dX13_turn_41 : decode cX13_turn 41 = .ok (.invokevirtual 460, 3) := by decide +kernel
theorem dX13_turn_44 : decode cX13_turn 44 = .ok (.aload_n 0, 1) := by decide +kernel
theorem dX13_turn_45 : decode cX13_turn 45 = .ok (.iload_n 1, 1) := by decide +kernel
theorem dX13_turn_46 : decode cX13_turn 46 = .ok (.iconst 0, 1) := by decide +kernel
theorem dX13_turn_47 : decode cX13_turn 47 = .ok (.invokevirtual 460, 3) := by decide +kernel
theorem dX13_turn_50 : decode cX13_turn 50 = .ok (.aload_n 0, 1) := by decide +kernel
theorem dX13_turn_51 : decode cX13_turn 51 = .ok (.iload_n 2, 1) := by decide +kernel
theorem dX13_turn_52 : decode cX13_turn 52 = .ok (.iconst 0, 1) := by decide +kernel
theorem dX13_turn_53 : decode cX13_turn 53 = .ok (.invokevirtual 460, 3) := by decide +kernel
theorem dX13_turn_56 : decode cX13_turn 56 = .ok (.aload_n 0, 1) := by decide +kernel
theorem dX13_turn_57 : decode cX13_turn 57 = .ok (.invokevirtual 472, 3) := by decide +kernel
theorem dX13_turn_60 : decode cX13_turn 60 = .ok (.aload_n 0, 1) := by decide +kernel
theorem dX13_turn_61 : decode cX13_turn 61 = .ok (.invokevirtual 478, 3) := by decide +kernel
theorem dX13_turn_64 : decode cX13_turn 64 = .ok (.aload_n 0, 1) := by decide +kernel
theorem dX13_turn_65 : decode cX13_turn 65 = .ok (.iload_n 3, 1) := by decide +kernel
theorem dX13_turn_66 : decode cX13_turn 66 = .ok (.iconst 1, 1) := by decide +kernel
theorem dX13_turn_67 : decode cX13_turn 67 = .ok (.invokevirtual 466, 3) := by decide +kernel
theorem dX13_turn_70 : decode cX13_turn 70 = .ok (.iload_n 3, 1) := by decide +kernel
theorem dX13_turn_71 : decode cX13_turn 71 = .ok (.ireturn, 1) := by decide +kernel
theorem dX13_scale_0 : decode cX13_scale 0 = .ok (.aload_n 0, 1) := by decide +kernel
theorem dX13_scale_1 : decode cX13_scale 1 = .ok (.iconst 1, 1) := by decide +kernel
theorem dX13_scale_2 : decode cX13_scale 2 = .ok (.invokevirtual 469, 3) := by decide +kernel
theorem dX13_scale_5 : decode cX13_scale 5 = .ok (.istore 7, 2) := by decide +kernel
theorem dX13_scale_7 : decode cX13_scale 7 = .ok (.iconst 0, 1) := by decide +kernel
theorem dX13_scale_8 : decode cX13_scale 8 = .ok (.istore 8, 2) := by decide +kernel
theorem dX13_scale_10 : decode cX13_scale 10 = .ok (.iload 8, 2) := by decide +kernel
theorem dX13_scale_12 : decode cX13_scale 12 = .ok (.iconst 2, 1) := by decide +kernel
theorem dX13_scale_13 : decode cX13_scale 13 = .ok (.if_icmp .ge 57, 3) := by decide +kernel
theorem dX13_scale_16 : decode cX13_scale 16 = .ok (.aload_n 0, 1) := by decide +kernel
theorem dX13_scale_17 : decode cX13_scale 17 = .ok (.iload_n 2, 1) := by decide +kernel
theorem dX13_scale_18 : decode cX13_scale 18 = .ok (.iload 8, 2) := by decide +kernel
theorem dX13_scale_20 : decode cX13_scale 20 = .ok (.invokevirtual 460, 3) := by decide +kernel
theorem dX13_scale_23 : decode cX13_scale 23 = .ok (.aload_n 0, 1) := by decide +kernel
theorem dX13_scale_24 : decode cX13_scale 24 = .ok (.lload_n 3, 1) := by decide +kernel
theorem dX13_scale_25 : decode cX13_scale 25 = .ok (.lload 5, 2) := by decide +kernel
theorem dX13_scale_27 : decode cX13_scale 27 = .ok (.invokevirtual 440, 3) := by decide +kernel
theorem dX13_scale_30 : decode cX13_scale 30 = .ok (.aload_n 0, 1) := by decide +kernel
theorem dX13_scale_31 : decode cX13_scale 31 = .ok (.iload_n 1, 1) := by decide +kernel
theorem dX13_scale_32 : decode cX13_scale 32 = .ok (.iload 8, 2) := by decide +kernel
theorem dX13_scale_34 : decode cX13_scale 34 = .ok (.invokevirtual 460, 3) := by decide +kernel
theorem dX13_scale_37 : decode cX13_scale 37 = .ok (.aload_n 0, 1) := by decide +kernel
theorem dX13_scale_38 : decode cX13_scale 38 = .ok (.iload_n 2, 1) := by decide +kernel
theorem dX13_scale_39 : decode cX13_scale 39 = .ok (.iload 8, 2) := by decide +kernel
theorem dX13_scale_41 : decode cX13_scale 41 = .ok (.invokevirtual 460, 3) := by decide +kernel
theorem dX13_scale_44 : decode cX13_scale 44 = .ok (.aload_n 0, 1) := by decide +kernel
theorem dX13_scale_45 : decode cX13_scale 45 = .ok (.invokevirtual 472, 3) := by decide +kernel
theorem dX13_scale_48 : decode cX13_scale 48 = .ok (.aload_n 0, 1) := by decide +kernel
theorem dX13_scale_49 : decode cX13_scale 49 = .ok (.invokevirtual 475, 3) := by decide +kernel
theorem dX13_scale_52 : decode cX13_scale 52 = .ok (.aload_n 0, 1) := by decide +kernel
theorem dX13_scale_53 : decode cX13_scale 53 = .ok (.invokevirtual 478, 3) := by decide +kernel
theorem dX13_scale_56 : decode cX13_scale 56 = .ok (.aload_n 0, 1) := by decide +kernel
theorem dX13_scale_57 : decode cX13_scale 57 = .ok (.iload 7, 2) := by decide +kernel
theorem dX13_scale_59 : decode cX13_scale 59 = .ok (.iload 8, 2) := by decide +kernel
theorem dX13_scale_61 : decode cX13_scale 61 = .ok (.invokevirtual 466, 3) := by decide +kernel
theorem dX13_scale_64 : decode cX13_scale 64 = .ok (.iinc 8 1, 3) := by decide +kernel
theorem dX13_scale_67 : decode cX13_scale 67 = .ok (.goto (-57), 3) := by decide +kernel
theorem dX13_scale_70 : decode cX13_scale 70 = .ok (.iload 7, 2) := by decide +kernel
theorem dX13_scale_72 : decode cX13_scale 72 = .ok (.ireturn, 1) := by decide +kernel
theorem dX13_dist_0 : decode cX13_dist 0 = .ok (.aload_n 0, 1) := by decide +kernel
theorem dX13_dist_1 : decode cX13_dist 1 = .ok (.iload_n 1, 1) := by decide +kernel
theorem dX13_dist_2 : decode cX13_dist 2 = .ok (.iconst 0, 1) := by decide +kernel
theorem dX13_dist_3 : decode cX13_dist 3 = .ok (.invokevirtual 460, 3) := by decide +kernel
theorem dX13_dist_6 : decode cX13_dist 6 = .ok (.aload_n 0, 1) := by decide +kernel
theorem dX13_dist_7 : decode cX13_dist 7 = .ok (.iload_n 2, 1) := by decide +kernel
theorem dX13_dist_8 : decode cX13_dist 8 = .ok (.iconst 0, 1) := by decide +kernel
theorem dX13_dist_9 : decode cX13_dist 9 = .ok (.invokevirtual 460, 3) := by decide +kernel
theorem dX13_dist_12 : decode cX13_dist 12 = .ok (.aload_n 0, 1) := by decide +kernel
theorem dX13_dist_13 : decode cX13_dist 13 = .ok (.invokevirtual 472, 3) := by decide +kernel
theorem dX13_dist_16 : decode cX13_dist 16 = .ok (.aload_n 0, 1) := by decide +kernel
theorem dX13_dist_17 : decode cX13_dist 17 = .ok (.iload_n 1, 1) := by decide +kernel
theorem dX13_dist_18 : decode cX13_dist 18 = .ok (.iconst 0, 1) := by decide +kernel
theorem dX13_dist_19 : decode cX13_dist 19 = .ok (.invokevirtual 460, 3) := by decide +kernel
theorem dX13_dist_22 : decode cX13_dist 22 = .ok (.aload_n 0, 1) := by decide +kernel
theorem dX13_dist_23 : decode cX13_dist 23 = .ok (.iload_n 2, 1) := by decide +kernel
theorem dX13_dist_24 : decode cX13_dist 24 = .ok (.iconst 0, 1) := by decide +kernel
theorem dX13_dist_25 : decode cX13_dist 25 = .ok (.invokevirtual 460, 3) := by decide +kernel
theorem dX13_dist_28 : decode cX13_dist 28 = .ok (.aload_n 0, 1) := by decide +kernel
theorem dX13_dist_29 : decode cX13_dist 29 = .ok (.invokevirtual 472, 3) := by decide +kernel
theorem dX13_dist_32 : decode cX13_dist 32 = .ok (.aload_n 0, 1) := by decide +kernel
theorem dX13_dist_33 : decode cX13_dist 33 = .ok (.invokevirtual 475, 3) := by decide +kernel
theorem dX13_dist_36 : decode cX13_dist 36 = .ok (.aload_n 0, 1) := by decide +kernel
theorem dX13_dist_37 : decode cX13_dist 37 = .ok (.iload_n 1, 1) := by decide +kernel
theorem dX13_dist_38 : decode cX13_dist 38 = .ok (.iconst 1, 1) := by decide +kernel
theorem dX13_dist_39 : decode cX13_dist 39 = .ok (.invokevirtual 460, 3) := by decide +kernel
theorem dX13_dist_42 : decode cX13_dist 42 = .ok (.aload_n 0, 1) := by decide +kernel
theorem dX13_dist_43 : decode cX13_dist 43 = .ok (.iload_n 2, 1) := by decide +kernel
theorem dX13_dist_44 : decode cX13_dist 44 = .ok (.iconst 1, 1) := by decide +kernel
theorem dX13_dist_45 : decode cX13_dist 45 = .ok (.invokevirtual 460, 3) := by decide +kernel
theorem dX13_dist_48 : decode cX13_dist 48 = .ok (.aload_n 0, 1) := by decide +kernel
theorem dX13_dist_49 : decode cX13_dist 49 = .ok (.invokevirtual 472, 3) := by decide +kernel
theorem dX13_dist_52 : decode cX13_dist 52 = .ok (.aload_n 0, 1) := by decide +kernel
theorem dX13_dist_53 : decode cX13_dist 53 = .ok (.iload_n 1, 1) := by decide +kernel
theorem dX13_dist_54 : decode cX13_dist 54 = .ok (.iconst 1, 1) := by decide +kernel
theorem dX13_dist_55 : decode cX13_dist 55 = .ok (.invokevirtual 460, 3) := by decide +kernel
theorem dX13_dist_58 : decode cX13_dist 58 = .ok (.aload_n 0, 1) := by decide +kernel
theorem dX13_dist_59 : decode cX13_dist 59 = .ok (.iload_n 2, 1) := by decide +kernel
theorem dX13_dist_60 : decode cX13_dist 60 = .ok (.iconst 1, 1) := by decide +kernel
theorem dX13_dist_61 : decode cX13_dist 61 = .ok (.invokevirtual 460, 3) := by decide +kernel
theorem dX13_dist_64 : decode cX13_dist 64 = .ok (.aload_n 0, 1) := by decide +kernel
theorem dX13_dist_65 : decode cX13_dist 65 = .ok (.invokevirtual 472, 3) := by decide +kernel
theorem dX13_dist_68 : decode cX13_dist 68 = .ok (.aload_n 0, 1) := by decide +kernel
theorem dX13_dist_69 : decode cX13_dist 69 = .ok (.invokevirtual 475, 3) := by decide +kernel
theorem dX13_dist_72 : decode cX13_dist 72 = .ok (.aload_n 0, 1) := by decide +kernel
theorem dX13_dist_73 : decode cX13_dist 73 = .ok (.invokevirtual 478, 3) := by decide +kernel
theorem dX13_dist_76 : decode cX13_dist 76 = .ok (.return_, 1) := by decide +kernel
theorem dX13_area_0 : decode cX13_area 0 = .ok (.aload_n 0, 1) := by decide +kernel
theorem dX13_area_1 : decode cX13_area 1 = .ok (.iload_n 2, 1) := by decide +kernel
theorem dX13_area_2 : decode cX13_area 2 = .ok (.iconst 0, 1) := by decide +kernel
theorem dX13_area_3 : decode cX13_area 3 = .ok (.invokevirtual 460, 3) := by decide +kernel
theorem dX13_area_6 : decode cX13_area 6 = .ok (.aload_n 0, 1) := by decide +kernel
theorem dX13_area_7 : decode cX13_area 7 = .ok (.iload_n 1, 1) := by decide +kernel
theorem dX13_area_8 : decode cX13_area 8 = .ok (.iconst 0, 1) := by decide +kernel
theorem dX13_area_9 : decode cX13_area 9 = .ok (.invokevirtual 460, 3) := by decide +kernel
theorem dX13_area_12 : decode cX13_area 12 = .ok (.aload_n 0, 1) := by decide +kernel
theorem dX13_area_13 : decode cX13_area 13 = .ok (.invokevirtual 472, 3) := by decide +kernel
theorem dX13_area_16 : decode cX13_area 16 = .ok (.aload_n 0, 1) := by decide +kernel
theorem dX13_area_17 : decode cX13_area 17 = .ok (.iload_n 3, 1) := by decide +kernel
theorem dX13_area_18 : decode cX13_area 18 = .ok (.iconst 1, 1) := by decide +kernel
theorem dX13_area_19 : decode cX13_area 19 = .ok (.invokevirtual 460, 3) := by decide +kernel
theorem dX13_area_22 : decode cX13_area 22 = .ok (.aload_n 0, 1) := by decide +kernel
theorem dX13_area_23 : decode cX13_area 23 = .ok (.iload_n 1, 1) := by decide +kernel
theorem dX13_area_24 : decode cX13_area 24 = .ok (.iconst 1, 1) := by decide +kernel
theorem dX13_area_25 : decode cX13_area 25 = .ok (.invokevirtual 460, 3) := by decide +kernel
theorem dX13_area_28 : decode cX13_area 28 = .ok (.aload_n 0, 1) := by decide +kernel
theorem dX13_area_29 : decode cX13_area 29 = .ok (.invokevirtual 472, 3) := by decide +kernel
theorem dX13_area_32 : decode cX13_area 32 = .ok (.aload_n 0, 1) := by decide +kernel
theorem dX13_area_33 : decode cX13_area 33 = .ok (.invokevirtual 475, 3) := by decide +kernel
theorem dX13_area_36 : decode cX13_area 36 = .ok (.aload_n 0, 1) := by decide +kernel
theorem dX13_area_37 : decode cX13_area 37 = .ok (.iload_n 3, 1) := by decide +kernel
theorem dX13_area_38 : decode cX13_area 38 = .ok (.iconst 0, 1) := by decide +kernel
theorem dX13_area_39 : decode cX13_area 39 = .ok (.invokevirtual 460, 3) := by decide +kernel
theorem dX13_area_42 : decode cX13_area 42 = .ok (.aload_n 0, 1) := by decide +kernel
theorem dX13_area_43 : decode cX13_area 43 = .ok (.iload_n 1, 1) := by decide +kernel
theorem dX13_area_44 : decode cX13_area 44 = .ok (.iconst 0, 1) := by decide +kernel
theorem dX13_area_45 : decode cX13_area 45 = .ok (.invokevirtual 460, 3) := by decide +kernel
theorem dX13_area_48 : decode cX13_area 48 = .ok (.aload_n 0, 1) := by decide +kernel
theorem dX13_area_49 : decode cX13_area 49 = .ok (.invokevirtual 472, 3) := by decide +kernel
theorem dX13_area_52 : decode cX13_area 52 = .ok (.aload_n 0, 1) := by decide +kernel
theorem dX13_area_53 : decode cX13_area 53 = .ok (.iload_n 2, 1) := by decide +kernel
theorem dX13_area_54 : decode cX13_area 54 = .ok (.iconst 1, 1) := by decide +kernel
theorem dX13_area_55 : decode cX13_area 55 = .ok (.invokevirtual 460, 3) := by decide +kernel
theorem dX13_area_58 : decode cX13_area 58 = .ok (.aload_n 0, 1) := by decide +kernel
theorem dX13_area_59 : decode cX13_area 59 = .ok (.iload_n 1, 1) := by decide +kernel
theorem dX13_area_60 : decode cX13_area 60 = .ok (.iconst 1, 1) := by decide +kernel
theorem dX13_area_61 : decode cX13_area 61 = .ok (.invokevirtual 460, 3) := by decide +kernel
theorem dX13_area_64 : decode cX13_area 64 = .ok (.aload_n 0, 1) := by decide +kernel
theorem dX13_area_65 : decode cX13_area 65 = .ok (.invokevirtual 472, 3) := by decide +kernel
theorem dX13_area_68 : decode cX13_area 68 = .ok (.aload_n 0, 1) := by decide +kernel
theorem dX13_area_69 : decode cX13_area 69 = .ok (.invokevirtual 475, 3) := by decide +kernel
theorem dX13_area_72 : decode cX13_area 72 = .ok (.aload_n 0, 1) := by decide +kernel
theorem dX13_area_73 : decode cX13_area 73 = .ok (.invokevirtual 472, 3) := by decide +kernel
theorem dX13_area_76 : decode cX13_area 76 = .ok (.return_, 1) := by decide +kernel
theorem dX13_circle_0 : decode cX13_circle 0 = .ok (.aload_n 0, 1) := by decide +kernel
theorem dX13_circle_1 : decode cX13_circle 1 = .ok (.iconst 5, 1) := by decide +kernel
theorem dX13_circle_2 : decode cX13_circle 2 = .ok (.invokevirtual 469, 3) := by decide +kernel
theorem dX13_circle_5 : decode cX13_circle 5 = .ok (.istore_n 2, 1) := by decide +kernel
theorem dX13_circle_6 : decode cX13_circle 6 = .ok (.aload_n 0, 1) := by decide +kernel
theorem dX13_circle_7 : decode cX13_circle 7 = .ok (.iload_n 2, 1) := by decide +kernel
theorem dX13_circle_8 : decode cX13_circle 8 = .ok (.iconst 2, 1) := by decide +kernel
theorem dX13_circle_9 : decode cX13_circle 9 = .ok (.invokevirtual 466, 3) := by decide +kernel
theorem dX13_circle_12 : decode cX13_circle 12 = .ok (.aload_n 0, 1) := by decide +kernel
theorem dX13_circle_13 : decode cX13_circle 13 = .ok (.iload_n 1, 1) := by decide +kernel
theorem dX13_circle_14 : decode cX13_circle 14 = .ok (.iconst 0, 1) := by decide +kernel
theorem dX13_circle_15 : decode cX13_circle 15 = .ok (.invokevirtual 460, 3) := by decide +kernel
theorem dX13_circle_18 : decode cX13_circle 18 = .ok (.aload_n 0, 1) := by decide +kernel
theorem dX13_circle_19 : decode cX13_circle 19 = .ok (.iload_n 2, 1) := by decide +kernel
theorem dX13_circle_20 : decode cX13_circle 20 = .ok (.iconst 0, 1) := by decide +kernel
theorem dX13_circle_21 : decode cX13_circle 21 = .ok (.invokevirtual 466, 3) := by decide +kernel
theorem dX13_circle_24 : decode cX13_circle 24 = .ok (.aload_n 0, 1) := by decide +kernel
theorem dX13_circle_25 : decode cX13_circle 25 = .ok (.iload_n 1, 1) := by decide +kernel
theorem dX13_circle_26 : decode cX13_circle 26 = .ok (.iconst 1, 1) := by decide +kernel
theorem dX13_circle_27 : decode cX13_circle 27 = .ok (.invokevirtual 460, 3) := by decide +kernel
theorem dX13_circle_30 : decode cX13_circle 30 = .ok (.aload_n 0, 1) := by decide +kernel
theorem dX13_circle_31 : decode cX13_circle 31 = .ok (.iload_n 2, 1) := by decide +kernel
theorem dX13_circle_32 : decode cX13_circle 32 = .ok (.iconst 1, 1) := by decide +kernel
theorem dX13_circle_33 : decode cX13_circle 33 = .ok (.invokevirtual 466, 3) := by decide +kernel
theorem dX13_circle_36 : decode cX13_circle 36 = .ok (.iload_n 2, 1) := by decide +kernel
theorem dX13_circle_37 : decode cX13_circle 37 = .ok (.ireturn, 1) := by decide +kernel
theorem dX13_centre_0 : decode cX13_centre 0 = .ok (.aload_n 0, 1) := by decide +kernel
theorem dX13_centre_1 : decode cX13_centre 1 = .ok (.iconst 1, 1) := by decide +kernel
theorem dX13_centre_2 : decode cX13_centre 2 = .ok (.invokevirtual 469, 3) := by decide +kernel
theorem dX13_centre_5 : decode cX13_centre 5 = .ok (.istore_n 2, 1) := by decide +kernel
theorem dX13_centre_6 : decode cX13_centre 6 = .ok (.aload_n 0, 1) := by decide +kernel
theorem dX13_centre_7 : decode cX13_centre 7 = .ok (.iload_n 1, 1) := by decide +kernel
theorem dX13_centre_8 : decode cX13_centre 8 = .ok (.iconst 0, 1) := by decide +kernel
theorem dX13_centre_9 : decode cX13_centre 9 = .ok (.invokevirtual 460, 3) := by decide +kernel
theorem dX13_centre_12 : decode cX13_centre 12 = .ok (.aload_n 0, 1) := by decide +kernel
theorem dX13_centre_13 : decode cX13_centre 13 = .ok (.iload_n 2, 1) := by decide +kernel
theorem dX13_centre_14 : decode cX13_centre 14 = .ok (.iconst 0, 1) := by decide +kernel
theorem dX13_centre_15 : decode cX13_centre 15 = .ok (.invokevirtual 466, 3) := by decide +kernel
theorem dX13_centre_18 : decode cX13_centre 18 = .ok (.aload_n 0, 1) := by decide +kernel
theorem dX13_centre_19 : decode cX13_centre 19 = .ok (.iload_n 1, 1) := by decide +kernel
theorem dX13_centre_20 : decode cX13_centre 20 = .ok (.iconst 1, 1) := by decide +kernel
theorem dX13_centre_21 : decode cX13_centre 21 = .ok (.invokevirtual 460, 3) := by decide +kernel
theorem dX13_centre_24 : decode cX13_centre 24 = .ok (.aload_n 0, 1) := by decide +kernel
theorem dX13_centre_25 : decode cX13_centre 25 = .ok (.iload_n 2, 1) := by decide +kernel
theorem dX13_centre_26 : decode cX13_centre 26 = .ok (.iconst 1, 1) := by decide +kernel
theorem dX13_centre_27 : decode cX13_centre 27 = .ok (.invokevirtual 466, 3) := by decide +kernel
theorem dX13_centre_30 : decode cX13_centre 30 = .ok (.iload_n 2, 1) := by decide +kernel
theorem dX13_centre_31 : decode cX13_centre 31 = .ok (.ireturn, 1) := by decide +kernel
theorem dX13_ring_0 : decode cX13_ring 0 = .ok (.aload_n 0, 1) := by decide +kernel
theorem dX13_ring_1 : decode cX13_ring 1 = .ok (.iload_n 1, 1) := by decide +kernel
theorem dX13_ring_2 : decode cX13_ring 2 = .ok (.iload_n 2, 1) := by decide +kernel
theorem dX13_ring_3 : decode cX13_ring 3 = .ok (.invokevirtual 505, 3) := by decide +kernel
theorem dX13_ring_6 : decode cX13_ring 6 = .ok (.istore 4, 2) := by decide +kernel
theorem dX13_ring_8 : decode cX13_ring 8 = .ok (.aload_n 0, 1) := by decide +kernel
theorem dX13_ring_9 : decode cX13_ring 9 = .ok (.iload 4, 2) := by decide +kernel
theorem dX13_ring_11 : decode cX13_ring 11 = .ok (.aload_n 0, 1) := by decide +kernel
theorem dX13_ring_12 : decode cX13_ring 12 = .ok (.iload_n 1, 1) := by decide +kernel
theorem dX13_ring_13 : decode cX13_ring 13 = .ok (.iload_n 2, 1) := by decide +kernel
theorem dX13_ring_14 : decode cX13_ring 14 = .ok (.iconst 3, 1) := by decide +kernel
theorem dX13_ring_15 : decode cX13_ring 15 = .ok (.invokevirtual 508, 3) := by decide +kernel
theorem dX13_ring_18 : decode cX13_ring 18 = .ok (.invokevirtual 496, 3) := by decide +kernel
theorem dX13_ring_21 : decode cX13_ring 21 = .ok (.istore 5, 2) := by decide +kernel
theorem dX13_ring_23 : decode cX13_ring 23 = .ok (.aload_n 0, 1) := by decide +kernel
theorem dX13_ring_24 : decode cX13_ring 24 = .ok (.iload_n 1, 1) := by decide +kernel
theorem dX13_ring_25 : decode cX13_ring 25 = .ok (.iload_n 3, 1) := by decide +kernel
theorem dX13_ring_26 : decode cX13_ring 26 = .ok (.invokevirtual 505, 3) := by decide +kernel
theorem dX13_ring_29 : decode cX13_ring 29 = .ok (.istore 6, 2) := by decide +kernel
theorem dX13_ring_31 : decode cX13_ring 31 = .ok (.aload_n 0, 1) := by decide +kernel
theorem dX13_ring_32 : decode cX13_ring 32 = .ok (.iload 6, 2) := by decide +kernel
theorem dX13_ring_34 : decode cX13_ring 34 = .ok (.aload_n 0, 1) := by decide +kernel
theorem dX13_ring_35 : decode cX13_ring 35 = .ok (.iload_n 1, 1) := by decide +kernel
theorem dX13_ring_36 : decode cX13_ring 36 = .ok (.iload_n 3, 1) := by decide +kernel
theorem dX13_ring_37 : decode cX13_ring 37 = .ok (.iconst 3, 1) := by decide +kernel
theorem dX13_ring_38 : decode cX13_ring 38 = .ok (.invokevirtual 508, 3) := by decide +kernel
theorem dX13_ring_41 : decode cX13_ring 41 = .ok (.invokevirtual 496, 3) := by decide +kernel
theorem dX13_ring_44 : decode cX13_ring 44 = .ok (.istore 7, 2) := by decide +kernel
theorem dX13_ring_46 : decode cX13_ring 46 = .ok (.aload_n 0, 1) := by decide +kernel
theorem dX13_ring_47 : decode cX13_ring 47 = .ok (.iload 5, 2) := by decide +kernel
theorem dX13_ring_49 : decode cX13_ring 49 = .ok (.iload 7, 2) := by decide +kernel
theorem dX13_ring_51 : decode cX13_ring 51 = .ok (.invokevirtual 499, 3) := by decide +kernel
theorem dX13_ring_54 : decode cX13_ring 54 = .ok (.istore 8, 2) := by decide +kernel
theorem dX13_ring_56 : decode cX13_ring 56 = .ok (.aload_n 0, 1) := by decide +kernel
theorem dX13_ring_57 : decode cX13_ring 57 = .ok (.iload 8, 2) := by decide +kernel
theorem dX13_ring_59 : decode cX13_ring 59 = .ok (.iload_n 1, 1) := by decide +kernel
theorem dX13_ring_60 : decode cX13_ring 60 = .ok (.invokevirtual 512, 3) := by decide +kernel
theorem dX13_ring_63 : decode cX13_ring 63 = .ok (.aload_n 0, 1) := by decide +kernel
theorem dX13_ring_64 : decode cX13_ring 64 = .ok (.iload 8, 2) := by decide +kernel
theorem dX13_ring_66 : decode cX13_ring 66 = .ok (.invokevirtual 515, 3) := by decide +kernel
theorem dX13_ring_69 : decode cX13_ring 69 = .ok (.ireturn, 1) := by decide +kernel
theorem dX13_endOf_0 : decode cX13_endOf 0 = .ok (.aload_n 0, 1) := by decide +kernel
theorem dX13_endOf_1 : decode cX13_endOf 1 = .ok (.iconst 1, 1) := by decide +kernel
theorem dX13_endOf_2 : decode cX13_endOf 2 = .ok (.invokevirtual 469, 3) := by decide +kernel
theorem dX13_endOf_5 : decode cX13_endOf 5 = .ok (.istore_n 3, 1) := by decide +kernel
theorem dX13_endOf_6 : decode cX13_endOf 6 = .ok (.aload_n 0, 1) := by decide +kernel
theorem dX13_endOf_7 : decode cX13_endOf 7 = .ok (.iload_n 1, 1) := by decide +kernel
theorem dX13_endOf_8 : decode cX13_endOf 8 = .ok (.iconst 3, 1) := by decide +kernel
theorem dX13_endOf_9 : decode cX13_endOf 9 = .ok (.iconst 2, 1) := by decide +kernel
theorem dX13_endOf_10 : decode cX13_endOf 10 = .ok (.iload_n 2, 1) := by decide +kernel
theorem dX13_endOf_11 : decode cX13_endOf 11 = .ok (.imul, 1) := by decide +kernel
theorem dX13_endOf_12 : decode cX13_endOf 12 = .ok (.iadd, 1) := by decide +kernel
theorem dX13_endOf_13 : decode cX13_endOf 13 = .ok (.invokevirtual 460, 3) := by decide +kernel
theorem dX13_endOf_16 : decode cX13_endOf 16 = .ok (.aload_n 0, 1) := by decide +kernel
theorem dX13_endOf_17 : decode cX13_endOf 17 = .ok (.iload_n 3, 1) := by decide +kernel
theorem dX13_endOf_18 : decode cX13_endOf 18 = .ok (.iconst 0, 1) := by decide +kernel
theorem dX13_endOf_19 : decode cX13_endOf 19 = .ok (.invokevirtual 466, 3) := by decide +kernel
theorem dX13_endOf_22 : decode cX13_endOf 22 = .ok (.aload_n 0, 1) := by decide +kernel
theorem dX13_endOf_23 : decode cX13_endOf 23 = .ok (.iload_n 1, 1) := by decide +kernel
theorem dX13_endOf_24 : decode cX13_endOf 24 = .ok (.iconst 4, 1) := by decide +kernel
theorem dX13_endOf_25 : decode cX13_endOf 25 = .ok (.iconst 2, 1) := by decide +kernel
theorem dX13_endOf_26 : decode cX13_endOf 26 = .ok (.iload_n 2, 1) := by decide +kernel
theorem dX13_endOf_27 : decode cX13_endOf 27 = .ok (.imul, 1) := by decide +kernel
theorem dX13_endOf_28 : decode cX13_endOf 28 = .ok (.iadd, 1) := by decide +kernel
theorem dX13_endOf_29 : decode cX13_endOf 29 = .ok (.invokevirtual 460, 3) := by decide +kernel
theorem dX13_endOf_32 : decode cX13_endOf 32 = .ok (.aload_n 0, 1) := by decide +kernel
theorem dX13_endOf_33 : decode cX13_endOf 33 = .ok (.iload_n 3, 1) := by decide +kernel
theorem dX13_endOf_34 : decode cX13_endOf 34 = .ok (.iconst 1, 1) := by decide +kernel
theorem dX13_endOf_35 : decode cX13_endOf 35 = .ok (.invokevirtual 466, 3) := by decide +kernel
theorem dX13_endOf_38 : decode cX13_endOf 38 = .ok (.iload_n 3, 1) := by decide +kernel
theorem dX13_endOf_39 : decode cX13_endOf 39 = .ok (.ireturn, 1) := by decide +kernel
theorem dX13_half_0 : decode cX13_half 0 = .ok (.aload_n 0, 1) := by decide +kernel
theorem dX13_half_1 : decode cX13_half 1 = .ok (.aload_n 0, 1) := by decide +kernel
theorem dX13_half_2 : decode cX13_half 2 = .ok (.aload_n 0, 1) := by decide +kernel
theorem dX13_half_3 : decode cX13_half 3 = .ok (.iload_n 1, 1) := by decide +kernel
theorem dX13_half_4 : decode cX13_half 4 = .ok (.iconst 0, 1) := by decide +kernel
theorem dX13_half_5 : decode cX13_half 5 = .ok (.invokevirtual 518, 3) := by decide +kernel
theorem dX13_half_8 : decode cX13_half 8 = .ok (.aload_n 0, 1) := by decide +kernel
theorem dX13_half_9 : decode cX13_half 9 = .ok (.iload_n 1, 1) := by decide +kernel
theorem dX13_half_10 : decode cX13_half 10 = .ok (.iconst 1, 1) := by decide +kernel
theorem dX13_half_11 : decode cX13_half 11 = .ok (.invokevirtual 518, 3) := by decide +kernel
theorem dX13_half_14 : decode cX13_half 14 = .ok (.invokevirtual 505, 3) := by decide +kernel
theorem dX13_half_17 : decode cX13_half 17 = .ok (.iload_n 1, 1) := by decide +kernel
theorem dX13_half_18 : decode cX13_half 18 = .ok (.invokevirtual 496, 3) := by decide +kernel
theorem dX13_half_21 : decode cX13_half 21 = .ok (.ireturn, 1) := by decide +kernel
theorem dX13_polar_0 : decode cX13_polar 0 = .ok (.aload_n 0, 1) := by decide +kernel
theorem dX13_polar_1 : decode cX13_polar 1 = .ok (.iconst 3, 1) := by decide +kernel
theorem dX13_polar_2 : decode cX13_polar 2 = .ok (.invokevirtual 469, 3) := by decide +kernel
theorem dX13_polar_5 : decode cX13_polar 5 = .ok (.istore_n 3, 1) := by decide +kernel
theorem dX13_polar_6 : decode cX13_polar 6 = .ok (.iconst 0, 1) := by decide +kernel
theorem dX13_polar_7 : decode cX13_polar 7 = .ok (.istore 4, 2) := by decide +kernel
theorem dX13_polar_9 : decode cX13_polar 9 = .ok (.iload 4, 2) := by decide +kernel
theorem dX13_polar_11 : decode cX13_polar 11 = .ok (.iconst 2, 1) := by decide +kernel
theorem dX13_polar_12 : decode cX13_polar 12 = .ok (.if_icmp .ge 34, 3) := by decide +kernel
theorem dX13_polar_15 : decode cX13_polar 15 = .ok (.aload_n 0, 1) := by decide +kernel
theorem dX13_polar_16 : decode cX13_polar 16 = .ok (.iload_n 1, 1) := by decide +kernel
theorem dX13_polar_17 : decode cX13_polar 17 = .ok (.iload 4, 2) := by decide +kernel
theorem dX13_polar_19 : decode cX13_polar 19 = .ok (.invokevirtual 460, 3) := by decide +kernel
theorem dX13_polar_22 : decode cX13_polar 22 = .ok (.aload_n 0, 1) := by decide +kernel
theorem dX13_polar_23 : decode cX13_polar 23 = .ok (.iload_n 2, 1) := by decide +kernel
theorem dX13_polar_24 : decode cX13_polar 24 = .ok (.iload 4, 2) := by decide +kernel
theorem dX13_polar_26 : decode cX13_polar 26 = .ok (.invokevirtual 460, 3) := by decide +kernel
theorem dX13_polar_29 : decode cX13_polar 29 = .ok (.aload_n 0, 1) := by decide +kernel
theorem dX13_polar_30 : decode cX13_polar 30 = .ok (.invokevirtual 472, 3) := by decide +kernel
theorem dX13_polar_33 : decode cX13_polar 33 = .ok (.aload_n 0, 1) := by decide +kernel
theorem dX13_polar_34 : decode cX13_polar 34 = .ok (.iload_n 3, 1) := by decide +kernel
theorem dX13_polar_35 : decode cX13_polar 35 = .ok (.iload 4, 2) := by decide +kernel
theorem dX13_polar_37 : decode cX13_polar 37 = .ok (.invokevirtual 466, 3) := by decide +kernel
theorem dX13_polar_40 : decode cX13_polar 40 = .ok (.iinc 4 1, 3) := by decide +kernel
theorem dX13_polar_43 : decode cX13_polar 43 = .ok (.goto (-34), 3) := by decide +kernel
theorem dX13_polar_46 : decode cX13_polar 46 = .ok (.aload_n 0, 1) := by decide +kernel
theorem dX13_polar_47 : decode cX13_polar 47 = .ok (.iload_n 2, 1) := by decide +kernel
theorem dX13_polar_48 : decode cX13_polar 48 = .ok (.iconst 2, 1) := by decide +kernel
theorem dX13_polar_49 : decode cX13_polar 49 = .ok (.invokevirtual 460, 3) := by decide +kernel
theorem dX13_polar_52 : decode cX13_polar 52 = .ok (.aload_n 0, 1) := by decide +kernel
theorem dX13_polar_53 : decode cX13_polar 53 = .ok (.iload_n 3, 1) := by decide +kernel
theorem dX13_polar_54 : decode cX13_polar 54 = .ok (.iconst 0, 1) := by decide +kernel
theorem dX13_polar_55 : decode cX13_polar 55 = .ok (.invokevirtual 460, 3) := by decide +kernel
theorem dX13_polar_58 : decode cX13_polar 58 = .ok (.aload_n 0, 1) := by decide +kernel
theorem dX13_polar_59 : decode cX13_polar 59 = .ok (.iload_n 2, 1) := by decide +kernel
theorem dX13_polar_60 : decode cX13_polar 60 = .ok (.iconst 0, 1) := by decide +kernel
theorem dX13_polar_61 : decode cX13_polar 61 = .ok (.invokevirtual 460, 3) := by decide +kernel
theorem dX13_polar_64 : decode cX13_polar 64 = .ok (.aload_n 0, 1) := by decide +kernel
theorem dX13_polar_65 : decode cX13_polar 65 = .ok (.invokevirtual 475, 3) := by decide +kernel
theorem dX13_polar_68 : decode cX13_polar 68 = .ok (.aload_n 0, 1) := by decide +kernel
theorem dX13_polar_69 : decode cX13_polar 69 = .ok (.invokevirtual 478, 3) := by decide +kernel
theorem dX13_polar_72 : decode cX13_polar 72 = .ok (.aload_n 0, 1) := by decide +kernel
theorem dX13_polar_73 : decode cX13_polar 73 = .ok (.iload_n 3, 1) := by decide +kernel
theorem dX13_polar_74 : decode cX13_polar 74 = .ok (.iconst 1, 1) := by decide +kernel
theorem dX13_polar_75 : decode cX13_polar 75 = .ok (.invokevirtual 460, 3) := by decide +kernel
theorem dX13_polar_78 : decode cX13_polar 78 = .ok (.aload_n 0, 1) := by decide +kernel
theorem dX13_polar_79 : decode cX13_polar 79 = .ok (.iload_n 2, 1) := by decide +kernel
theorem dX13_polar_80 : decode cX13_polar 80 = .ok (.iconst 1, 1) := by decide +kernel
theorem dX13_polar_81 : decode cX13_polar 81 = .ok (.invokevirtual 460, 3) := by decide +kernel
theorem dX13_polar_84 : decode cX13_polar 84 = .ok (.aload_n 0, 1) := by decide +kernel
theorem dX13_polar_85 : decode cX13_polar 85 = .ok (.invokevirtual 475, 3) := by decide +kernel
theorem dX13_polar_88 : decode cX13_polar 88 = .ok (.aload_n 0, 1) := by decide +kernel
theorem dX13_polar_89 : decode cX13_polar 89 = .ok (.invokevirtual 478, 3) := by decide +kernel
theorem dX13_polar_92 : decode cX13_polar 92 = .ok (.aload_n 0, 1) := by decide +kernel
theorem dX13_polar_93 : decode cX13_polar 93 = .ok (.iload_n 3, 1) := by decide +kernel
theorem dX13_polar_94 : decode cX13_polar 94 = .ok (.iconst 2, 1) := by decide +kernel
theorem dX13_polar_95 : decode cX13_polar 95 = .ok (.invokevirtual 466, 3) := by decide +kernel
theorem dX13_polar_98 : decode cX13_polar 98 = .ok (.aload_n 0, 1) := by decide +kernel
theorem dX13_polar_99 : decode cX13_polar 99 = .ok (.iload_n 3, 1) := by decide +kernel
theorem dX13_polar_100 : decode cX13_polar 100 = .ok (.invokevirtual 481, 3) := by decide +kernel
theorem dX13_polar_103 : decode cX13_polar 103 = .ok (.iload_n 3, 1) := by decide +kernel
theorem dX13_polar_104 : decode cX13_polar 104 = .ok (.ireturn, 1) := by decide +kernel
theorem dX13_invert_0 : decode cX13_invert 0 = .ok (.aload_n 0, 1) := by decide +kernel
theorem dX13_invert_1 : decode cX13_invert 1 = .ok (.iload_n 2, 1) := by decide +kernel
theorem dX13_invert_2 : decode cX13_invert 2 = .ok (.invokevirtual 521, 3) := by decide +kernel
theorem dX13_invert_5 : decode cX13_invert 5 = .ok (.istore_n 3, 1) := by decide +kernel
theorem dX13_invert_6 : decode cX13_invert 6 = .ok (.aload_n 0, 1) := by decide +kernel
theorem dX13_invert_7 : decode cX13_invert 7 = .ok (.iload_n 2, 1) := by decide +kernel
theorem dX13_invert_8 : decode cX13_invert 8 = .ok (.iconst 2, 1) := by decide +kernel
theorem dX13_invert_9 : decode cX13_invert 9 = .ok (.invokevirtual 460, 3) := by decide +kernel
theorem dX13_invert_12 : decode cX13_invert 12 = .ok (.aload_n 0, 1) := by decide +kernel
theorem dX13_invert_13 : decode cX13_invert 13 = .ok (.iload_n 1, 1) := by decide +kernel
theorem dX13_invert_14 : decode cX13_invert 14 = .ok (.iload_n 3, 1) := by decide +kernel
theorem dX13_invert_15 : decode cX13_invert 15 = .ok (.invokevirtual 512, 3) := by decide +kernel
theorem dX13_invert_18 : decode cX13_invert 18 = .ok (.aload_n 0, 1) := by decide +kernel
theorem dX13_invert_19 : decode cX13_invert 19 = .ok (.invokevirtual 463, 3) := by decide +kernel
theorem dX13_invert_22 : decode cX13_invert 22 = .ok (.aload_n 0, 1) := by decide +kernel
theorem dX13_invert_23 : decode cX13_invert 23 = .ok (.dup, 1) := by decide +kernel
theorem dX13_invert_24 : decode cX13_invert 24 = .ok (.getfield 437, 3) := by decide +kernel
theorem dX13_invert_27 : decode cX13_invert 27 = .ok (.iconst 1, 1) := by decide +kernel
theorem dX13_invert_28 : decode cX13_invert 28 = .ok (.isub, 1) := by decide +kernel
theorem dX13_invert_29 : decode cX13_invert 29 = .ok (.putfield 437, 3) := by decide +kernel
theorem dX13_invert_32 : decode cX13_invert 32 = .ok (.aload_n 0, 1) := by decide +kernel
theorem dX13_invert_33 : decode cX13_invert 33 = .ok (.iload_n 1, 1) := by decide +kernel
theorem dX13_invert_34 : decode cX13_invert 34 = .ok (.iload_n 3, 1) := by decide +kernel
theorem dX13_invert_35 : decode cX13_invert 35 = .ok (.aload_n 0, 1) := by decide +kernel
theorem dX13_invert_36 : decode cX13_invert 36 = .ok (.getfield 93, 3) := by decide +kernel
theorem dX13_invert_39 : decode cX13_invert 39 = .ok (.aload_n 0, 1) := by decide +kernel
theorem dX13_invert_40 : decode cX13_invert 40 = .ok (.getfield 437, 3) := by decide +kernel
theorem dX13_invert_43 : decode cX13_invert 43 = .ok (.laload, 1) := by decide +kernel
theorem dX13_invert_44 : decode cX13_invert 44 = .ok (.aload_n 0, 1) := by decide +kernel
theorem dX13_invert_45 : decode cX13_invert 45 = .ok (.getfield 96, 3) := by decide +kernel
theorem dX13_invert_48 : decode cX13_invert 48 = .ok (.aload_n 0, 1) := by decide +kernel
theorem dX13_invert_49 : decode cX13_invert 49 = .ok (.getfield 437, 3) := by decide +kernel
theorem dX13_invert_52 : decode cX13_invert 52 = .ok (.laload, 1) := by decide +kernel
theorem dX13_invert_53 : decode cX13_invert 53 = .ok (.invokevirtual 524, 3) := by decide +kernel
theorem dX13_invert_56 : decode cX13_invert 56 = .ok (.ireturn, 1) := by decide +kernel
theorem dX13_root_0 : decode cX13_root 0 = .ok (.lconst 0, 1) := by decide +kernel
theorem dX13_root_1 : decode cX13_root 1 = .ok (.lstore_n 2, 1) := by decide +kernel
theorem dX13_root_2 : decode cX13_root 2 = .ok (.ldc2_w 528, 3) := by decide +kernel
theorem dX13_root_5 : decode cX13_root 5 = .ok (.lstore 4, 2) := by decide +kernel
theorem dX13_root_7 : decode cX13_root 7 = .ok (.lload 4, 2) := by decide +kernel
theorem dX13_root_9 : decode cX13_root 9 = .ok (.lconst 0, 1) := by decide +kernel
theorem dX13_root_10 : decode cX13_root 10 = .ok (.lcmp, 1) := by decide +kernel
theorem dX13_root_11 : decode cX13_root 11 = .ok (.ifCond .le 37, 3) := by decide +kernel
theorem dX13_root_14 : decode cX13_root 14 = .ok (.lload_n 2, 1) := by decide +kernel
theorem dX13_root_15 : decode cX13_root 15 = .ok (.lload 4, 2) := by decide +kernel
theorem dX13_root_17 : decode cX13_root 17 = .ok (.ladd, 1) := by decide +kernel
theorem dX13_root_18 : decode cX13_root 18 = .ok (.lload_n 2, 1) := by decide +kernel
theorem dX13_root_19 : decode cX13_root 19 = .ok (.lload 4, 2) := by decide +kernel
theorem dX13_root_21 : decode cX13_root 21 = .ok (.ladd, 1) := by decide +kernel
theorem dX13_root_22 : decode cX13_root 22 = .ok (.lmul, 1) := by decide +kernel
theorem dX13_root_23 : decode cX13_root 23 = .ok (.lload_n 0, 1) := by decide +kernel
theorem dX13_root_24 : decode cX13_root 24 = .ok (.lcmp, 1) := by decide +kernel
theorem dX13_root_25 : decode cX13_root 25 = .ok (.ifCond .gt 10, 3) := by decide +kernel
theorem dX13_root_28 : decode cX13_root 28 = .ok (.lload_n 2, 1) := by decide +kernel
theorem dX13_root_29 : decode cX13_root 29 = .ok (.lload 4, 2) := by decide +kernel
theorem dX13_root_31 : decode cX13_root 31 = .ok (.ladd, 1) := by decide +kernel
theorem dX13_root_32 : decode cX13_root 32 = .ok (.goto 4, 3) := by decide +kernel
theorem dX13_root_35 : decode cX13_root 35 = .ok (.lload_n 2, 1) := by decide +kernel
theorem dX13_root_36 : decode cX13_root 36 = .ok (.lstore_n 2, 1) := by decide +kernel
theorem dX13_root_37 : decode cX13_root 37 = .ok (.lload 4, 2) := by decide +kernel
theorem dX13_root_39 : decode cX13_root 39 = .ok (.ldc2_w 484, 3) := by decide +kernel
theorem dX13_root_42 : decode cX13_root 42 = .ok (.ldiv, 1) := by decide +kernel
theorem dX13_root_43 : decode cX13_root 43 = .ok (.lstore 4, 2) := by decide +kernel
theorem dX13_root_45 : decode cX13_root 45 = .ok (.goto (-38), 3) := by decide +kernel
theorem dX13_root_48 : decode cX13_root 48 = .ok (.lload_n 2, 1) := by decide +kernel
theorem dX13_root_49 : decode cX13_root 49 = .ok (.lload_n 2, 1) := by decide +kernel
theorem dX13_root_50 : decode cX13_root 50 = .ok (.lmul, 1) := by decide +kernel
theorem dX13_root_51 : decode cX13_root 51 = .ok (.lload_n 0, 1) := by decide +kernel
theorem dX13_root_52 : decode cX13_root 52 = .ok (.lcmp, 1) := by decide +kernel
theorem dX13_root_53 : decode cX13_root 53 = .ok (.ifCond .ne 7, 3) := by decide +kernel
theorem dX13_root_56 : decode cX13_root 56 = .ok (.lload_n 2, 1) := by decide +kernel
theorem dX13_root_57 : decode cX13_root 57 = .ok (.goto 6, 3) := by decide +kernel
theorem dX13_root_60 : decode cX13_root 60 = .ok (.ldc2_w 530, 3) := by decide +kernel
theorem dX13_root_63 : decode cX13_root 63 = .ok (.lreturn, 1) := by decide +kernel
theorem dX13_cut__0 : decode cX13_cut_ 0 = .ok (.aload_n 0, 1) := by decide +kernel
theorem dX13_cut__1 : decode cX13_cut_ 1 = .ok (.iload_n 2, 1) := by decide +kernel
theorem dX13_cut__2 : decode cX13_cut_ 2 = .ok (.invokevirtual 521, 3) := by decide +kernel
theorem dX13_cut__5 : decode cX13_cut_ 5 = .ok (.istore 5, 2) := by decide +kernel
theorem dX13_cut__7 : decode cX13_cut_ 7 = .ok (.aload_n 0, 1) := by decide +kernel
theorem dX13_cut__8 : decode cX13_cut_ 8 = .ok (.iload 5, 2) := by decide +kernel
theorem dX13_cut__10 : decode cX13_cut_ 10 = .ok (.iload_n 1, 1) := by decide +kernel
theorem dX13_cut__11 : decode cX13_cut_ 11 = .ok (.invokevirtual 502, 3) := by decide +kernel
theorem dX13_cut__14 : decode cX13_cut_ 14 = .ok (.istore 6, 2) := by decide +kernel
theorem dX13_cut__16 : decode cX13_cut_ 16 = .ok (.aload_n 0, 1) := by decide +kernel
theorem dX13_cut__17 : decode cX13_cut_ 17 = .ok (.iload_n 2, 1) := by decide +kernel
theorem dX13_cut__18 : decode cX13_cut_ 18 = .ok (.iconst 2, 1) := by decide +kernel
theorem dX13_cut__19 : decode cX13_cut_ 19 = .ok (.invokevirtual 460, 3) := by decide +kernel
theorem dX13_cut__22 : decode cX13_cut_ 22 = .ok (.aload_n 0, 1) := by decide +kernel
theorem dX13_cut__23 : decode cX13_cut_ 23 = .ok (.iload 5, 2) := by decide +kernel
theorem dX13_cut__25 : decode cX13_cut_ 25 = .ok (.iload 6, 2) := by decide +kernel
theorem dX13_cut__27 : decode cX13_cut_ 27 = .ok (.invokevirtual 512, 3) := by decide +kernel
theorem dX13_cut__30 : decode cX13_cut_ 30 = .ok (.aload_n 0, 1) := by decide +kernel
theorem dX13_cut__31 : decode cX13_cut_ 31 = .ok (.invokevirtual 472, 3) := by decide +kernel
theorem dX13_cut__34 : decode cX13_cut_ 34 = .ok (.aload_n 0, 1) := by decide +kernel
theorem dX13_cut__35 : decode cX13_cut_ 35 = .ok (.getfield 93, 3) := by decide +kernel
theorem dX13_cut__38 : decode cX13_cut_ 38 = .ok (.aload_n 0, 1) := by decide +kernel
theorem dX13_cut__39 : decode cX13_cut_ 39 = .ok (.getfield 437, 3) := by decide +kernel
theorem dX13_cut__42 : decode cX13_cut_ 42 = .ok (.iconst 1, 1) := by decide +kernel
theorem dX13_cut__43 : decode cX13_cut_ 43 = .ok (.isub, 1) := by decide +kernel
theorem dX13_cut__44 : decode cX13_cut_ 44 = .ok (.laload, 1) := by decide +kernel
theorem dX13_cut__45 : decode cX13_cut_ 45 = .ok (.lconst 0, 1) := by decide +kernel
theorem dX13_cut__46 : decode cX13_cut_ 46 = .ok (.lcmp, 1) := by decide +kernel
theorem dX13_cut__47 : decode cX13_cut_ 47 = .ok (.ifCond .ge 9, 3) := by decide +kernel
theorem dX13_cut__50 : decode cX13_cut_ 50 = .ok (.aload_n 0, 1) := by decide +kernel
theorem dX13_cut__51 : decode cX13_cut_ 51 = .ok (.bipush 8, 2) := by decide +kernel
theorem dX13_cut__53 : decode cX13_cut_ 53 = .ok (.invokevirtual 452, 3) := by decide +kernel
theorem dX13_cut__56 : decode cX13_cut_ 56 = .ok (.aload_n 0, 1) := by decide +kernel
theorem dX13_cut__57 : decode cX13_cut_ 57 = .ok (.iload_n 1, 1) := by decide +kernel
theorem dX13_cut__58 : decode cX13_cut_ 58 = .ok (.iconst 0, 1) := by decide +kernel
theorem dX13_cut__59 : decode cX13_cut_ 59 = .ok (.invokevirtual 460, 3) := by decide +kernel
theorem dX13_cut__62 : decode cX13_cut_ 62 = .ok (.aload_n 0, 1) := by decide +kernel
theorem dX13_cut__63 : decode cX13_cut_ 63 = .ok (.iload_n 1, 1) := by decide +kernel
theorem dX13_cut__64 : decode cX13_cut_ 64 = .ok (.iconst 0, 1) := by decide +kernel
theorem dX13_cut__65 : decode cX13_cut_ 65 = .ok (.invokevirtual 460, 3) := by decide +kernel
theorem dX13_cut__68 : decode cX13_cut_ 68 = .ok (.aload_n 0, 1) := by decide +kernel
theorem dX13_cut__69 : decode cX13_cut_ 69 = .ok (.invokevirtual 475, 3) := by decide +kernel
theorem dX13_cut__72 : decode cX13_cut_ 72 = .ok (.aload_n 0, 1) := by decide +kernel
theorem dX13_cut__73 : decode cX13_cut_ 73 = .ok (.iload_n 1, 1) := by decide +kernel
theorem dX13_cut__74 : decode cX13_cut_ 74 = .ok (.iconst 1, 1) := by decide +kernel
theorem dX13_cut__75 : decode cX13_cut_ 75 = .ok (.invokevirtual 460, 3) := by decide +kernel
theorem dX13_cut__78 : decode cX13_cut_ 78 = .ok (.aload_n 0, 1) := by decide +kernel
theorem dX13_cut__79 : decode cX13_cut_ 79 = .ok (.iload_n 1, 1) := by decide +kernel
theorem dX13_cut__80 : decode cX13_cut_ 80 = .ok (.iconst 1, 1) := by decide +kernel
theorem dX13_cut__81 : decode cX13_cut_ 81 = .ok (.invokevirtual 460, 3) := by decide +kernel
theorem dX13_cut__84 : decode cX13_cut_ 84 = .ok (.aload_n 0, 1) := by decide +kernel
theorem dX13_cut__85 : decode cX13_cut_ 85 = .ok (.invokevirtual 475, 3) := by decide +kernel
theorem dX13_cut__88 : decode cX13_cut_ 88 = .ok (.aload_n 0, 1) := by decide +kernel
theorem dX13_cut__89 : decode cX13_cut_ 89 = .ok (.invokevirtual 478, 3) := by decide +kernel
theorem dX13_cut__92 : decode cX13_cut_ 92 = .ok (.aload_n 0, 1) := by decide +kernel
theorem dX13_cut__93 : decode cX13_cut_ 93 = .ok (.invokevirtual 463, 3) := by decide +kernel
theorem dX13_cut__96 : decode cX13_cut_ 96 = .ok (.aload_n 0, 1) := by decide +kernel
theorem dX13_cut__97 : decode cX13_cut_ 97 = .ok (.dup, 1) := by decide +kernel
theorem dX13_cut__98 : decode cX13_cut_ 98 = .ok (.getfield 437, 3) := by decide +kernel
theorem dX13_cut__101 : decode cX13_cut_ 101 = .ok (.iconst 1, 1) := by decide +kernel
theorem dX13_cut__102 : decode cX13_cut_ 102 = .ok (.isub, 1) := by decide +kernel
theorem dX13_cut__103 : decode cX13_cut_ 103 = .ok (.putfield 437, 3) := by decide +kernel
theorem dX13_cut__106 : decode cX13_cut_ 106 = .ok (.aload_n 0, 1) := by decide +kernel
theorem dX13_cut__107 : decode cX13_cut_ 107 = .ok (.getfield 93, 3) := by decide +kernel
theorem dX13_cut__110 : decode cX13_cut_ 110 = .ok (.aload_n 0, 1) := by decide +kernel
theorem dX13_cut__111 : decode cX13_cut_ 111 = .ok (.getfield 437, 3) := by decide +kernel
theorem dX13_cut__114 : decode cX13_cut_ 114 = .ok (.laload, 1) := by decide +kernel
theorem dX13_cut__115 : decode cX13_cut_ 115 = .ok (.invokestatic 532, 3) := by decide +kernel
theorem dX13_cut__118 : decode cX13_cut_ 118 = .ok (.lstore 7, 2) := by decide +kernel
theorem dX13_cut__120 : decode cX13_cut_ 120 = .ok (.aload_n 0, 1) := by decide +kernel
theorem dX13_cut__121 : decode cX13_cut_ 121 = .ok (.getfield 96, 3) := by decide +kernel
theorem dX13_cut__124 : decode cX13_cut_ 124 = .ok (.aload_n 0, 1) := by decide +kernel
theorem dX13_cut__125 : decode cX13_cut_ 125 = .ok (.getfield 437, 3) := by decide +kernel
theorem dX13_cut__128 : decode cX13_cut_ 128 = .ok (.laload, 1) := by decide +kernel
theorem dX13_cut__129 : decode cX13_cut_ 129 = .ok (.invokestatic 532, 3) := by decide +kernel
theorem dX13_cut__132 : decode cX13_cut_ 132 = .ok (.lstore 9, 2) := by decide +kernel
theorem dX13_cut__134 : decode cX13_cut_ 134 = .ok (.lload 7, 2) := by decide +kernel
theorem dX13_cut__136 : decode cX13_cut_ 136 = .ok (.lconst 0, 1) := by decide +kernel
theorem dX13_cut__137 : decode cX13_cut_ 137 = .ok (.lcmp, 1) := by decide +kernel
theorem dX13_cut__138 : decode cX13_cut_ 138 = .ok (.ifCond .lt 10, 3) := by decide +kernel
theorem dX13_cut__141 : decode cX13_cut_ 141 = .ok (.lload 9, 2) := by decide +kernel
theorem dX13_cut__143 : decode cX13_cut_ 143 = .ok (.lconst 0, 1) := by decide +kernel
theorem dX13_cut__144 : decode cX13_cut_ 144 = .ok (.lcmp, 1) := by decide +kernel
theorem dX13_cut__145 : decode cX13_cut_ 145 = .ok (.ifCond .ge 9, 3) := by decide +kernel
theorem dX13_cut__148 : decode cX13_cut_ 148 = .ok (.aload_n 0, 1) := by decide +kernel
theorem dX13_cut__149 : decode cX13_cut_ 149 = .ok (.bipush 8, 2) := by decide +kernel
theorem dX13_cut__151 : decode cX13_cut_ 151 = .ok (.invokevirtual 452, 3) := by decide +kernel
theorem dX13_cut__154 : decode cX13_cut_ 154 = .ok (.aload_n 0, 1) := by decide +kernel
theorem dX13_cut__155 : decode cX13_cut_ 155 = .ok (.iload_n 1, 1) := by decide +kernel
theorem dX13_cut__156 : decode cX13_cut_ 156 = .ok (.iload 6, 2) := by decide +kernel
theorem dX13_cut__158 : decode cX13_cut_ 158 = .ok (.lload 7, 2) := by decide +kernel
theorem dX13_cut__160 : decode cX13_cut_ 160 = .ok (.lload 9, 2) := by decide +kernel
theorem dX13_cut__162 : decode cX13_cut_ 162 = .ok (.iconst 0, 1) := by decide +kernel
theorem dX13_cut__163 : decode cX13_cut_ 163 = .ok (.invokevirtual 536, 3) := by decide +kernel
theorem dX13_cut__166 : decode cX13_cut_ 166 = .ok (.istore 11, 2) := by decide +kernel
theorem dX13_cut__168 : decode cX13_cut_ 168 = .ok (.aload_n 0, 1) := by decide +kernel
theorem dX13_cut__169 : decode cX13_cut_ 169 = .ok (.iload_n 1, 1) := by decide +kernel
theorem dX13_cut__170 : decode cX13_cut_ 170 = .ok (.iload 6, 2) := by decide +kernel
theorem dX13_cut__172 : decode cX13_cut_ 172 = .ok (.lload 7, 2) := by decide +kernel
theorem dX13_cut__174 : decode cX13_cut_ 174 = .ok (.lload 9, 2) := by decide +kernel
theorem dX13_cut__176 : decode cX13_cut_ 176 = .ok (.iconst 1, 1) := by decide +kernel
theorem dX13_cut__177 : decode cX13_cut_ 177 = .ok (.invokevirtual 536, 3) := by decide +kernel
theorem dX13_cut__180 : decode cX13_cut_ 180 = .ok (.istore 12, 2) := by decide +kernel
theorem dX13_cut__182 : decode cX13_cut_ 182 = .ok (.aload_n 0, 1) := by decide +kernel
theorem dX13_cut__183 : decode cX13_cut_ 183 = .ok (.getfield 108, 3) := by decide +kernel
theorem dX13_cut__186 : decode cX13_cut_ 186 = .ok (.bipush 7, 2) := by decide +kernel
theorem dX13_cut__188 : decode cX13_cut_ 188 = .ok (.iload 11, 2) := by decide +kernel
theorem dX13_cut__190 : decode cX13_cut_ 190 = .ok (.imul, 1) := by decide +kernel
theorem dX13_cut__191 : decode cX13_cut_ 191 = .ok (.laload, 1) := by decide +kernel
theorem dX13_cut__192 : decode cX13_cut_ 192 = .ok (.aload_n 0, 1) := by decide +kernel
theorem dX13_cut__193 : decode cX13_cut_ 193 = .ok (.getfield 111, 3) := by decide +kernel
theorem dX13_cut__196 : decode cX13_cut_ 196 = .ok (.bipush 7, 2) := by decide +kernel
theorem dX13_cut__198 : decode cX13_cut_ 198 = .ok (.iload 11, 2) := by decide +kernel
theorem dX13_cut__200 : decode cX13_cut_ 200 = .ok (.imul, 1) := by decide +kernel
theorem dX13_cut__201 : decode cX13_cut_ 201 = .ok (.laload, 1) := by decide +kernel
theorem dX13_cut__202 : decode cX13_cut_ 202 = .ok (.aload_n 0, 1) := by decide +kernel
theorem dX13_cut__203 : decode cX13_cut_ 203 = .ok (.getfield 108, 3) := by decide +kernel
theorem dX13_cut__206 : decode cX13_cut_ 206 = .ok (.bipush 7, 2) := by decide +kernel
theorem dX13_cut__208 : decode cX13_cut_ 208 = .ok (.iload 12, 2) := by decide +kernel
theorem dX13_cut__210 : decode cX13_cut_ 210 = .ok (.imul, 1) := by decide +kernel
theorem dX13_cut__211 : decode cX13_cut_ 211 = .ok (.laload, 1) := by decide +kernel
theorem dX13_cut__212 : decode cX13_cut_ 212 = .ok (.aload_n 0, 1) := by decide +kernel
theorem dX13_cut__213 : decode cX13_cut_ 213 = .ok (.getfield 111, 3) := by decide +kernel
theorem dX13_cut__216 : decode cX13_cut_ 216 = .ok (.bipush 7, 2) := by decide +kernel
theorem dX13_cut__218 : decode cX13_cut_ 218 = .ok (.iload 12, 2) := by decide +kernel
theorem dX13_cut__220 : decode cX13_cut_ 220 = .ok (.imul, 1) := by decide +kernel
theorem dX13_cut__221 : decode cX13_cut_ 221 = .ok (.laload, 1) := by decide +kernel
theorem dX13_cut__222 : decode cX13_cut_ 222 = .ok (.invokestatic 540, 3) := by decide +kernel
theorem dX13_cut__225 : decode cX13_cut_ 225 = .ok (.istore 13, 2) := by decide +kernel
theorem dX13_cut__227 : decode cX13_cut_ 227 = .ok (.iload 13, 2) := by decide +kernel
theorem dX13_cut__229 : decode cX13_cut_ 229 = .ok (.ifCond .ne 57, 3) := by decide +kernel
theorem dX13_cut__232 : decode cX13_cut_ 232 = .ok (.aload_n 0, 1) := by decide +kernel
theorem dX13_cut__233 : decode cX13_cut_ 233 = .ok (.getfield 108, 3) := by decide +kernel
theorem dX13_cut__236 : decode cX13_cut_ 236 = .ok (.bipush 7, 2) := by decide +kernel
theorem dX13_cut__238 : decode cX13_cut_ 238 = .ok (.iload 11, 2) := by decide +kernel
theorem dX13_cut__240 : decode cX13_cut_ 240 = .ok (.imul, 1) := by decide +kernel
theorem dX13_cut__241 : decode cX13_cut_ 241 = .ok (.iconst 1, 1) := by decide +kernel
theorem dX13_cut__242 : decode cX13_cut_ 242 = .ok (.iadd, 1) := by decide +kernel
theorem dX13_cut__243 : decode cX13_cut_ 243 = .ok (.laload, 1) := by decide +kernel
theorem dX13_cut__244 : decode cX13_cut_ 244 = .ok (.aload_n 0, 1) := by decide +kernel
theorem dX13_cut__245 : decode cX13_cut_ 245 = .ok (.getfield 111, 3) := by decide +kernel
theorem dX13_cut__248 : decode cX13_cut_ 248 = .ok (.bipush 7, 2) := by decide +kernel
theorem dX13_cut__250 : decode cX13_cut_ 250 = .ok (.iload 11, 2) := by decide +kernel
theorem dX13_cut__252 : decode cX13_cut_ 252 = .ok (.imul, 1) := by decide +kernel
theorem dX13_cut__253 : decode cX13_cut_ 253 = .ok (.iconst 1, 1) := by decide +kernel
theorem dX13_cut__254 : decode cX13_cut_ 254 = .ok (.iadd, 1) := by decide +kernel
theorem dX13_cut__255 : decode cX13_cut_ 255 = .ok (.laload, 1) := by decide +kernel
theorem dX13_cut__256 : decode cX13_cut_ 256 = .ok (.aload_n 0, 1) := by decide +kernel
theorem dX13_cut__257 : decode cX13_cut_ 257 = .ok (.getfield 108, 3) := by decide +kernel
theorem dX13_cut__260 : decode cX13_cut_ 260 = .ok (.bipush 7, 2) := by decide +kernel
theorem dX13_cut__262 : decode cX13_cut_ 262 = .ok (.iload 12, 2) := by decide +kernel
theorem dX13_cut__264 : decode cX13_cut_ 264 = .ok (.imul, 1) := by decide +kernel
theorem dX13_cut__265 : decode cX13_cut_ 265 = .ok (.iconst 1, 1) := by decide +kernel
theorem dX13_cut__266 : decode cX13_cut_ 266 = .ok (.iadd, 1) := by decide +kernel
theorem dX13_cut__267 : decode cX13_cut_ 267 = .ok (.laload, 1) := by decide +kernel
theorem dX13_cut__268 : decode cX13_cut_ 268 = .ok (.aload_n 0, 1) := by decide +kernel
theorem dX13_cut__269 : decode cX13_cut_ 269 = .ok (.getfield 111, 3) := by decide +kernel
theorem dX13_cut__272 : decode cX13_cut_ 272 = .ok (.bipush 7, 2) := by decide +kernel
theorem dX13_cut__274 : decode cX13_cut_ 274 = .ok (.iload 12, 2) := by decide +kernel
theorem dX13_cut__276 : decode cX13_cut_ 276 = .ok (.imul, 1) := by decide +kernel
theorem dX13_cut__277 : decode cX13_cut_ 277 = .ok (.iconst 1, 1) := by decide +kernel
theorem dX13_cut__278 : decode cX13_cut_ 278 = .ok (.iadd, 1) := by decide +kernel
theorem dX13_cut__279 : decode cX13_cut_ 279 = .ok (.laload, 1) := by decide +kernel
theorem dX13_cut__280 : decode cX13_cut_ 280 = .ok (.invokestatic 540, 3) := by decide +kernel
theorem dX13_cut__283 : decode cX13_cut_ 283 = .ok (.goto 5, 3) := by decide +kernel
theorem dX13_cut__286 : decode cX13_cut_ 286 = .ok (.iload 13, 2) := by decide +kernel
theorem dX13_cut__288 : decode cX13_cut_ 288 = .ok (.istore 13, 2) := by decide +kernel
theorem dX13_cut__290 : decode cX13_cut_ 290 = .ok (.iload 13, 2) := by decide +kernel
theorem dX13_cut__292 : decode cX13_cut_ 292 = .ok (.ifCond .gt 7, 3) := by decide +kernel
theorem dX13_cut__295 : decode cX13_cut_ 295 = .ok (.iconst 1, 1) := by decide +kernel
theorem dX13_cut__296 : decode cX13_cut_ 296 = .ok (.goto 4, 3) := by decide +kernel
theorem dX13_cut__299 : decode cX13_cut_ 299 = .ok (.iconst 0, 1) := by decide +kernel
theorem dX13_cut__300 : decode cX13_cut_ 300 = .ok (.lload_n 3, 1) := by decide +kernel
theorem dX13_cut__301 : decode cX13_cut_ 301 = .ok (.lconst 0, 1) := by decide +kernel
theorem dX13_cut__302 : decode cX13_cut_ 302 = .ok (.lcmp, 1) := by decide +kernel
theorem dX13_cut__303 : decode cX13_cut_ 303 = .ok (.ifCond .ne 7, 3) := by decide +kernel
theorem dX13_cut__306 : decode cX13_cut_ 306 = .ok (.iconst 1, 1) := by decide +kernel
theorem dX13_cut__307 : decode cX13_cut_ 307 = .ok (.goto 4, 3) := by decide +kernel
theorem dX13_cut__310 : decode cX13_cut_ 310 = .ok (.iconst 0, 1) := by decide +kernel
theorem dX13_cut__311 : decode cX13_cut_ 311 = .ok (.if_icmp .ne 8, 3) := by decide +kernel
theorem dX13_cut__314 : decode cX13_cut_ 314 = .ok (.iload 11, 2) := by decide +kernel
theorem dX13_cut__316 : decode cX13_cut_ 316 = .ok (.goto 5, 3) := by decide +kernel
theorem dX13_cut__319 : decode cX13_cut_ 319 = .ok (.iload 12, 2) := by decide +kernel
theorem dX13_cut__321 : decode cX13_cut_ 321 = .ok (.ireturn, 1) := by decide +kernel
theorem dX13_aside_0 : decode cX13_aside 0 = .ok (.aload_n 0, 1) := by decide +kernel
theorem dX13_aside_1 : decode cX13_aside 1 = .ok (.iconst 1, 1) := by decide +kernel
theorem dX13_aside_2 : decode cX13_aside 2 = .ok (.invokevirtual 469, 3) := by decide +kernel
theorem dX13_aside_5 : decode cX13_aside 5 = .ok (.istore 8, 2) := by decide +kernel
theorem dX13_aside_7 : decode cX13_aside 7 = .ok (.aload_n 0, 1) := by decide +kernel
theorem dX13_aside_8 : decode cX13_aside 8 = .ok (.iload_n 2, 1) := by decide +kernel
theorem dX13_aside_9 : decode cX13_aside 9 = .ok (.iconst 0, 1) := by decide +kernel
theorem dX13_aside_10 : decode cX13_aside 10 = .ok (.invokevirtual 460, 3) := by decide +kernel
theorem dX13_aside_13 : decode cX13_aside 13 = .ok (.aload_n 0, 1) := by decide +kernel
theorem dX13_aside_14 : decode cX13_aside 14 = .ok (.lload_n 3, 1) := by decide +kernel
theorem dX13_aside_15 : decode cX13_aside 15 = .ok (.lload 5, 2) := by decide +kernel
theorem dX13_aside_17 : decode cX13_aside 17 = .ok (.invokevirtual 440, 3) := by decide +kernel
theorem dX13_aside_20 : decode cX13_aside 20 = .ok (.aload_n 0, 1) := by decide +kernel
theorem dX13_aside_21 : decode cX13_aside 21 = .ok (.iload_n 1, 1) := by decide +kernel
theorem dX13_aside_22 : decode cX13_aside 22 = .ok (.iconst 1, 1) := by decide +kernel
theorem dX13_aside_23 : decode cX13_aside 23 = .ok (.invokevirtual 460, 3) := by decide +kernel
theorem dX13_aside_26 : decode cX13_aside 26 = .ok (.aload_n 0, 1) := by decide +kernel
theorem dX13_aside_27 : decode cX13_aside 27 = .ok (.invokevirtual 475, 3) := by decide +kernel
theorem dX13_aside_30 : decode cX13_aside 30 = .ok (.iload 7, 2) := by decide +kernel
theorem dX13_aside_32 : decode cX13_aside 32 = .ok (.ifCond .eq 10, 3) := by decide +kernel
theorem dX13_aside_35 : decode cX13_aside 35 = .ok (.aload_n 0, 1) := by decide +kernel
theorem dX13_aside_36 : decode cX13_aside 36 = .ok (.invokevirtual 478, 3) := by decide +kernel
theorem dX13_aside_39 : decode cX13_aside 39 = .ok (.goto 7, 3) := by decide +kernel
theorem dX13_aside_42 : decode cX13_aside 42 = .ok (.aload_n 0, 1) := by decide +kernel
theorem dX13_aside_43 : decode cX13_aside 43 = .ok (.invokevirtual 472, 3) := by decide +kernel
theorem dX13_aside_46 : decode cX13_aside 46 = .ok (.aload_n 0, 1) := by decide +kernel
theorem dX13_aside_47 : decode cX13_aside 47 = .ok (.iload 8, 2) := by decide +kernel
theorem dX13_aside_49 : decode cX13_aside 49 = .ok (.iconst 0, 1) := by decide +kernel
theorem dX13_aside_50 : decode cX13_aside 50 = .ok (.invokevirtual 466, 3) := by decide +kernel
theorem dX13_aside_53 : decode cX13_aside 53 = .ok (.aload_n 0, 1) := by decide +kernel
theorem dX13_aside_54 : decode cX13_aside 54 = .ok (.iload_n 2, 1) := by decide +kernel
theorem dX13_aside_55 : decode cX13_aside 55 = .ok (.iconst 1, 1) := by decide +kernel
theorem dX13_aside_56 : decode cX13_aside 56 = .ok (.invokevirtual 460, 3) := by decide +kernel
theorem dX13_aside_59 : decode cX13_aside 59 = .ok (.aload_n 0, 1) := by decide +kernel
theorem dX13_aside_60 : decode cX13_aside 60 = .ok (.lload_n 3, 1) := by decide +kernel
theorem dX13_aside_61 : decode cX13_aside 61 = .ok (.lload 5, 2) := by decide +kernel
theorem dX13_aside_63 : decode cX13_aside 63 = .ok (.invokevirtual 440, 3) := by decide +kernel
theorem dX13_aside_66 : decode cX13_aside 66 = .ok (.aload_n 0, 1) := by decide +kernel
theorem dX13_aside_67 : decode cX13_aside 67 = .ok (.iload_n 1, 1) := by decide +kernel
theorem dX13_aside_68 : decode cX13_aside 68 = .ok (.iconst 0, 1) := by decide +kernel
theorem dX13_aside_69 : decode cX13_aside 69 = .ok (.invokevirtual 460, 3) := by decide +kernel
theorem dX13_aside_72 : decode cX13_aside 72 = .ok (.aload_n 0, 1) := by decide +kernel
theorem dX13_aside_73 : decode cX13_aside 73 = .ok (.invokevirtual 475, 3) := by decide +kernel
theorem dX13_aside_76 : decode cX13_aside 76 = .ok (.iload 7, 2) := by decide +kernel
theorem dX13_aside_78 : decode cX13_aside 78 = .ok (.ifCond .eq 10, 3) := by decide +kernel
theorem dX13_aside_81 : decode cX13_aside 81 = .ok (.aload_n 0, 1) := by decide +kernel
theorem dX13_aside_82 : decode cX13_aside 82 = .ok (.invokevirtual 472, 3) := by decide +kernel
theorem dX13_aside_85 : decode cX13_aside 85 = .ok (.goto 7, 3) := by decide +kernel
theorem dX13_aside_88 : decode cX13_aside 88 = .ok (.aload_n 0, 1) := by decide +kernel
theorem dX13_aside_89 : decode cX13_aside 89 = .ok (.invokevirtual 478, 3) := by decide +kernel
theorem dX13_aside_92 : decode cX13_aside 92 = .ok (.aload_n 0, 1) := by decide +kernel
theorem dX13_aside_93 : decode cX13_aside 93 = .ok (.iload 8, 2) := by decide +kernel
theorem dX13_aside_95 : decode cX13_aside 95 = .ok (.iconst 1, 1) := by decide +kernel
theorem dX13_aside_96 : decode cX13_aside 96 = .ok (.invokevirtual 466, 3) := by decide +kernel
theorem dX13_aside_99 : decode cX13_aside 99 = .ok (.iload 8, 2) := by decide +kernel
theorem dX13_aside_101 : decode cX13_aside 101 = .ok (.ireturn, 1) := by decide +kernel
theorem dX13_clearRun_0 : decode cX13_clearRun 0 = .ok (.aload_n 0, 1) := by decide +kernel
theorem dX13_clearRun_1 : decode cX13_clearRun 1 = .ok (.iconst 0, 1) := by decide +kernel
theorem dX13_clearRun_2 : decode cX13_clearRun 2 = .ok (.putfield 457, 3) := by decide +kernel
theorem dX13_clearRun_5 : decode cX13_clearRun 5 = .ok (.aload_n 0, 1) := by decide +kernel
theorem dX13_clearRun_6 : decode cX13_clearRun 6 = .ok (.iconst 0, 1) := by decide +kernel
theorem dX13_clearRun_7 : decode cX13_clearRun 7 = .ok (.putfield 544, 3) := by decide +kernel
theorem dX13_clearRun_10 : decode cX13_clearRun 10 = .ok (.aload_n 0, 1) := by decide +kernel
theorem dX13_clearRun_11 : decode cX13_clearRun 11 = .ok (.iconst 0, 1) := by decide +kernel
theorem dX13_clearRun_12 : decode cX13_clearRun 12 = .ok (.putfield 547, 3) := by decide +kernel
theorem dX13_clearRun_15 : decode cX13_clearRun 15 = .ok (.aload_n 0, 1) := by decide +kernel
theorem dX13_clearRun_16 : decode cX13_clearRun 16 = .ok (.iconst 0, 1) := by decide +kernel
theorem dX13_clearRun_17 : decode cX13_clearRun 17 = .ok (.putfield 550, 3) := by decide +kernel
theorem dX13_clearRun_20 : decode cX13_clearRun 20 = .ok (.aload_n 0, 1) := by decide +kernel
theorem dX13_clearRun_21 : decode cX13_clearRun 21 = .ok (.iconst 0, 1) := by decide +kernel
theorem dX13_clearRun_22 : decode cX13_clearRun 22 = .ok (.putfield 553, 3) := by decide +kernel
theorem dX13_clearRun_25 : decode cX13_clearRun 25 = .ok (.aload_n 0, 1) := by decide +kernel
theorem dX13_clearRun_26 : decode cX13_clearRun 26 = .ok (.iconst 0, 1) := by decide +kernel
theorem dX13_clearRun_27 : decode cX13_clearRun 27 = .ok (.putfield 556, 3) := by decide +kernel
theorem dX13_clearRun_30 : decode cX13_clearRun 30 = .ok (.aload_n 0, 1) := by decide +kernel
theorem dX13_clearRun_31 : decode cX13_clearRun 31 = .ok (.iconst 0, 1) := by decide +kernel
theorem dX13_clearRun_32 : decode cX13_clearRun 32 = .ok (.putfield 559, 3) := by decide +kernel
theorem dX13_clearRun_35 : decode cX13_clearRun 35 = .ok (.aload_n 0, 1) := by decide +kernel
theorem dX13_clearRun_36 : decode cX13_clearRun 36 = .ok (.iconst 0, 1) := by decide +kernel
theorem dX13_clearRun_37 : decode cX13_clearRun 37 = .ok (.putfield 562, 3) := by decide +kernel
theorem dX13_clearRun_40 : decode cX13_clearRun 40 = .ok (.aload_n 0, 1) := by decide +kernel
theorem dX13_clearRun_41 : decode cX13_clearRun 41 = .ok (.iconst 0, 1) := by decide +kernel
theorem dX13_clearRun_42 : decode cX13_clearRun 42 = .ok (.putfield 565, 3) := by decide +kernel
theorem dX13_clearRun_45 : decode cX13_clearRun 45 = .ok (.aload_n 0, 1) := by decide +kernel
theorem dX13_clearRun_46 : decode cX13_clearRun 46 = .ok (.iconst 0, 1) := by decide +kernel
theorem dX13_clearRun_47 : decode cX13_clearRun 47 = .ok (.putfield 434, 3) := by decide +kernel
theorem dX13_clearRun_50 : decode cX13_clearRun 50 = .ok (.aload_n 0, 1) := by decide +kernel
theorem dX13_clearRun_51 : decode cX13_clearRun 51 = .ok (.iconst 0, 1) := by decide +kernel
theorem dX13_clearRun_52 : decode cX13_clearRun 52 = .ok (.putfield 437, 3) := by decide +kernel
theorem dX13_clearRun_55 : decode cX13_clearRun 55 = .ok (.iconst 0, 1) := by decide +kernel
theorem dX13_clearRun_56 : decode cX13_clearRun 56 = .ok (.istore_n 1, 1) := by decide +kernel
theorem dX13_clearRun_57 : decode cX13_clearRun 57 = .ok (.iload_n 1, 1) := by decide +kernel
theorem dX13_clearRun_58 : decode cX13_clearRun 58 = .ok (.bipush 20, 2) := by decide +kernel
theorem dX13_clearRun_60 : decode cX13_clearRun 60 = .ok (.if_icmp .ge 16, 3) := by decide +kernel
theorem dX13_clearRun_63 : decode cX13_clearRun 63 = .ok (.aload_n 0, 1) := by decide +kernel
theorem dX13_clearRun_64 : decode cX13_clearRun 64 = .ok (.getfield 147, 3) := by decide +kernel
theorem dX13_clearRun_67 : decode cX13_clearRun 67 = .ok (.iload_n 1, 1) := by decide +kernel
theorem dX13_clearRun_68 : decode cX13_clearRun 68 = .ok (.iconst (-1), 1) := by decide +kernel
theorem dX13_clearRun_69 : decode cX13_clearRun 69 = .ok (.iastore, 1) := by decide +kernel
theorem dX13_clearRun_70 : decode cX13_clearRun 70 = .ok (.iinc 1 1, 3) := by decide +kernel
theorem dX13_clearRun_73 : decode cX13_clearRun 73 = .ok (.goto (-16), 3) := by decide +kernel
theorem dX13_clearRun_76 : decode cX13_clearRun 76 = .ok (.return_, 1) := by decide +kernel
theorem dX13_runOnce_0 : decode cX13_runOnce 0 = .ok (.aload_n 0, 1) := by decide +kernel
theorem dX13_runOnce_1 : decode cX13_runOnce 1 = .ok (.invokevirtual 329, 3) := by decide +kernel
theorem dX13_runOnce_4 : decode cX13_runOnce 4 = .ok (.aload_n 0, 1) := by decide +kernel
theorem dX13_runOnce_5 : decode cX13_runOnce 5 = .ok (.dup, 1) := by decide +kernel
theorem dX13_runOnce_6 : decode cX13_runOnce 6 = .ok (.getfield 568, 3) := by decide +kernel
theorem dX13_runOnce_9 : decode cX13_runOnce 9 = .ok (.iconst 1, 1) := by decide +kernel
theorem dX13_runOnce_10 : decode cX13_runOnce 10 = .ok (.iadd, 1) := by decide +kernel
theorem dX13_runOnce_11 : decode cX13_runOnce 11 = .ok (.putfield 568, 3) := by decide +kernel
theorem dX13_runOnce_14 : decode cX13_runOnce 14 = .ok (.aload_n 0, 1) := by decide +kernel
theorem dX13_runOnce_15 : decode cX13_runOnce 15 = .ok (.iconst 1, 1) := by decide +kernel
theorem dX13_runOnce_16 : decode cX13_runOnce 16 = .ok (.putfield 332, 3) := by decide +kernel
theorem dX13_runOnce_19 : decode cX13_runOnce 19 = .ok (.aload_n 0, 1) := by decide +kernel
theorem dX13_runOnce_20 : decode cX13_runOnce 20 = .ok (.invokevirtual 571, 3) := by decide +kernel
theorem dX13_runOnce_23 : decode cX13_runOnce 23 = .ok (.return_, 1) := by decide +kernel
theorem dX13_step_0 : decode cX13_step 0 = .ok (.aload_n 0, 1) := by decide +kernel
theorem dX13_step_1 : decode cX13_step 1 = .ok (.getfield 547, 3) := by decide +kernel
theorem dX13_step_4 : decode cX13_step 4 = .ok (.sipush 400, 3) := by decide +kernel
theorem dX13_step_7 : decode cX13_step 7 = .ok (.if_icmp .ne 11, 3) := by decide +kernel
theorem dX13_step_10 : decode cX13_step 10 = .ok (.aload_n 0, 1) := by decide +kernel
theorem dX13_step_11 : decode cX13_step 11 = .ok (.iconst 1, 1) := by decide +kernel
theorem dX13_step_12 : decode cX13_step 12 = .ok (.putfield 550, 3) := by decide +kernel
theorem dX13_step_15 : decode cX13_step 15 = .ok (.goto 20, 3) := by decide +kernel
theorem dX13_step_18 : decode cX13_step 18 = .ok (.aload_n 0, 1) := by decide +kernel
theorem dX13_step_19 : decode cX13_step 19 = .ok (.getfield 550, 3) := by decide +kernel
theorem dX13_step_22 : decode cX13_step 22 = .ok (.ifCond .ne 13, 3) := by decide +kernel
theorem dX13_step_25 : decode cX13_step 25 = .ok (.aload_n 0, 1) := by decide +kernel
theorem dX13_step_26 : decode cX13_step 26 = .ok (.dup, 1) := by decide +kernel
theorem dX13_step_27 : decode cX13_step 27 = .ok (.getfield 547, 3) := by decide +kernel
theorem dX13_step_30 : decode cX13_step 30 = .ok (.iconst 1, 1) := by decide +kernel
theorem dX13_step_31 : decode cX13_step 31 = .ok (.iadd, 1) := by decide +kernel
theorem dX13_step_32 : decode cX13_step 32 = .ok (.putfield 547, 3) := by decide +kernel
theorem dX13_step_35 : decode cX13_step 35 = .ok (.aload_n 0, 1) := by decide +kernel
theorem dX13_step_36 : decode cX13_step 36 = .ok (.getfield 550, 3) := by decide +kernel
theorem dX13_step_39 : decode cX13_step 39 = .ok (.ifCond .ne 7, 3) := by decide +kernel
theorem dX13_step_42 : decode cX13_step 42 = .ok (.iconst 1, 1) := by decide +kernel
theorem dX13_step_43 : decode cX13_step 43 = .ok (.goto 4, 3) := by decide +kernel
theorem dX13_step_46 : decode cX13_step 46 = .ok (.iconst 0, 1) := by decide +kernel
theorem dX13_step_47 : decode cX13_step 47 = .ok (.ireturn, 1) := by decide +kernel
theorem dX13_note_0 : decode cX13_note 0 = .ok (.aload_n 0, 1) := by decide +kernel
theorem dX13_note_1 : decode cX13_note 1 = .ok (.getfield 135, 3) := by decide +kernel
theorem dX13_note_4 : decode cX13_note 4 = .ok (.aload_n 0, 1) := by decide +kernel
theorem dX13_note_5 : decode cX13_note 5 = .ok (.getfield 556, 3) := by decide +kernel
theorem dX13_note_8 : decode cX13_note 8 = .ok (.iload_n 1, 1) := by decide +kernel
theorem dX13_note_9 : decode cX13_note 9 = .ok (.iastore, 1) := by decide +kernel
theorem dX13_note_10 : decode cX13_note 10 = .ok (.aload_n 0, 1) := by decide +kernel
theorem dX13_note_11 : decode cX13_note 11 = .ok (.getfield 138, 3) := by decide +kernel
theorem dX13_note_14 : decode cX13_note 14 = .ok (.aload_n 0, 1) := by decide +kernel
theorem dX13_note_15 : decode cX13_note 15 = .ok (.getfield 556, 3) := by decide +kernel
theorem dX13_note_18 : decode cX13_note 18 = .ok (.iload_n 2, 1) := by decide +kernel
theorem dX13_note_19 : decode cX13_note 19 = .ok (.iastore, 1) := by decide +kernel
theorem dX13_note_20 : decode cX13_note 20 = .ok (.aload_n 0, 1) := by decide +kernel
theorem dX13_note_21 : decode cX13_note 21 = .ok (.dup, 1) := by decide +kernel
theorem dX13_note_22 : decode cX13_note 22 = .ok (.getfield 556, 3) := by decide +kernel
theorem dX13_note_25 : decode cX13_note 25 = .ok (.iconst 1, 1) := by decide +kernel
theorem dX13_note_26 : decode cX13_note 26 = .ok (.iadd, 1) := by decide +kernel
theorem dX13_note_27 : decode cX13_note 27 = .ok (.putfield 556, 3) := by decide +kernel
theorem dX13_note_30 : decode cX13_note 30 = .ok (.aload_n 0, 1) := by decide +kernel
theorem dX13_note_31 : decode cX13_note 31 = .ok (.iconst 0, 1) := by decide +kernel
theorem dX13_note_32 : decode cX13_note 32 = .ok (.putfield 434, 3) := by decide +kernel
theorem dX13_note_35 : decode cX13_note 35 = .ok (.aload_n 0, 1) := by decide +kernel
theorem dX13_note_36 : decode cX13_note 36 = .ok (.iconst 0, 1) := by decide +kernel
theorem dX13_note_37 : decode cX13_note 37 = .ok (.putfield 437, 3) := by decide +kernel
theorem dX13_note_40 : decode cX13_note 40 = .ok (.aload_n 0, 1) := by decide +kernel
theorem dX13_note_41 : decode cX13_note 41 = .ok (.aload_n 0, 1) := by decide +kernel
theorem dX13_note_42 : decode cX13_note 42 = .ok (.getfield 550, 3) := by decide +kernel
theorem dX13_note_45 : decode cX13_note 45 = .ok (.ifCond .ne 12, 3) := by decide +kernel
theorem dX13_note_48 : decode cX13_note 48 = .ok (.aload_n 0, 1) := by decide +kernel
theorem dX13_note_49 : decode cX13_note 49 = .ok (.getfield 556, 3) := by decide +kernel
theorem dX13_note_52 : decode cX13_note 52 = .ok (.bipush 12, 2) := by decide +kernel
theorem dX13_note_54 : decode cX13_note 54 = .ok (.if_icmp .ne 7, 3) := by decide +kernel
theorem dX13_note_57 : decode cX13_note 57 = .ok (.iconst 1, 1) := by decide +kernel
theorem dX13_note_58 : decode cX13_note 58 = .ok (.goto 4, 3) := by decide +kernel
theorem dX13_note_61 : decode cX13_note 61 = .ok (.iconst 0, 1) := by decide +kernel
theorem dX13_note_62 : decode cX13_note 62 = .ok (.putfield 550, 3) := by decide +kernel
theorem dX13_note_65 : decode cX13_note 65 = .ok (.return_, 1) := by decide +kernel
theorem dX13_number_0 : decode cX13_number 0 = .ok (.aload_n 0, 1) := by decide +kernel
theorem dX13_number_1 : decode cX13_number 1 = .ok (.iconst 0, 1) := by decide +kernel
theorem dX13_number_2 : decode cX13_number 2 = .ok (.invokevirtual 469, 3) := by decide +kernel
theorem dX13_number_5 : decode cX13_number 5 = .ok (.istore 6, 2) := by decide +kernel
theorem dX13_number_7 : decode cX13_number 7 = .ok (.aload_n 0, 1) := by decide +kernel
theorem dX13_number_8 : decode cX13_number 8 = .ok (.getfield 108, 3) := by decide +kernel
theorem dX13_number_11 : decode cX13_number 11 = .ok (.bipush 7, 2) := by decide +kernel
theorem dX13_number_13 : decode cX13_number 13 = .ok (.iload 6, 2) := by decide +kernel
theorem dX13_number_15 : decode cX13_number 15 = .ok (.imul, 1) := by decide +kernel
theorem dX13_number_16 : decode cX13_number 16 = .ok (.lload_n 1, 1) := by decide +kernel
theorem dX13_number_17 : decode cX13_number 17 = .ok (.lastore, 1) := by decide +kernel
theorem dX13_number_18 : decode cX13_number 18 = .ok (.aload_n 0, 1) := by decide +kernel
theorem dX13_number_19 : decode cX13_number 19 = .ok (.getfield 111, 3) := by decide +kernel
theorem dX13_number_22 : decode cX13_number 22 = .ok (.bipush 7, 2) := by decide +kernel
theorem dX13_number_24 : decode cX13_number 24 = .ok (.iload 6, 2) := by decide +kernel
theorem dX13_number_26 : decode cX13_number 26 = .ok (.imul, 1) := by decide +kernel
theorem dX13_number_27 : decode cX13_number 27 = .ok (.lload_n 3, 1) := by decide +kernel
theorem dX13_number_28 : decode cX13_number 28 = .ok (.lastore, 1) := by decide +kernel
theorem dX13_number_29 : decode cX13_number 29 = .ok (.aload_n 0, 1) := by decide +kernel
theorem dX13_number_30 : decode cX13_number 30 = .ok (.getfield 102, 3) := by decide +kernel
theorem dX13_number_33 : decode cX13_number 33 = .ok (.iload 6, 2) := by decide +kernel
theorem dX13_number_35 : decode cX13_number 35 = .ok (.iload 5, 2) := by decide +kernel
theorem dX13_number_37 : decode cX13_number 37 = .ok (.iastore, 1) := by decide +kernel
theorem dX13_number_38 : decode cX13_number 38 = .ok (.iload 6, 2) := by decide +kernel
theorem dX13_number_40 : decode cX13_number 40 = .ok (.ireturn, 1) := by decide +kernel
theorem dX13_isWhole_0 : decode cX13_isWhole 0 = .ok (.aload_n 0, 1) := by decide +kernel
theorem dX13_isWhole_1 : decode cX13_isWhole 1 = .ok (.getfield 99, 3) := by decide +kernel
theorem dX13_isWhole_4 : decode cX13_isWhole 4 = .ok (.iload_n 1, 1) := by decide +kernel
theorem dX13_isWhole_5 : decode cX13_isWhole 5 = .ok (.iaload, 1) := by decide +kernel
theorem dX13_isWhole_6 : decode cX13_isWhole 6 = .ok (.ifCond .ne 21, 3) := by decide +kernel
theorem dX13_isWhole_9 : decode cX13_isWhole 9 = .ok (.aload_n 0, 1) := by decide +kernel
theorem dX13_isWhole_10 : decode cX13_isWhole 10 = .ok (.getfield 111, 3) := by decide +kernel
theorem dX13_isWhole_13 : decode cX13_isWhole 13 = .ok (.bipush 7, 2) := by decide +kernel
theorem dX13_isWhole_15 : decode cX13_isWhole 15 = .ok (.iload_n 1, 1) := by decide +kernel
theorem dX13_isWhole_16 : decode cX13_isWhole 16 = .ok (.imul, 1) := by decide +kernel
theorem dX13_isWhole_17 : decode cX13_isWhole 17 = .ok (.laload, 1) := by decide +kernel
theorem dX13_isWhole_18 : decode cX13_isWhole 18 = .ok (.lconst 1, 1) := by decide +kernel
theorem dX13_isWhole_19 : decode cX13_isWhole 19 = .ok (.lcmp, 1) := by decide +kernel
theorem dX13_isWhole_20 : decode cX13_isWhole 20 = .ok (.ifCond .ne 7, 3) := by decide +kernel
theorem dX13_isWhole_23 : decode cX13_isWhole 23 = .ok (.iconst 1, 1) := by decide +kernel
theorem dX13_isWhole_24 : decode cX13_isWhole 24 = .ok (.goto 4, 3) := by decide +kernel
theorem dX13_isWhole_27 : decode cX13_isWhole 27 = .ok (.iconst 0, 1) := by decide +kernel
theorem dX13_isWhole_28 : decode cX13_isWhole 28 = .ok (.ireturn, 1) := by decide +kernel
theorem dX13_later_0 : decode cX13_later 0 = .ok (.aload_n 0, 1) := by decide +kernel
theorem dX13_later_1 : decode cX13_later 1 = .ok (.getfield 150, 3) := by decide +kernel
theorem dX13_later_4 : decode cX13_later 4 = .ok (.aload_n 0, 1) := by decide +kernel
theorem dX13_later_5 : decode cX13_later 5 = .ok (.getfield 574, 3) := by decide +kernel
theorem dX13_later_8 : decode cX13_later 8 = .ok (.iload_n 1, 1) := by decide +kernel
theorem dX13_later_9 : decode cX13_later 9 = .ok (.iastore, 1) := by decide +kernel
theorem dX13_later_10 : decode cX13_later 10 = .ok (.aload_n 0, 1) := by decide +kernel
theorem dX13_later_11 : decode cX13_later 11 = .ok (.getfield 153, 3) := by decide +kernel
theorem dX13_later_14 : decode cX13_later 14 = .ok (.aload_n 0, 1) := by decide +kernel
theorem dX13_later_15 : decode cX13_later 15 = .ok (.getfield 574, 3) := by decide +kernel
theorem dX13_later_18 : decode cX13_later 18 = .ok (.iload_n 2, 1) := by decide +kernel
theorem dX13_later_19 : decode cX13_later 19 = .ok (.iastore, 1) := by decide +kernel
theorem dX13_later_20 : decode cX13_later 20 = .ok (.aload_n 0, 1) := by decide +kernel
theorem dX13_later_21 : decode cX13_later 21 = .ok (.getfield 156, 3) := by decide +kernel
theorem dX13_later_24 : decode cX13_later 24 = .ok (.aload_n 0, 1) := by decide +kernel
theorem dX13_later_25 : decode cX13_later 25 = .ok (.getfield 574, 3) := by decide +kernel
theorem dX13_later_28 : decode cX13_later 28 = .ok (.lload_n 3, 1) := by decide +kernel
theorem dX13_later_29 : decode cX13_later 29 = .ok (.lastore, 1) := by decide +kernel
theorem dX13_later_30 : decode cX13_later 30 = .ok (.aload_n 0, 1) := by decide +kernel
theorem dX13_later_31 : decode cX13_later 31 = .ok (.dup, 1) := by decide +kernel
theorem dX13_later_32 : decode cX13_later 32 = .ok (.getfield 574, 3) := by decide +kernel
theorem dX13_later_35 : decode cX13_later 35 = .ok (.iconst 1, 1) := by decide +kernel
theorem dX13_later_36 : decode cX13_later 36 = .ok (.iadd, 1) := by decide +kernel
theorem dX13_later_37 : decode cX13_later 37 = .ok (.putfield 574, 3) := by decide +kernel
theorem dX13_later_40 : decode cX13_later 40 = .ok (.return_, 1) := by decide +kernel
theorem dX13_comes_0 : decode cX13_comes 0 = .ok (.aload_n 0, 1) := by decide +kernel
theorem dX13_comes_1 : decode cX13_comes 1 = .ok (.getfield 159, 3) := by decide +kernel
theorem dX13_comes_4 : decode cX13_comes 4 = .ok (.aload_n 0, 1) := by decide +kernel
theorem dX13_comes_5 : decode cX13_comes 5 = .ok (.getfield 577, 3) := by decide +kernel
theorem dX13_comes_8 : decode cX13_comes 8 = .ok (.iload_n 1, 1) := by decide +kernel
theorem dX13_comes_9 : decode cX13_comes 9 = .ok (.iastore, 1) := by decide +kernel
theorem dX13_comes_10 : decode cX13_comes 10 = .ok (.aload_n 0, 1) := by decide +kernel
theorem dX13_comes_11 : decode cX13_comes 11 = .ok (.dup, 1) := by decide +kernel
theorem dX13_comes_12 : decode cX13_comes 12 = .ok (.getfield 577, 3) := by decide +kernel
theorem dX13_comes_15 : decode cX13_comes 15 = .ok (.iconst 1, 1) := by decide +kernel
theorem dX13_comes_16 : decode cX13_comes 16 = .ok (.iadd, 1) := by decide +kernel
theorem dX13_comes_17 : decode cX13_comes 17 = .ok (.putfield 577, 3) := by decide +kernel
theorem dX13_comes_20 : decode cX13_comes 20 = .ok (.return_, 1) := by decide +kernel
theorem dX13_taken_0 : decode cX13_taken 0 = .ok (.aload_n 0, 1) := by decide +kernel
theorem dX13_taken_1 : decode cX13_taken 1 = .ok (.dup, 1) := by decide +kernel
theorem dX13_taken_2 : decode cX13_taken 2 = .ok (.getfield 577, 3) := by decide +kernel
theorem dX13_taken_5 : decode cX13_taken 5 = .ok (.iconst 1, 1) := by decide +kernel
theorem dX13_taken_6 : decode cX13_taken 6 = .ok (.isub, 1) := by decide +kernel
theorem dX13_taken_7 : decode cX13_taken 7 = .ok (.putfield 577, 3) := by decide +kernel
theorem dX13_taken_10 : decode cX13_taken 10 = .ok (.aload_n 0, 1) := by decide +kernel
theorem dX13_taken_11 : decode cX13_taken 11 = .ok (.getfield 159, 3) := by decide +kernel
theorem dX13_taken_14 : decode cX13_taken 14 = .ok (.aload_n 0, 1) := by decide +kernel
theorem dX13_taken_15 : decode cX13_taken 15 = .ok (.getfield 577, 3) := by decide +kernel
theorem dX13_taken_18 : decode cX13_taken 18 = .ok (.iaload, 1) := by decide +kernel
theorem dX13_taken_19 : decode cX13_taken 19 = .ok (.ireturn, 1) := by decide +kernel
theorem dX13_runAll_0 : decode cX13_runAll 0 = .ok (.aload_n 0, 1) := by decide +kernel
theorem dX13_runAll_1 : decode cX13_runAll 1 = .ok (.iconst 0, 1) := by decide +kernel
theorem dX13_runAll_2 : decode cX13_runAll 2 = .ok (.putfield 574, 3) := by decide +kernel
theorem dX13_runAll_5 : decode cX13_runAll 5 = .ok (.aload_n 0, 1) := by decide +kernel
theorem dX13_runAll_6 : decode cX13_runAll 6 = .ok (.iconst 0, 1) := by decide +kernel
theorem dX13_runAll_7 : decode cX13_runAll 7 = .ok (.putfield 577, 3) := by decide +kernel
theorem dX13_runAll_10 : decode cX13_runAll 10 = .ok (.aload_n 0, 1) := by decide +kernel
theorem dX13_runAll_11 : decode cX13_runAll 11 = .ok (.iconst (-1), 1) := by decide +kernel
theorem dX13_runAll_12 : decode cX13_runAll 12 = .ok (.putfield 580, 3) := by decide +kernel
theorem dX13_runAll_15 : decode cX13_runAll 15 = .ok (.aload_n 0, 1) := by decide +kernel
theorem dX13_runAll_16 : decode cX13_runAll 16 = .ok (.iconst 0, 1) := by decide +kernel
theorem dX13_runAll_17 : decode cX13_runAll 17 = .ok (.aload_n 0, 1) := by decide +kernel
theorem dX13_runAll_18 : decode cX13_runAll 18 = .ok (.getfield 322, 3) := by decide +kernel
theorem dX13_runAll_21 : decode cX13_runAll 21 = .ok (.lconst 0, 1) := by decide +kernel
theorem dX13_runAll_22 : decode cX13_runAll 22 = .ok (.invokevirtual 583, 3) := by decide +kernel
theorem dX13_runAll_25 : decode cX13_runAll 25 = .ok (.aload_n 0, 1) := by decide +kernel
theorem dX13_runAll_26 : decode cX13_runAll 26 = .ok (.getfield 574, 3) := by decide +kernel
theorem dX13_runAll_29 : decode cX13_runAll 29 = .ok (.ifCond .le 194, 3) := by decide +kernel
theorem dX13_runAll_32 : decode cX13_runAll 32 = .ok (.aload_n 0, 1) := by decide +kernel
theorem dX13_runAll_33 : decode cX13_runAll 33 = .ok (.getfield 550, 3) := by decide +kernel
theorem dX13_runAll_36 : decode cX13_runAll 36 = .ok (.ifCond .ne 187, 3) := by decide +kernel
theorem dX13_runAll_39 : decode cX13_runAll 39 = .ok (.aload_n 0, 1) := by decide +kernel
theorem dX13_runAll_40 : decode cX13_runAll 40 = .ok (.dup, 1) := by decide +kernel
theorem dX13_runAll_41 : decode cX13_runAll 41 = .ok (.getfield 574, 3) := by decide +kernel
theorem dX13_runAll_44 : decode cX13_runAll 44 = .ok (.iconst 1, 1) := by decide +kernel
theorem dX13_runAll_45 : decode cX13_runAll 45 = .ok (.isub, 1) := by decide +kernel
theorem dX13_runAll_46 : decode cX13_runAll 46 = .ok (.putfield 574, 3) := by decide +kernel
theorem dX13_runAll_49 : decode cX13_runAll 49 = .ok (.aload_n 0, 1) := by decide +kernel
theorem dX13_runAll_50 : decode cX13_runAll 50 = .ok (.getfield 153, 3) := by decide +kernel
theorem dX13_runAll_53 : decode cX13_runAll 53 = .ok (.aload_n 0, 1) := by decide +kernel
theorem dX13_runAll_54 : decode cX13_runAll 54 = .ok (.getfield 574, 3) := by decide +kernel
theorem dX13_runAll_57 : decode cX13_runAll 57 = .ok (.iaload, 1) := by decide +kernel
theorem dX13_runAll_58 : decode cX13_runAll 58 = .ok (.istore_n 1, 1) := by decide +kernel
theorem dX13_runAll_59 : decode cX13_runAll 59 = .ok (.aload_n 0, 1) := by decide +kernel
theorem dX13_runAll_60 : decode cX13_runAll 60 = .ok (.getfield 150, 3) := by decide +kernel
theorem dX13_runAll_63 : decode cX13_runAll 63 = .ok (.aload_n 0, 1) := by decide +kernel
theorem dX13_runAll_64 : decode cX13_runAll 64 = .ok (.getfield 574, 3) := by decide +kernel
theorem dX13_runAll_67 : decode cX13_runAll 67 = .ok (.iaload, 1) := by decide +kernel
theorem dX13_runAll_68 : decode cX13_runAll 68 = .ok (.tableswitch 129 0 4 #[36, 67, 82, 90, 112], 36) := by decide +kernel
theorem dX13_runAll_104 : decode cX13_runAll 104 = .ok (.iload_n 1, 1) := by decide +kernel
theorem dX13_runAll_105 : decode cX13_runAll 105 = .ok (.ifCond .lt 115, 3) := by decide +kernel
theorem dX13_runAll_108 : decode cX13_runAll 108 = .ok (.aload_n 0, 1) := by decide +kernel
theorem dX13_runAll_109 : decode cX13_runAll 109 = .ok (.iconst 0, 1) := by decide +kernel
theorem dX13_runAll_110 : decode cX13_runAll 110 = .ok (.aload_n 0, 1) := by decide +kernel
theorem dX13_runAll_111 : decode cX13_runAll 111 = .ok (.getfield 39, 3) := by decide +kernel
theorem dX13_runAll_114 : decode cX13_runAll 114 = .ok (.iload_n 1, 1) := by decide +kernel
theorem dX13_runAll_115 : decode cX13_runAll 115 = .ok (.iaload, 1) := by decide +kernel
theorem dX13_runAll_116 : decode cX13_runAll 116 = .ok (.lconst 0, 1) := by decide +kernel
theorem dX13_runAll_117 : decode cX13_runAll 117 = .ok (.invokevirtual 583, 3) := by decide +kernel
theorem dX13_runAll_120 : decode cX13_runAll 120 = .ok (.aload_n 0, 1) := by decide +kernel
theorem dX13_runAll_121 : decode cX13_runAll 121 = .ok (.invokevirtual 587, 3) := by decide +kernel
theorem dX13_runAll_124 : decode cX13_runAll 124 = .ok (.ifCond .eq 96, 3) := by decide +kernel
theorem dX13_runAll_127 : decode cX13_runAll 127 = .ok (.aload_n 0, 1) := by decide +kernel
theorem dX13_runAll_128 : decode cX13_runAll 128 = .ok (.iload_n 1, 1) := by decide +kernel
theorem dX13_runAll_129 : decode cX13_runAll 129 = .ok (.invokevirtual 590, 3) := by decide +kernel
theorem dX13_runAll_132 : decode cX13_runAll 132 = .ok (.goto 88, 3) := by decide +kernel
theorem dX13_runAll_135 : decode cX13_runAll 135 = .ok (.aload_n 0, 1) := by decide +kernel
theorem dX13_runAll_136 : decode cX13_runAll 136 = .ok (.invokevirtual 587, 3) := by decide +kernel
theorem dX13_runAll_139 : decode cX13_runAll 139 = .ok (.ifCond .eq 81, 3) := by decide +kernel
theorem dX13_runAll_142 : decode cX13_runAll 142 = .ok (.aload_n 0, 1) := by decide +kernel
theorem dX13_runAll_143 : decode cX13_runAll 143 = .ok (.iload_n 1, 1) := by decide +kernel
theorem dX13_runAll_144 : decode cX13_runAll 144 = .ok (.invokevirtual 593, 3) := by decide +kernel
theorem dX13_runAll_147 : decode cX13_runAll 147 = .ok (.goto 73, 3) := by decide +kernel
theorem dX13_runAll_150 : decode cX13_runAll 150 = .ok (.aload_n 0, 1) := by decide +kernel
theorem dX13_runAll_151 : decode cX13_runAll 151 = .ok (.iload_n 1, 1) := by decide +kernel
theorem dX13_runAll_152 : decode cX13_runAll 152 = .ok (.invokevirtual 596, 3) := by decide +kernel
theorem dX13_runAll_155 : decode cX13_runAll 155 = .ok (.goto 65, 3) := by decide +kernel
theorem dX13_runAll_158 : decode cX13_runAll 158 = .ok (.aload_n 0, 1) := by decide +kernel
theorem dX13_runAll_159 : decode cX13_runAll 159 = .ok (.aload_n 0, 1) := by decide +kernel
theorem dX13_runAll_160 : decode cX13_runAll 160 = .ok (.getfield 156, 3) := by decide +kernel
theorem dX13_runAll_163 : decode cX13_runAll 163 = .ok (.aload_n 0, 1) := by decide +kernel
theorem dX13_runAll_164 : decode cX13_runAll 164 = .ok (.getfield 574, 3) := by decide +kernel
theorem dX13_runAll_167 : decode cX13_runAll 167 = .ok (.laload, 1) := by decide +kernel
theorem dX13_runAll_168 : decode cX13_runAll 168 = .ok (.l2i, 1) := by decide +kernel
theorem dX13_runAll_169 : decode cX13_runAll 169 = .ok (.putfield 577, 3) := by decide +kernel
theorem dX13_runAll_172 : decode cX13_runAll 172 = .ok (.aload_n 0, 1) := by decide +kernel
theorem dX13_runAll_173 : decode cX13_runAll 173 = .ok (.iload_n 1, 1) := by decide +kernel
theorem dX13_runAll_174 : decode cX13_runAll 174 = .ok (.invokevirtual 599, 3) := by decide +kernel
theorem dX13_runAll_177 : decode cX13_runAll 177 = .ok (.goto 43, 3) := by decide +kernel
theorem dX13_runAll_180 : decode cX13_runAll 180 = .ok (.aload_n 0, 1) := by decide +kernel
theorem dX13_runAll_181 : decode cX13_runAll 181 = .ok (.iload_n 1, 1) := by decide +kernel
theorem dX13_runAll_182 : decode cX13_runAll 182 = .ok (.aload_n 0, 1) := by decide +kernel
theorem dX13_runAll_183 : decode cX13_runAll 183 = .ok (.getfield 156, 3) := by decide +kernel
theorem dX13_runAll_186 : decode cX13_runAll 186 = .ok (.aload_n 0, 1) := by decide +kernel
theorem dX13_runAll_187 : decode cX13_runAll 187 = .ok (.getfield 574, 3) := by decide +kernel
theorem dX13_runAll_190 : decode cX13_runAll 190 = .ok (.laload, 1) := by decide +kernel
theorem dX13_runAll_191 : decode cX13_runAll 191 = .ok (.invokevirtual 602, 3) := by decide +kernel
theorem dX13_runAll_194 : decode cX13_runAll 194 = .ok (.goto 26, 3) := by decide +kernel
theorem dX13_runAll_197 : decode cX13_runAll 197 = .ok (.aload_n 0, 1) := by decide +kernel
theorem dX13_runAll_198 : decode cX13_runAll 198 = .ok (.dup, 1) := by decide +kernel
theorem dX13_runAll_199 : decode cX13_runAll 199 = .ok (.getfield 565, 3) := by decide +kernel
theorem dX13_runAll_202 : decode cX13_runAll 202 = .ok (.iconst 1, 1) := by decide +kernel
theorem dX13_runAll_203 : decode cX13_runAll 203 = .ok (.isub, 1) := by decide +kernel
theorem dX13_runAll_204 : decode cX13_runAll 204 = .ok (.putfield 565, 3) := by decide +kernel
theorem dX13_runAll_207 : decode cX13_runAll 207 = .ok (.aload_n 0, 1) := by decide +kernel
theorem dX13_runAll_208 : decode cX13_runAll 208 = .ok (.aload_n 0, 1) := by decide +kernel
theorem dX13_runAll_209 : decode cX13_runAll 209 = .ok (.getfield 580, 3) := by decide +kernel
theorem dX13_runAll_212 : decode cX13_runAll 212 = .ok (.invokevirtual 606, 3) := by decide +kernel
theorem dX13_runAll_215 : decode cX13_runAll 215 = .ok (.aload_n 0, 1) := by decide +kernel
theorem dX13_runAll_216 : decode cX13_runAll 216 = .ok (.iconst (-1), 1) := by decide +kernel
theorem dX13_runAll_217 : decode cX13_runAll 217 = .ok (.putfield 580, 3) := by decide +kernel
theorem dX13_runAll_220 : decode cX13_runAll 220 = .ok (.goto (-195), 3) := by decide +kernel
theorem dX13_runAll_223 : decode cX13_runAll 223 = .ok (.return_, 1) := by decide +kernel
theorem dX13_fails_0 : decode cX13_fails 0 = .ok (.aload_n 0, 1) := by decide +kernel
theorem dX13_fails_1 : decode cX13_fails 1 = .ok (.getfield 150, 3) := by decide +kernel
theorem dX13_fails_4 : decode cX13_fails 4 = .ok (.aload_n 0, 1) := by decide +kernel
theorem dX13_fails_5 : decode cX13_fails 5 = .ok (.getfield 574, 3) := by decide +kernel
theorem dX13_fails_8 : decode cX13_fails 8 = .ok (.iconst 1, 1) := by decide +kernel
theorem dX13_fails_9 : decode cX13_fails 9 = .ok (.isub, 1) := by decide +kernel
theorem dX13_fails_10 : decode cX13_fails 10 = .ok (.iaload, 1) := by decide +kernel
theorem dX13_fails_11 : decode cX13_fails 11 = .ok (.iconst 3, 1) := by decide +kernel
theorem dX13_fails_12 : decode cX13_fails 12 = .ok (.if_icmp .eq 16, 3) := by decide +kernel
theorem dX13_fails_15 : decode cX13_fails 15 = .ok (.aload_n 0, 1) := by decide +kernel
theorem dX13_fails_16 : decode cX13_fails 16 = .ok (.dup, 1) := by decide +kernel
theorem dX13_fails_17 : decode cX13_fails 17 = .ok (.getfield 574, 3) := by decide +kernel
theorem dX13_fails_20 : decode cX13_fails 20 = .ok (.iconst 1, 1) := by decide +kernel
theorem dX13_fails_21 : decode cX13_fails 21 = .ok (.isub, 1) := by decide +kernel
theorem dX13_fails_22 : decode cX13_fails 22 = .ok (.putfield 574, 3) := by decide +kernel
theorem dX13_fails_25 : decode cX13_fails 25 = .ok (.goto (-25), 3) := by decide +kernel
theorem dX13_fails_28 : decode cX13_fails 28 = .ok (.aload_n 0, 1) := by decide +kernel
theorem dX13_fails_29 : decode cX13_fails 29 = .ok (.dup, 1) := by decide +kernel
theorem dX13_fails_30 : decode cX13_fails 30 = .ok (.getfield 574, 3) := by decide +kernel
theorem dX13_fails_33 : decode cX13_fails 33 = .ok (.iconst 1, 1) := by decide +kernel
theorem dX13_fails_34 : decode cX13_fails 34 = .ok (.isub, 1) := by decide +kernel
theorem dX13_fails_35 : decode cX13_fails 35 = .ok (.putfield 574, 3) := by decide +kernel
theorem dX13_fails_38 : decode cX13_fails 38 = .ok (.aload_n 0, 1) := by decide +kernel
theorem dX13_fails_39 : decode cX13_fails 39 = .ok (.aload_n 0, 1) := by decide +kernel
theorem dX13_fails_40 : decode cX13_fails 40 = .ok (.getfield 156, 3) := by decide +kernel
theorem dX13_fails_43 : decode cX13_fails 43 = .ok (.aload_n 0, 1) := by decide +kernel
theorem dX13_fails_44 : decode cX13_fails 44 = .ok (.getfield 574, 3) := by decide +kernel
theorem dX13_fails_47 : decode cX13_fails 47 = .ok (.laload, 1) := by decide +kernel
theorem dX13_fails_48 : decode cX13_fails 48 = .ok (.l2i, 1) := by decide +kernel
theorem dX13_fails_49 : decode cX13_fails 49 = .ok (.putfield 577, 3) := by decide +kernel
theorem dX13_fails_52 : decode cX13_fails 52 = .ok (.aload_n 0, 1) := by decide +kernel
theorem dX13_fails_53 : decode cX13_fails 53 = .ok (.iload_n 1, 1) := by decide +kernel
theorem dX13_fails_54 : decode cX13_fails 54 = .ok (.aload_n 0, 1) := by decide +kernel
theorem dX13_fails_55 : decode cX13_fails 55 = .ok (.getfield 36, 3) := by decide +kernel
theorem dX13_fails_58 : decode cX13_fails 58 = .ok (.iload_n 2, 1) := by decide +kernel
theorem dX13_fails_59 : decode cX13_fails 59 = .ok (.iaload, 1) := by decide +kernel
theorem dX13_fails_60 : decode cX13_fails 60 = .ok (.invokevirtual 608, 3) := by decide +kernel
theorem dX13_fails_63 : decode cX13_fails 63 = .ok (.aload_n 0, 1) := by decide +kernel
theorem dX13_fails_64 : decode cX13_fails 64 = .ok (.getfield 550, 3) := by decide +kernel
theorem dX13_fails_67 : decode cX13_fails 67 = .ok (.ifCond .ne 16, 3) := by decide +kernel
theorem dX13_fails_70 : decode cX13_fails 70 = .ok (.aload_n 0, 1) := by decide +kernel
theorem dX13_fails_71 : decode cX13_fails 71 = .ok (.aload_n 0, 1) := by decide +kernel
theorem dX13_fails_72 : decode cX13_fails 72 = .ok (.getfield 153, 3) := by decide +kernel
theorem dX13_fails_75 : decode cX13_fails 75 = .ok (.aload_n 0, 1) := by decide +kernel
theorem dX13_fails_76 : decode cX13_fails 76 = .ok (.getfield 574, 3) := by decide +kernel
theorem dX13_fails_79 : decode cX13_fails 79 = .ok (.iaload, 1) := by decide +kernel
theorem dX13_fails_80 : decode cX13_fails 80 = .ok (.invokevirtual 611, 3) := by decide +kernel
theorem dX13_fails_83 : decode cX13_fails 83 = .ok (.return_, 1) := by decide +kernel
theorem dX13_argumentOf_0 : decode cX13_argumentOf 0 = .ok (.aload_n 0, 1) := by decide +kernel
theorem dX13_argumentOf_1 : decode cX13_argumentOf 1 = .ok (.getfield 30, 3) := by decide +kernel
theorem dX13_argumentOf_4 : decode cX13_argumentOf 4 = .ok (.iload_n 1, 1) := by decide +kernel
theorem dX13_argumentOf_5 : decode cX13_argumentOf 5 = .ok (.iaload, 1) := by decide +kernel
theorem dX13_argumentOf_6 : decode cX13_argumentOf 6 = .ok (.istore_n 3, 1) := by decide +kernel
theorem dX13_argumentOf_7 : decode cX13_argumentOf 7 = .ok (.iconst 0, 1) := by decide +kernel
theorem dX13_argumentOf_8 : decode cX13_argumentOf 8 = .ok (.istore 4, 2) := by decide +kernel
theorem dX13_argumentOf_10 : decode cX13_argumentOf 10 = .ok (.iload 4, 2) := by decide +kernel
theorem dX13_argumentOf_12 : decode cX13_argumentOf 12 = .ok (.iload_n 2, 1) := by decide +kernel
theorem dX13_argumentOf_13 : decode cX13_argumentOf 13 = .ok (.if_icmp .ge 20, 3) := by decide +kernel
theorem dX13_argumentOf_16 : decode cX13_argumentOf 16 = .ok (.iload_n 3, 1) := by decide +kernel
theorem dX13_argumentOf_17 : decode cX13_argumentOf 17 = .ok (.ifCond .lt 16, 3) := by decide +kernel
theorem dX13_argumentOf_20 : decode cX13_argumentOf 20 = .ok (.aload_n 0, 1) := by decide +kernel
theorem dX13_argumentOf_21 : decode cX13_argumentOf 21 = .ok (.getfield 39, 3) := by decide +kernel
theorem dX13_argumentOf_24 : decode cX13_argumentOf 24 = .ok (.iload_n 3, 1) := by decide +kernel
theorem dX13_argumentOf_25 : decode cX13_argumentOf 25 = .ok (.iaload, 1) := by decide +kernel
theorem dX13_argumentOf_26 : decode cX13_argumentOf 26 = .ok (.istore_n 3, 1) := by decide +kernel
theorem dX13_argumentOf_27 : decode cX13_argumentOf 27 = .ok (.iinc 4 1, 3) := by decide +kernel
theorem dX13_argumentOf_30 : decode cX13_argumentOf 30 = .ok (.goto (-20), 3) := by decide +kernel
theorem dX13_argumentOf_33 : decode cX13_argumentOf 33 = .ok (.iload_n 3, 1) := by decide +kernel
theorem dX13_argumentOf_34 : decode cX13_argumentOf 34 = .ok (.ireturn, 1) := by decide +kernel
theorem dX13_work_0 : decode cX13_work 0 = .ok (.aload_n 0, 1) := by decide +kernel
theorem dX13_work_1 : decode cX13_work 1 = .ok (.getfield 23, 3) := by decide +kernel
theorem dX13_work_4 : decode cX13_work 4 = .ok (.iload_n 1, 1) := by decide +kernel
theorem dX13_work_5 : decode cX13_work 5 = .ok (.iaload, 1) := by decide +kernel
theorem dX13_work_6 : decode cX13_work 6 = .ok (.bipush 7, 2) := by decide +kernel
theorem dX13_work_8 : decode cX13_work 8 = .ok (.if_icmp .ne 20, 3) := by decide +kernel
theorem dX13_work_11 : decode cX13_work 11 = .ok (.aload_n 0, 1) := by decide +kernel
theorem dX13_work_12 : decode cX13_work 12 = .ok (.aload_n 0, 1) := by decide +kernel
theorem dX13_work_13 : decode cX13_work 13 = .ok (.aload_n 0, 1) := by decide +kernel
theorem dX13_work_14 : decode cX13_work 14 = .ok (.getfield 42, 3) := by decide +kernel
theorem dX13_work_17 : decode cX13_work 17 = .ok (.iload_n 1, 1) := by decide +kernel
theorem dX13_work_18 : decode cX13_work 18 = .ok (.laload, 1) := by decide +kernel
theorem dX13_work_19 : decode cX13_work 19 = .ok (.lconst 1, 1) := by decide +kernel
theorem dX13_work_20 : decode cX13_work 20 = .ok (.iconst 0, 1) := by decide +kernel
theorem dX13_work_21 : decode cX13_work 21 = .ok (.invokevirtual 614, 3) := by decide +kernel
theorem dX13_work_24 : decode cX13_work 24 = .ok (.invokevirtual 606, 3) := by decide +kernel
theorem dX13_work_27 : decode cX13_work 27 = .ok (.return_, 1) := by decide +kernel
theorem dX13_work_28 : decode cX13_work 28 = .ok (.aload_n 0, 1) := by decide +kernel
theorem dX13_work_29 : decode cX13_work 29 = .ok (.getfield 23, 3) := by decide +kernel
theorem dX13_work_32 : decode cX13_work 32 = .ok (.iload_n 1, 1) := by decide +kernel
theorem dX13_work_33 : decode cX13_work 33 = .ok (.iaload, 1) := by decide +kernel
theorem dX13_work_34 : decode cX13_work 34 = .ok (.bipush 8, 2) := by decide +kernel
theorem dX13_work_36 : decode cX13_work 36 = .ok (.if_icmp .ne 27, 3) := by decide +kernel
theorem dX13_work_39 : decode cX13_work 39 = .ok (.aload_n 0, 1) := by decide +kernel
theorem dX13_work_40 : decode cX13_work 40 = .ok (.aload_n 0, 1) := by decide +kernel
theorem dX13_work_41 : decode cX13_work 41 = .ok (.getfield 147, 3) := by decide +kernel
theorem dX13_work_44 : decode cX13_work 44 = .ok (.bipush 20, 2) := by decide +kernel
theorem dX13_work_46 : decode cX13_work 46 = .ok (.aload_n 0, 1) := by decide +kernel
theorem dX13_work_47 : decode cX13_work 47 = .ok (.getfield 565, 3) := by decide +kernel
theorem dX13_work_50 : decode cX13_work 50 = .ok (.imul, 1) := by decide +kernel
theorem dX13_work_51 : decode cX13_work 51 = .ok (.aload_n 0, 1) := by decide +kernel
theorem dX13_work_52 : decode cX13_work 52 = .ok (.getfield 27, 3) := by decide +kernel
theorem dX13_work_55 : decode cX13_work 55 = .ok (.iload_n 1, 1) := by decide +kernel
theorem dX13_work_56 : decode cX13_work 56 = .ok (.iaload, 1) := by decide +kernel
theorem dX13_work_57 : decode cX13_work 57 = .ok (.iadd, 1) := by decide +kernel
theorem dX13_work_58 : decode cX13_work 58 = .ok (.iaload, 1) := by decide +kernel
theorem dX13_work_59 : decode cX13_work 59 = .ok (.invokevirtual 606, 3) := by decide +kernel
theorem dX13_work_62 : decode cX13_work 62 = .ok (.return_, 1) := by decide +kernel
theorem dX13_work_63 : decode cX13_work 63 = .ok (.aload_n 0, 1) := by decide +kernel
theorem dX13_work_64 : decode cX13_work 64 = .ok (.iconst 2, 1) := by decide +kernel
theorem dX13_work_65 : decode cX13_work 65 = .ok (.iload_n 1, 1) := by decide +kernel
theorem dX13_work_66 : decode cX13_work 66 = .ok (.lconst 0, 1) := by decide +kernel
theorem dX13_work_67 : decode cX13_work 67 = .ok (.invokevirtual 583, 3) := by decide +kernel
theorem dX13_work_70 : decode cX13_work 70 = .ok (.aload_n 0, 1) := by decide +kernel
theorem dX13_work_71 : decode cX13_work 71 = .ok (.getfield 23, 3) := by decide +kernel
theorem dX13_work_74 : decode cX13_work 74 = .ok (.iload_n 1, 1) := by decide +kernel
theorem dX13_work_75 : decode cX13_work 75 = .ok (.iaload, 1) := by decide +kernel
theorem dX13_work_76 : decode cX13_work 76 = .ok (.bipush 12, 2) := by decide +kernel
theorem dX13_work_78 : decode cX13_work 78 = .ok (.if_icmp .ne 30, 3) := by decide +kernel
theorem dX13_work_81 : decode cX13_work 81 = .ok (.aload_n 0, 1) := by decide +kernel
theorem dX13_work_82 : decode cX13_work 82 = .ok (.iconst 1, 1) := by decide +kernel
theorem dX13_work_83 : decode cX13_work 83 = .ok (.aload_n 0, 1) := by decide +kernel
theorem dX13_work_84 : decode cX13_work 84 = .ok (.getfield 33, 3) := by decide +kernel
theorem dX13_work_87 : decode cX13_work 87 = .ok (.iload_n 1, 1) := by decide +kernel
theorem dX13_work_88 : decode cX13_work 88 = .ok (.iaload, 1) := by decide +kernel
theorem dX13_work_89 : decode cX13_work 89 = .ok (.lconst 0, 1) := by decide +kernel
theorem dX13_work_90 : decode cX13_work 90 = .ok (.invokevirtual 583, 3) := by decide +kernel
theorem dX13_work_93 : decode cX13_work 93 = .ok (.aload_n 0, 1) := by decide +kernel
theorem dX13_work_94 : decode cX13_work 94 = .ok (.iconst 1, 1) := by decide +kernel
theorem dX13_work_95 : decode cX13_work 95 = .ok (.aload_n 0, 1) := by decide +kernel
theorem dX13_work_96 : decode cX13_work 96 = .ok (.getfield 30, 3) := by decide +kernel
theorem dX13_work_99 : decode cX13_work 99 = .ok (.iload_n 1, 1) := by decide +kernel
theorem dX13_work_100 : decode cX13_work 100 = .ok (.iaload, 1) := by decide +kernel
theorem dX13_work_101 : decode cX13_work 101 = .ok (.lconst 0, 1) := by decide +kernel
theorem dX13_work_102 : decode cX13_work 102 = .ok (.invokevirtual 583, 3) := by decide +kernel
theorem dX13_work_105 : decode cX13_work 105 = .ok (.goto 82, 3) := by decide +kernel
theorem dX13_work_108 : decode cX13_work 108 = .ok (.aload_n 0, 1) := by decide +kernel
theorem dX13_work_109 : decode cX13_work 109 = .ok (.getfield 23, 3) := by decide +kernel
theorem dX13_work_112 : decode cX13_work 112 = .ok (.iload_n 1, 1) := by decide +kernel
theorem dX13_work_113 : decode cX13_work 113 = .ok (.iaload, 1) := by decide +kernel
theorem dX13_work_114 : decode cX13_work 114 = .ok (.bipush 10, 2) := by decide +kernel
theorem dX13_work_116 : decode cX13_work 116 = .ok (.if_icmp .ne 39, 3) := by decide +kernel
theorem dX13_work_119 : decode cX13_work 119 = .ok (.iconst 3, 1) := by decide +kernel
theorem dX13_work_120 : decode cX13_work 120 = .ok (.istore_n 2, 1) := by decide +kernel
theorem dX13_work_121 : decode cX13_work 121 = .ok (.iload_n 2, 1) := by decide +kernel
theorem dX13_work_122 : decode cX13_work 122 = .ok (.ifCond .lt 30, 3) := by decide +kernel
theorem dX13_work_125 : decode cX13_work 125 = .ok (.aload_n 0, 1) := by decide +kernel
theorem dX13_work_126 : decode cX13_work 126 = .ok (.iload_n 1, 1) := by decide +kernel
theorem dX13_work_127 : decode cX13_work 127 = .ok (.iload_n 2, 1) := by decide +kernel
theorem dX13_work_128 : decode cX13_work 128 = .ok (.invokevirtual 618, 3) := by decide +kernel
theorem dX13_work_131 : decode cX13_work 131 = .ok (.ifCond .lt 15, 3) := by decide +kernel
theorem dX13_work_134 : decode cX13_work 134 = .ok (.aload_n 0, 1) := by decide +kernel
theorem dX13_work_135 : decode cX13_work 135 = .ok (.iconst 1, 1) := by decide +kernel
theorem dX13_work_136 : decode cX13_work 136 = .ok (.aload_n 0, 1) := by decide +kernel
theorem dX13_work_137 : decode cX13_work 137 = .ok (.iload_n 1, 1) := by decide +kernel
theorem dX13_work_138 : decode cX13_work 138 = .ok (.iload_n 2, 1) := by decide +kernel
theorem dX13_work_139 : decode cX13_work 139 = .ok (.invokevirtual 618, 3) := by decide +kernel
theorem dX13_work_142 : decode cX13_work 142 = .ok (.lconst 0, 1) := by decide +kernel
theorem dX13_work_143 : decode cX13_work 143 = .ok (.invokevirtual 583, 3) := by decide +kernel
theorem dX13_work_146 : decode cX13_work 146 = .ok (.iinc 2 (-1), 3) := by decide +kernel
theorem dX13_work_149 : decode cX13_work 149 = .ok (.goto (-28), 3) := by decide +kernel
theorem dX13_work_152 : decode cX13_work 152 = .ok (.goto 35, 3) := by decide +kernel
theorem dX13_work_155 : decode cX13_work 155 = .ok (.aload_n 0, 1) := by decide +kernel
theorem dX13_work_156 : decode cX13_work 156 = .ok (.iconst 1, 1) := by decide +kernel
theorem dX13_work_157 : decode cX13_work 157 = .ok (.aload_n 0, 1) := by decide +kernel
theorem dX13_work_158 : decode cX13_work 158 = .ok (.getfield 23, 3) := by decide +kernel
theorem dX13_work_161 : decode cX13_work 161 = .ok (.iload_n 1, 1) := by decide +kernel
theorem dX13_work_162 : decode cX13_work 162 = .ok (.iaload, 1) := by decide +kernel
theorem dX13_work_163 : decode cX13_work 163 = .ok (.bipush 9, 2) := by decide +kernel
theorem dX13_work_165 : decode cX13_work 165 = .ok (.if_icmp .ne 12, 3) := by decide +kernel
theorem dX13_work_168 : decode cX13_work 168 = .ok (.aload_n 0, 1) := by decide +kernel
theorem dX13_work_169 : decode cX13_work 169 = .ok (.getfield 30, 3) := by decide +kernel
theorem dX13_work_172 : decode cX13_work 172 = .ok (.iload_n 1, 1) := by decide +kernel
theorem dX13_work_173 : decode cX13_work 173 = .ok (.iaload, 1) := by decide +kernel
theorem dX13_work_174 : decode cX13_work 174 = .ok (.goto 9, 3) := by decide +kernel
theorem dX13_work_177 : decode cX13_work 177 = .ok (.aload_n 0, 1) := by decide +kernel
theorem dX13_work_178 : decode cX13_work 178 = .ok (.getfield 27, 3) := by decide +kernel
theorem dX13_work_181 : decode cX13_work 181 = .ok (.iload_n 1, 1) := by decide +kernel
theorem dX13_work_182 : decode cX13_work 182 = .ok (.iaload, 1) := by decide +kernel
theorem dX13_work_183 : decode cX13_work 183 = .ok (.lconst 0, 1) := by decide +kernel
theorem dX13_work_184 : decode cX13_work 184 = .ok (.invokevirtual 583, 3) := by decide +kernel
theorem dX13_work_187 : decode cX13_work 187 = .ok (.return_, 1) := by decide +kernel
theorem dX13_apply_0 : decode cX13_apply 0 = .ok (.aload_n 0, 1) := by decide +kernel
theorem dX13_apply_1 : decode cX13_apply 1 = .ok (.getfield 23, 3) := by decide +kernel
theorem dX13_apply_4 : decode cX13_apply 4 = .ok (.iload_n 1, 1) := by decide +kernel
theorem dX13_apply_5 : decode cX13_apply 5 = .ok (.iaload, 1) := by decide +kernel
theorem dX13_apply_6 : decode cX13_apply 6 = .ok (.bipush 9, 2) := by decide +kernel
theorem dX13_apply_8 : decode cX13_apply 8 = .ok (.if_icmp .ne 11, 3) := by decide +kernel
theorem dX13_apply_11 : decode cX13_apply 11 = .ok (.aload_n 0, 1) := by decide +kernel
theorem dX13_apply_12 : decode cX13_apply 12 = .ok (.iload_n 1, 1) := by decide +kernel
theorem dX13_apply_13 : decode cX13_apply 13 = .ok (.invokevirtual 621, 3) := by decide +kernel
theorem dX13_apply_16 : decode cX13_apply 16 = .ok (.goto 134, 3) := by decide +kernel
theorem dX13_apply_19 : decode cX13_apply 19 = .ok (.aload_n 0, 1) := by decide +kernel
theorem dX13_apply_20 : decode cX13_apply 20 = .ok (.getfield 23, 3) := by decide +kernel
theorem dX13_apply_23 : decode cX13_apply 23 = .ok (.iload_n 1, 1) := by decide +kernel
theorem dX13_apply_24 : decode cX13_apply 24 = .ok (.iaload, 1) := by decide +kernel
theorem dX13_apply_25 : decode cX13_apply 25 = .ok (.bipush 11, 2) := by decide +kernel
theorem dX13_apply_27 : decode cX13_apply 27 = .ok (.if_icmp .ne 80, 3) := by decide +kernel
theorem dX13_apply_30 : decode cX13_apply 30 = .ok (.aload_n 0, 1) := by decide +kernel
theorem dX13_apply_31 : decode cX13_apply 31 = .ok (.invokevirtual 624, 3) := by decide +kernel
theorem dX13_apply_34 : decode cX13_apply 34 = .ok (.istore_n 2, 1) := by decide +kernel
theorem dX13_apply_35 : decode cX13_apply 35 = .ok (.iload_n 2, 1) := by decide +kernel
theorem dX13_apply_36 : decode cX13_apply 36 = .ok (.ifCond .ge 7, 3) := by decide +kernel
theorem dX13_apply_39 : decode cX13_apply 39 = .ok (.iconst 1, 1) := by decide +kernel
theorem dX13_apply_40 : decode cX13_apply 40 = .ok (.goto 17, 3) := by decide +kernel
theorem dX13_apply_43 : decode cX13_apply 43 = .ok (.aload_n 0, 1) := by decide +kernel
theorem dX13_apply_44 : decode cX13_apply 44 = .ok (.getfield 99, 3) := by decide +kernel
theorem dX13_apply_47 : decode cX13_apply 47 = .ok (.iload_n 2, 1) := by decide +kernel
theorem dX13_apply_48 : decode cX13_apply 48 = .ok (.iaload, 1) := by decide +kernel
theorem dX13_apply_49 : decode cX13_apply 49 = .ok (.ifCond .eq 7, 3) := by decide +kernel
theorem dX13_apply_52 : decode cX13_apply 52 = .ok (.iconst 2, 1) := by decide +kernel
theorem dX13_apply_53 : decode cX13_apply 53 = .ok (.goto 4, 3) := by decide +kernel
theorem dX13_apply_56 : decode cX13_apply 56 = .ok (.iconst 0, 1) := by decide +kernel
theorem dX13_apply_57 : decode cX13_apply 57 = .ok (.istore_n 3, 1) := by decide +kernel
theorem dX13_apply_58 : decode cX13_apply 58 = .ok (.iload_n 3, 1) := by decide +kernel
theorem dX13_apply_59 : decode cX13_apply 59 = .ok (.ifCond .le 12, 3) := by decide +kernel
theorem dX13_apply_62 : decode cX13_apply 62 = .ok (.aload_n 0, 1) := by decide +kernel
theorem dX13_apply_63 : decode cX13_apply 63 = .ok (.iload_n 3, 1) := by decide +kernel
theorem dX13_apply_64 : decode cX13_apply 64 = .ok (.iload_n 1, 1) := by decide +kernel
theorem dX13_apply_65 : decode cX13_apply 65 = .ok (.invokevirtual 627, 3) := by decide +kernel
theorem dX13_apply_68 : decode cX13_apply 68 = .ok (.goto 36, 3) := by decide +kernel
theorem dX13_apply_71 : decode cX13_apply 71 = .ok (.aload_n 0, 1) := by decide +kernel
theorem dX13_apply_72 : decode cX13_apply 72 = .ok (.aload_n 0, 1) := by decide +kernel
theorem dX13_apply_73 : decode cX13_apply 73 = .ok (.aload_n 0, 1) := by decide +kernel
theorem dX13_apply_74 : decode cX13_apply 74 = .ok (.getfield 108, 3) := by decide +kernel
theorem dX13_apply_77 : decode cX13_apply 77 = .ok (.bipush 7, 2) := by decide +kernel
theorem dX13_apply_79 : decode cX13_apply 79 = .ok (.iload_n 2, 1) := by decide +kernel
theorem dX13_apply_80 : decode cX13_apply 80 = .ok (.imul, 1) := by decide +kernel
theorem dX13_apply_81 : decode cX13_apply 81 = .ok (.laload, 1) := by decide +kernel
theorem dX13_apply_82 : decode cX13_apply 82 = .ok (.lneg, 1) := by decide +kernel
theorem dX13_apply_83 : decode cX13_apply 83 = .ok (.aload_n 0, 1) := by decide +kernel
theorem dX13_apply_84 : decode cX13_apply 84 = .ok (.getfield 111, 3) := by decide +kernel
theorem dX13_apply_87 : decode cX13_apply 87 = .ok (.bipush 7, 2) := by decide +kernel
theorem dX13_apply_89 : decode cX13_apply 89 = .ok (.iload_n 2, 1) := by decide +kernel
theorem dX13_apply_90 : decode cX13_apply 90 = .ok (.imul, 1) := by decide +kernel
theorem dX13_apply_91 : decode cX13_apply 91 = .ok (.laload, 1) := by decide +kernel
theorem dX13_apply_92 : decode cX13_apply 92 = .ok (.aload_n 0, 1) := by decide +kernel
theorem dX13_apply_93 : decode cX13_apply 93 = .ok (.getfield 102, 3) := by decide +kernel
theorem dX13_apply_96 : decode cX13_apply 96 = .ok (.iload_n 2, 1) := by decide +kernel
theorem dX13_apply_97 : decode cX13_apply 97 = .ok (.iaload, 1) := by decide +kernel
theorem dX13_apply_98 : decode cX13_apply 98 = .ok (.invokevirtual 614, 3) := by decide +kernel
theorem dX13_apply_101 : decode cX13_apply 101 = .ok (.invokevirtual 606, 3) := by decide +kernel
theorem dX13_apply_104 : decode cX13_apply 104 = .ok (.goto 46, 3) := by decide +kernel
theorem dX13_apply_107 : decode cX13_apply 107 = .ok (.aload_n 0, 1) := by decide +kernel
theorem dX13_apply_108 : decode cX13_apply 108 = .ok (.getfield 23, 3) := by decide +kernel
theorem dX13_apply_111 : decode cX13_apply 111 = .ok (.iload_n 1, 1) := by decide +kernel
theorem dX13_apply_112 : decode cX13_apply 112 = .ok (.iaload, 1) := by decide +kernel
theorem dX13_apply_113 : decode cX13_apply 113 = .ok (.bipush 12, 2) := by decide +kernel
theorem dX13_apply_115 : decode cX13_apply 115 = .ok (.if_icmp .ne 11, 3) := by decide +kernel
theorem dX13_apply_118 : decode cX13_apply 118 = .ok (.aload_n 0, 1) := by decide +kernel
theorem dX13_apply_119 : decode cX13_apply 119 = .ok (.iload_n 1, 1) := by decide +kernel
theorem dX13_apply_120 : decode cX13_apply 120 = .ok (.invokevirtual 630, 3) := by decide +kernel
theorem dX13_apply_123 : decode cX13_apply 123 = .ok (.goto 27, 3) := by decide +kernel
theorem dX13_apply_126 : decode cX13_apply 126 = .ok (.aload_n 0, 1) := by decide +kernel
theorem dX13_apply_127 : decode cX13_apply 127 = .ok (.getfield 27, 3) := by decide +kernel
theorem dX13_apply_130 : decode cX13_apply 130 = .ok (.iload_n 1, 1) := by decide +kernel
theorem dX13_apply_131 : decode cX13_apply 131 = .ok (.iaload, 1) := by decide +kernel
theorem dX13_apply_132 : decode cX13_apply 132 = .ok (.bipush 100, 2) := by decide +kernel
theorem dX13_apply_134 : decode cX13_apply 134 = .ok (.if_icmp .lt 11, 3) := by decide +kernel
theorem dX13_apply_137 : decode cX13_apply 137 = .ok (.aload_n 0, 1) := by decide +kernel
theorem dX13_apply_138 : decode cX13_apply 138 = .ok (.iload_n 1, 1) := by decide +kernel
theorem dX13_apply_139 : decode cX13_apply 139 = .ok (.invokevirtual 633, 3) := by decide +kernel
theorem dX13_apply_142 : decode cX13_apply 142 = .ok (.goto 8, 3) := by decide +kernel
theorem dX13_apply_145 : decode cX13_apply 145 = .ok (.aload_n 0, 1) := by decide +kernel
theorem dX13_apply_146 : decode cX13_apply 146 = .ok (.iload_n 1, 1) := by decide +kernel
theorem dX13_apply_147 : decode cX13_apply 147 = .ok (.invokevirtual 636, 3) := by decide +kernel
theorem dX13_apply_150 : decode cX13_apply 150 = .ok (.return_, 1) := by decide +kernel
theorem dX13_applyAt_0 : decode cX13_applyAt 0 = .ok (.aload_n 0, 1) := by decide +kernel
theorem dX13_applyAt_1 : decode cX13_applyAt 1 = .ok (.invokevirtual 624, 3) := by decide +kernel
theorem dX13_applyAt_4 : decode cX13_applyAt 4 = .ok (.istore_n 2, 1) := by decide +kernel
theorem dX13_applyAt_5 : decode cX13_applyAt 5 = .ok (.aload_n 0, 1) := by decide +kernel
theorem dX13_applyAt_6 : decode cX13_applyAt 6 = .ok (.getfield 147, 3) := by decide +kernel
theorem dX13_applyAt_9 : decode cX13_applyAt 9 = .ok (.bipush 20, 2) := by decide +kernel
theorem dX13_applyAt_11 : decode cX13_applyAt 11 = .ok (.aload_n 0, 1) := by decide +kernel
theorem dX13_applyAt_12 : decode cX13_applyAt 12 = .ok (.getfield 565, 3) := by decide +kernel
theorem dX13_applyAt_15 : decode cX13_applyAt 15 = .ok (.imul, 1) := by decide +kernel
theorem dX13_applyAt_16 : decode cX13_applyAt 16 = .ok (.aload_n 0, 1) := by decide +kernel
theorem dX13_applyAt_17 : decode cX13_applyAt 17 = .ok (.getfield 27, 3) := by decide +kernel
theorem dX13_applyAt_20 : decode cX13_applyAt 20 = .ok (.iload_n 1, 1) := by decide +kernel
theorem dX13_applyAt_21 : decode cX13_applyAt 21 = .ok (.iaload, 1) := by decide +kernel
theorem dX13_applyAt_22 : decode cX13_applyAt 22 = .ok (.iadd, 1) := by decide +kernel
theorem dX13_applyAt_23 : decode cX13_applyAt 23 = .ok (.iaload, 1) := by decide +kernel
theorem dX13_applyAt_24 : decode cX13_applyAt 24 = .ok (.istore_n 3, 1) := by decide +kernel
theorem dX13_applyAt_25 : decode cX13_applyAt 25 = .ok (.iload_n 3, 1) := by decide +kernel
theorem dX13_applyAt_26 : decode cX13_applyAt 26 = .ok (.ifCond .ge 7, 3) := by decide +kernel
theorem dX13_applyAt_29 : decode cX13_applyAt 29 = .ok (.iconst 1, 1) := by decide +kernel
theorem dX13_applyAt_30 : decode cX13_applyAt 30 = .ok (.goto 73, 3) := by decide +kernel
theorem dX13_applyAt_33 : decode cX13_applyAt 33 = .ok (.aload_n 0, 1) := by decide +kernel
theorem dX13_applyAt_34 : decode cX13_applyAt 34 = .ok (.getfield 99, 3) := by decide +kernel
theorem dX13_applyAt_37 : decode cX13_applyAt 37 = .ok (.iload_n 3, 1) := by decide +kernel
theorem dX13_applyAt_38 : decode cX13_applyAt 38 = .ok (.iaload, 1) := by decide +kernel
theorem dX13_applyAt_39 : decode cX13_applyAt 39 = .ok (.bipush 6, 2) := by decide +kernel
theorem dX13_applyAt_41 : decode cX13_applyAt 41 = .ok (.if_icmp .eq 7, 3) := by decide +kernel
theorem dX13_applyAt_44 : decode cX13_applyAt 44 = .ok (.iconst 2, 1) := by decide +kernel
theorem dX13_applyAt_45 : decode cX13_applyAt 45 = .ok (.goto 58, 3) := by decide +kernel
theorem dX13_applyAt_48 : decode cX13_applyAt 48 = .ok (.iload_n 2, 1) := by decide +kernel
theorem dX13_applyAt_49 : decode cX13_applyAt 49 = .ok (.ifCond .ge 7, 3) := by decide +kernel
theorem dX13_applyAt_52 : decode cX13_applyAt 52 = .ok (.iconst 1, 1) := by decide +kernel
theorem dX13_applyAt_53 : decode cX13_applyAt 53 = .ok (.goto 50, 3) := by decide +kernel
theorem dX13_applyAt_56 : decode cX13_applyAt 56 = .ok (.aload_n 0, 1) := by decide +kernel
theorem dX13_applyAt_57 : decode cX13_applyAt 57 = .ok (.iload_n 2, 1) := by decide +kernel
theorem dX13_applyAt_58 : decode cX13_applyAt 58 = .ok (.invokevirtual 639, 3) := by decide +kernel
theorem dX13_applyAt_61 : decode cX13_applyAt 61 = .ok (.ifCond .ne 7, 3) := by decide +kernel
theorem dX13_applyAt_64 : decode cX13_applyAt 64 = .ok (.iconst 2, 1) := by decide +kernel
theorem dX13_applyAt_65 : decode cX13_applyAt 65 = .ok (.goto 38, 3) := by decide +kernel
theorem dX13_applyAt_68 : decode cX13_applyAt 68 = .ok (.aload_n 0, 1) := by decide +kernel
theorem dX13_applyAt_69 : decode cX13_applyAt 69 = .ok (.getfield 108, 3) := by decide +kernel
theorem dX13_applyAt_72 : decode cX13_applyAt 72 = .ok (.bipush 7, 2) := by decide +kernel
theorem dX13_applyAt_74 : decode cX13_applyAt 74 = .ok (.iload_n 2, 1) := by decide +kernel
theorem dX13_applyAt_75 : decode cX13_applyAt 75 = .ok (.imul, 1) := by decide +kernel
theorem dX13_applyAt_76 : decode cX13_applyAt 76 = .ok (.laload, 1) := by decide +kernel
theorem dX13_applyAt_77 : decode cX13_applyAt 77 = .ok (.lconst 0, 1) := by decide +kernel
theorem dX13_applyAt_78 : decode cX13_applyAt 78 = .ok (.aload_n 0, 1) := by decide +kernel
theorem dX13_applyAt_79 : decode cX13_applyAt 79 = .ok (.getfield 117, 3) := by decide +kernel
theorem dX13_applyAt_82 : decode cX13_applyAt 82 = .ok (.aload_n 0, 1) := by decide +kernel
theorem dX13_applyAt_83 : decode cX13_applyAt 83 = .ok (.getfield 105, 3) := by decide +kernel
theorem dX13_applyAt_86 : decode cX13_applyAt 86 = .ok (.iload_n 3, 1) := by decide +kernel
theorem dX13_applyAt_87 : decode cX13_applyAt 87 = .ok (.iaload, 1) := by decide +kernel
theorem dX13_applyAt_88 : decode cX13_applyAt 88 = .ok (.iaload, 1) := by decide +kernel
theorem dX13_applyAt_89 : decode cX13_applyAt 89 = .ok (.iconst 1, 1) := by decide +kernel
theorem dX13_applyAt_90 : decode cX13_applyAt 90 = .ok (.isub, 1) := by decide +kernel
theorem dX13_applyAt_91 : decode cX13_applyAt 91 = .ok (.i2l, 1) := by decide +kernel
theorem dX13_applyAt_92 : decode cX13_applyAt 92 = .ok (.invokestatic 204, 3) := by decide +kernel
theorem dX13_applyAt_95 : decode cX13_applyAt 95 = .ok (.ifCond .ne 7, 3) := by decide +kernel
theorem dX13_applyAt_98 : decode cX13_applyAt 98 = .ok (.iconst 3, 1) := by decide +kernel
theorem dX13_applyAt_99 : decode cX13_applyAt 99 = .ok (.goto 4, 3) := by decide +kernel
theorem dX13_applyAt_102 : decode cX13_applyAt 102 = .ok (.iconst 0, 1) := by decide +kernel
theorem dX13_applyAt_103 : decode cX13_applyAt 103 = .ok (.istore 4, 2) := by decide +kernel
theorem dX13_applyAt_105 : decode cX13_applyAt 105 = .ok (.iload 4, 2) := by decide +kernel
theorem dX13_applyAt_107 : decode cX13_applyAt 107 = .ok (.ifCond .le 13, 3) := by decide +kernel
theorem dX13_applyAt_110 : decode cX13_applyAt 110 = .ok (.aload_n 0, 1) := by decide +kernel
theorem dX13_applyAt_111 : decode cX13_applyAt 111 = .ok (.iload 4, 2) := by decide +kernel
theorem dX13_applyAt_113 : decode cX13_applyAt 113 = .ok (.iload_n 1, 1) := by decide +kernel
theorem dX13_applyAt_114 : decode cX13_applyAt 114 = .ok (.invokevirtual 627, 3) := by decide +kernel
theorem dX13_applyAt_117 : decode cX13_applyAt 117 = .ok (.goto 32, 3) := by decide +kernel
theorem dX13_applyAt_120 : decode cX13_applyAt 120 = .ok (.aload_n 0, 1) := by decide +kernel
theorem dX13_applyAt_121 : decode cX13_applyAt 121 = .ok (.aload_n 0, 1) := by decide +kernel
theorem dX13_applyAt_122 : decode cX13_applyAt 122 = .ok (.getfield 120, 3) := by decide +kernel
theorem dX13_applyAt_125 : decode cX13_applyAt 125 = .ok (.bipush 20, 2) := by decide +kernel
theorem dX13_applyAt_127 : decode cX13_applyAt 127 = .ok (.aload_n 0, 1) := by decide +kernel
theorem dX13_applyAt_128 : decode cX13_applyAt 128 = .ok (.getfield 105, 3) := by decide +kernel
theorem dX13_applyAt_131 : decode cX13_applyAt 131 = .ok (.iload_n 3, 1) := by decide +kernel
theorem dX13_applyAt_132 : decode cX13_applyAt 132 = .ok (.iaload, 1) := by decide +kernel
theorem dX13_applyAt_133 : decode cX13_applyAt 133 = .ok (.imul, 1) := by decide +kernel
theorem dX13_applyAt_134 : decode cX13_applyAt 134 = .ok (.aload_n 0, 1) := by decide +kernel
theorem dX13_applyAt_135 : decode cX13_applyAt 135 = .ok (.getfield 108, 3) := by decide +kernel
theorem dX13_applyAt_138 : decode cX13_applyAt 138 = .ok (.bipush 7, 2) := by decide +kernel
theorem dX13_applyAt_140 : decode cX13_applyAt 140 = .ok (.iload_n 2, 1) := by decide +kernel
theorem dX13_applyAt_141 : decode cX13_applyAt 141 = .ok (.imul, 1) := by decide +kernel
theorem dX13_applyAt_142 : decode cX13_applyAt 142 = .ok (.laload, 1) := by decide +kernel
theorem dX13_applyAt_143 : decode cX13_applyAt 143 = .ok (.l2i, 1) := by decide +kernel
theorem dX13_applyAt_144 : decode cX13_applyAt 144 = .ok (.iadd, 1) := by decide +kernel
theorem dX13_applyAt_145 : decode cX13_applyAt 145 = .ok (.iaload, 1) := by decide +kernel
theorem dX13_applyAt_146 : decode cX13_applyAt 146 = .ok (.invokevirtual 606, 3) := by decide +kernel
theorem dX13_applyAt_149 : decode cX13_applyAt 149 = .ok (.return_, 1) := by decide +kernel
theorem dX13_applyTwo_0 : decode cX13_applyTwo 0 = .ok (.aload_n 0, 1) := by decide +kernel
theorem dX13_applyTwo_1 : decode cX13_applyTwo 1 = .ok (.invokevirtual 624, 3) := by decide +kernel
theorem dX13_applyTwo_4 : decode cX13_applyTwo 4 = .ok (.istore_n 2, 1) := by decide +kernel
theorem dX13_applyTwo_5 : decode cX13_applyTwo 5 = .ok (.aload_n 0, 1) := by decide +kernel
theorem dX13_applyTwo_6 : decode cX13_applyTwo 6 = .ok (.invokevirtual 624, 3) := by decide +kernel
theorem dX13_applyTwo_9 : decode cX13_applyTwo 9 = .ok (.istore_n 3, 1) := by decide +kernel
theorem dX13_applyTwo_10 : decode cX13_applyTwo 10 = .ok (.iload_n 3, 1) := by decide +kernel
theorem dX13_applyTwo_11 : decode cX13_applyTwo 11 = .ok (.ifCond .ge 7, 3) := by decide +kernel
theorem dX13_applyTwo_14 : decode cX13_applyTwo 14 = .ok (.iconst 1, 1) := by decide +kernel
theorem dX13_applyTwo_15 : decode cX13_applyTwo 15 = .ok (.goto 38, 3) := by decide +kernel
theorem dX13_applyTwo_18 : decode cX13_applyTwo 18 = .ok (.aload_n 0, 1) := by decide +kernel
theorem dX13_applyTwo_19 : decode cX13_applyTwo 19 = .ok (.getfield 99, 3) := by decide +kernel
theorem dX13_applyTwo_22 : decode cX13_applyTwo 22 = .ok (.iload_n 3, 1) := by decide +kernel
theorem dX13_applyTwo_23 : decode cX13_applyTwo 23 = .ok (.iaload, 1) := by decide +kernel
theorem dX13_applyTwo_24 : decode cX13_applyTwo 24 = .ok (.ifCond .eq 7, 3) := by decide +kernel
theorem dX13_applyTwo_27 : decode cX13_applyTwo 27 = .ok (.iconst 2, 1) := by decide +kernel
theorem dX13_applyTwo_28 : decode cX13_applyTwo 28 = .ok (.goto 25, 3) := by decide +kernel
theorem dX13_applyTwo_31 : decode cX13_applyTwo 31 = .ok (.iload_n 2, 1) := by decide +kernel
theorem dX13_applyTwo_32 : decode cX13_applyTwo 32 = .ok (.ifCond .ge 7, 3) := by decide +kernel
theorem dX13_applyTwo_35 : decode cX13_applyTwo 35 = .ok (.iconst 1, 1) := by decide +kernel
theorem dX13_applyTwo_36 : decode cX13_applyTwo 36 = .ok (.goto 17, 3) := by decide +kernel
theorem dX13_applyTwo_39 : decode cX13_applyTwo 39 = .ok (.aload_n 0, 1) := by decide +kernel
theorem dX13_applyTwo_40 : decode cX13_applyTwo 40 = .ok (.getfield 99, 3) := by decide +kernel
theorem dX13_applyTwo_43 : decode cX13_applyTwo 43 = .ok (.iload_n 2, 1) := by decide +kernel
theorem dX13_applyTwo_44 : decode cX13_applyTwo 44 = .ok (.iaload, 1) := by decide +kernel
theorem dX13_applyTwo_45 : decode cX13_applyTwo 45 = .ok (.ifCond .eq 7, 3) := by decide +kernel
theorem dX13_applyTwo_48 : decode cX13_applyTwo 48 = .ok (.iconst 2, 1) := by decide +kernel
theorem dX13_applyTwo_49 : decode cX13_applyTwo 49 = .ok (.goto 4, 3) := by decide +kernel
theorem dX13_applyTwo_52 : decode cX13_applyTwo 52 = .ok (.iconst 0, 1) := by decide +kernel
theorem dX13_applyTwo_53 : decode cX13_applyTwo 53 = .ok (.istore 4, 2) := by decide +kernel
theorem dX13_applyTwo_55 : decode cX13_applyTwo 55 = .ok (.iload 4, 2) := by decide +kernel
theorem dX13_applyTwo_57 : decode cX13_applyTwo 57 = .ok (.ifCond .le 11, 3) := by decide +kernel
theorem dX13_applyTwo_60 : decode cX13_applyTwo 60 = .ok (.aload_n 0, 1) := by decide +kernel
theorem dX13_applyTwo_61 : decode cX13_applyTwo 61 = .ok (.iload 4, 2) := by decide +kernel
theorem dX13_applyTwo_63 : decode cX13_applyTwo 63 = .ok (.iload_n 1, 1) := by decide +kernel
theorem dX13_applyTwo_64 : decode cX13_applyTwo 64 = .ok (.invokevirtual 627, 3) := by decide +kernel
theorem dX13_applyTwo_67 : decode cX13_applyTwo 67 = .ok (.return_, 1) := by decide +kernel
theorem dX13_applyTwo_68 : decode cX13_applyTwo 68 = .ok (.aload_n 0, 1) := by decide +kernel
theorem dX13_applyTwo_69 : decode cX13_applyTwo 69 = .ok (.getfield 102, 3) := by decide +kernel
theorem dX13_applyTwo_72 : decode cX13_applyTwo 72 = .ok (.iload_n 3, 1) := by decide +kernel
theorem dX13_applyTwo_73 : decode cX13_applyTwo 73 = .ok (.iaload, 1) := by decide +kernel
theorem dX13_applyTwo_74 : decode cX13_applyTwo 74 = .ok (.aload_n 0, 1) := by decide +kernel
theorem dX13_applyTwo_75 : decode cX13_applyTwo 75 = .ok (.getfield 102, 3) := by decide +kernel
theorem dX13_applyTwo_78 : decode cX13_applyTwo 78 = .ok (.iload_n 2, 1) := by decide +kernel
theorem dX13_applyTwo_79 : decode cX13_applyTwo 79 = .ok (.iaload, 1) := by decide +kernel
theorem dX13_applyTwo_80 : decode cX13_applyTwo 80 = .ok (.ior, 1) := by decide +kernel
theorem dX13_applyTwo_81 : decode cX13_applyTwo 81 = .ok (.istore 5, 2) := by decide +kernel
theorem dX13_applyTwo_83 : decode cX13_applyTwo 83 = .ok (.aload_n 0, 1) := by decide +kernel
theorem dX13_applyTwo_84 : decode cX13_applyTwo 84 = .ok (.getfield 27, 3) := by decide +kernel
theorem dX13_applyTwo_87 : decode cX13_applyTwo 87 = .ok (.iload_n 1, 1) := by decide +kernel
theorem dX13_applyTwo_88 : decode cX13_applyTwo 88 = .ok (.iaload, 1) := by decide +kernel
theorem dX13_applyTwo_89 : decode cX13_applyTwo 89 = .ok (.bipush 61, 2) := by decide +kernel
theorem dX13_applyTwo_91 : decode cX13_applyTwo 91 = .ok (.if_icmp .eq 14, 3) := by decide +kernel
theorem dX13_applyTwo_94 : decode cX13_applyTwo 94 = .ok (.aload_n 0, 1) := by decide +kernel
theorem dX13_applyTwo_95 : decode cX13_applyTwo 95 = .ok (.getfield 27, 3) := by decide +kernel
theorem dX13_applyTwo_98 : decode cX13_applyTwo 98 = .ok (.iload_n 1, 1) := by decide +kernel
theorem dX13_applyTwo_99 : decode cX13_applyTwo 99 = .ok (.iaload, 1) := by decide +kernel
theorem dX13_applyTwo_100 : decode cX13_applyTwo 100 = .ok (.bipush 60, 2) := by decide +kernel
theorem dX13_applyTwo_102 : decode cX13_applyTwo 102 = .ok (.if_icmp .ne 85, 3) := by decide +kernel
theorem dX13_applyTwo_105 : decode cX13_applyTwo 105 = .ok (.aload_n 0, 1) := by decide +kernel
theorem dX13_applyTwo_106 : decode cX13_applyTwo 106 = .ok (.getfield 108, 3) := by decide +kernel
theorem dX13_applyTwo_109 : decode cX13_applyTwo 109 = .ok (.bipush 7, 2) := by decide +kernel
theorem dX13_applyTwo_111 : decode cX13_applyTwo 111 = .ok (.iload_n 3, 1) := by decide +kernel
theorem dX13_applyTwo_112 : decode cX13_applyTwo 112 = .ok (.imul, 1) := by decide +kernel
theorem dX13_applyTwo_113 : decode cX13_applyTwo 113 = .ok (.laload, 1) := by decide +kernel
theorem dX13_applyTwo_114 : decode cX13_applyTwo 114 = .ok (.aload_n 0, 1) := by decide +kernel
theorem dX13_applyTwo_115 : decode cX13_applyTwo 115 = .ok (.getfield 111, 3) := by decide +kernel
theorem dX13_applyTwo_118 : decode cX13_applyTwo 118 = .ok (.bipush 7, 2) := by decide +kernel
theorem dX13_applyTwo_120 : decode cX13_applyTwo 120 = .ok (.iload_n 3, 1) := by decide +kernel
theorem dX13_applyTwo_121 : decode cX13_applyTwo 121 = .ok (.imul, 1) := by decide +kernel
theorem dX13_applyTwo_122 : decode cX13_applyTwo 122 = .ok (.laload, 1) := by decide +kernel
theorem dX13_applyTwo_123 : decode cX13_applyTwo 123 = .ok (.aload_n 0, 1) := by decide +kernel
theorem dX13_applyTwo_124 : decode cX13_applyTwo 124 = .ok (.getfield 108, 3) := by decide +kernel
theorem dX13_applyTwo_127 : decode cX13_applyTwo 127 = .ok (.bipush 7, 2) := by decide +kernel
theorem dX13_applyTwo_129 : decode cX13_applyTwo 129 = .ok (.iload_n 2, 1) := by decide +kernel
theorem dX13_applyTwo_130 : decode cX13_applyTwo 130 = .ok (.imul, 1) := by decide +kernel
theorem dX13_applyTwo_131 : decode cX13_applyTwo 131 = .ok (.laload, 1) := by decide +kernel
theorem dX13_applyTwo_132 : decode cX13_applyTwo 132 = .ok (.aload_n 0, 1) := by decide +kernel
theorem dX13_applyTwo_133 : decode cX13_applyTwo 133 = .ok (.getfield 111, 3) := by decide +kernel
theorem dX13_applyTwo_136 : decode cX13_applyTwo 136 = .ok (.bipush 7, 2) := by decide +kernel
theorem dX13_applyTwo_138 : decode cX13_applyTwo 138 = .ok (.iload_n 2, 1) := by decide +kernel
theorem dX13_applyTwo_139 : decode cX13_applyTwo 139 = .ok (.imul, 1) := by decide +kernel
theorem dX13_applyTwo_140 : decode cX13_applyTwo 140 = .ok (.laload, 1) := by decide +kernel
theorem dX13_applyTwo_141 : decode cX13_applyTwo 141 = .ok (.invokestatic 540, 3) := by decide +kernel
theorem dX13_applyTwo_144 : decode cX13_applyTwo 144 = .ok (.istore 6, 2) := by decide +kernel
theorem dX13_applyTwo_146 : decode cX13_applyTwo 146 = .ok (.aload_n 0, 1) := by decide +kernel
theorem dX13_applyTwo_147 : decode cX13_applyTwo 147 = .ok (.aload_n 0, 1) := by decide +kernel
theorem dX13_applyTwo_148 : decode cX13_applyTwo 148 = .ok (.aload_n 0, 1) := by decide +kernel
theorem dX13_applyTwo_149 : decode cX13_applyTwo 149 = .ok (.getfield 27, 3) := by decide +kernel
theorem dX13_applyTwo_152 : decode cX13_applyTwo 152 = .ok (.iload_n 1, 1) := by decide +kernel
theorem dX13_applyTwo_153 : decode cX13_applyTwo 153 = .ok (.iaload, 1) := by decide +kernel
theorem dX13_applyTwo_154 : decode cX13_applyTwo 154 = .ok (.bipush 61, 2) := by decide +kernel
theorem dX13_applyTwo_156 : decode cX13_applyTwo 156 = .ok (.if_icmp .ne 11, 3) := by decide +kernel
theorem dX13_applyTwo_159 : decode cX13_applyTwo 159 = .ok (.iload 6, 2) := by decide +kernel
theorem dX13_applyTwo_161 : decode cX13_applyTwo 161 = .ok (.ifCond .ne 15, 3) := by decide +kernel
theorem dX13_applyTwo_164 : decode cX13_applyTwo 164 = .ok (.goto 8, 3) := by decide +kernel
theorem dX13_applyTwo_167 : decode cX13_applyTwo 167 = .ok (.iload 6, 2) := by decide +kernel
theorem dX13_applyTwo_169 : decode cX13_applyTwo 169 = .ok (.ifCond .ge 7, 3) := by decide +kernel
theorem dX13_applyTwo_172 : decode cX13_applyTwo 172 = .ok (.lconst 1, 1) := by decide +kernel
theorem dX13_applyTwo_173 : decode cX13_applyTwo 173 = .ok (.goto 4, 3) := by decide +kernel
theorem dX13_applyTwo_176 : decode cX13_applyTwo 176 = .ok (.lconst 0, 1) := by decide +kernel
theorem dX13_applyTwo_177 : decode cX13_applyTwo 177 = .ok (.lconst 1, 1) := by decide +kernel
theorem dX13_applyTwo_178 : decode cX13_applyTwo 178 = .ok (.iload 5, 2) := by decide +kernel
theorem dX13_applyTwo_180 : decode cX13_applyTwo 180 = .ok (.invokevirtual 614, 3) := by decide +kernel
theorem dX13_applyTwo_183 : decode cX13_applyTwo 183 = .ok (.invokevirtual 606, 3) := by decide +kernel
theorem dX13_applyTwo_186 : decode cX13_applyTwo 186 = .ok (.return_, 1) := by decide +kernel
theorem dX13_applyTwo_187 : decode cX13_applyTwo 187 = .ok (.aload_n 0, 1) := by decide +kernel
theorem dX13_applyTwo_188 : decode cX13_applyTwo 188 = .ok (.iload_n 3, 1) := by decide +kernel
theorem dX13_applyTwo_189 : decode cX13_applyTwo 189 = .ok (.iconst 0, 1) := by decide +kernel
theorem dX13_applyTwo_190 : decode cX13_applyTwo 190 = .ok (.invokevirtual 460, 3) := by decide +kernel
theorem dX13_applyTwo_193 : decode cX13_applyTwo 193 = .ok (.aload_n 0, 1) := by decide +kernel
theorem dX13_applyTwo_194 : decode cX13_applyTwo 194 = .ok (.iload_n 2, 1) := by decide +kernel
theorem dX13_applyTwo_195 : decode cX13_applyTwo 195 = .ok (.iconst 0, 1) := by decide +kernel
theorem dX13_applyTwo_196 : decode cX13_applyTwo 196 = .ok (.invokevirtual 460, 3) := by decide +kernel
theorem dX13_applyTwo_199 : decode cX13_applyTwo 199 = .ok (.aload_n 0, 1) := by decide +kernel
theorem dX13_applyTwo_200 : decode cX13_applyTwo 200 = .ok (.getfield 27, 3) := by decide +kernel
theorem dX13_applyTwo_203 : decode cX13_applyTwo 203 = .ok (.iload_n 1, 1) := by decide +kernel
theorem dX13_applyTwo_204 : decode cX13_applyTwo 204 = .ok (.iaload, 1) := by decide +kernel
theorem dX13_applyTwo_205 : decode cX13_applyTwo 205 = .ok (.bipush 43, 2) := by decide +kernel
theorem dX13_applyTwo_207 : decode cX13_applyTwo 207 = .ok (.if_icmp .ne 10, 3) := by decide +kernel
theorem dX13_applyTwo_210 : decode cX13_applyTwo 210 = .ok (.aload_n 0, 1) := by decide +kernel
theorem dX13_applyTwo_211 : decode cX13_applyTwo 211 = .ok (.invokevirtual 478, 3) := by decide +kernel
theorem dX13_applyTwo_214 : decode cX13_applyTwo 214 = .ok (.goto 43, 3) := by decide +kernel
theorem dX13_applyTwo_217 : decode cX13_applyTwo 217 = .ok (.aload_n 0, 1) := by decide +kernel
theorem dX13_applyTwo_218 : decode cX13_applyTwo 218 = .ok (.getfield 27, 3) := by decide +kernel
theorem dX13_applyTwo_221 : decode cX13_applyTwo 221 = .ok (.iload_n 1, 1) := by decide +kernel
theorem dX13_applyTwo_222 : decode cX13_applyTwo 222 = .ok (.iaload, 1) := by decide +kernel
theorem dX13_applyTwo_223 : decode cX13_applyTwo 223 = .ok (.bipush 45, 2) := by decide +kernel
theorem dX13_applyTwo_225 : decode cX13_applyTwo 225 = .ok (.if_icmp .ne 10, 3) := by decide +kernel
theorem dX13_applyTwo_228 : decode cX13_applyTwo 228 = .ok (.aload_n 0, 1) := by decide +kernel
theorem dX13_applyTwo_229 : decode cX13_applyTwo 229 = .ok (.invokevirtual 472, 3) := by decide +kernel
theorem dX13_applyTwo_232 : decode cX13_applyTwo 232 = .ok (.goto 25, 3) := by decide +kernel
theorem dX13_applyTwo_235 : decode cX13_applyTwo 235 = .ok (.aload_n 0, 1) := by decide +kernel
theorem dX13_applyTwo_236 : decode cX13_applyTwo 236 = .ok (.getfield 27, 3) := by decide +kernel
theorem dX13_applyTwo_239 : decode cX13_applyTwo 239 = .ok (.iload_n 1, 1) := by decide +kernel
theorem dX13_applyTwo_240 : decode cX13_applyTwo 240 = .ok (.iaload, 1) := by decide +kernel
theorem dX13_applyTwo_241 : decode cX13_applyTwo 241 = .ok (.bipush 42, 2) := by decide +kernel
theorem dX13_applyTwo_243 : decode cX13_applyTwo 243 = .ok (.if_icmp .ne 10, 3) := by decide +kernel
theorem dX13_applyTwo_246 : decode cX13_applyTwo 246 = .ok (.aload_n 0, 1) := by decide +kernel
theorem dX13_applyTwo_247 : decode cX13_applyTwo 247 = .ok (.invokevirtual 475, 3) := by decide +kernel
theorem dX13_applyTwo_250 : decode cX13_applyTwo 250 = .ok (.goto 7, 3) := by decide +kernel
theorem dX13_applyTwo_253 : decode cX13_applyTwo 253 = .ok (.aload_n 0, 1) := by decide +kernel
theorem dX13_applyTwo_254 : decode cX13_applyTwo 254 = .ok (.invokevirtual 463, 3) := by decide +kernel
theorem dX13_applyTwo_257 : decode cX13_applyTwo 257 = .ok (.aload_n 0, 1) := by decide +kernel
theorem dX13_applyTwo_258 : decode cX13_applyTwo 258 = .ok (.dup, 1) := by decide +kernel
theorem dX13_applyTwo_259 : decode cX13_applyTwo 259 = .ok (.getfield 437, 3) := by decide +kernel
theorem dX13_applyTwo_262 : decode cX13_applyTwo 262 = .ok (.iconst 1, 1) := by decide +kernel
theorem dX13_applyTwo_263 : decode cX13_applyTwo 263 = .ok (.isub, 1) := by decide +kernel
theorem dX13_applyTwo_264 : decode cX13_applyTwo 264 = .ok (.putfield 437, 3) := by decide +kernel
theorem dX13_applyTwo_267 : decode cX13_applyTwo 267 = .ok (.aload_n 0, 1) := by decide +kernel
theorem dX13_applyTwo_268 : decode cX13_applyTwo 268 = .ok (.getfield 434, 3) := by decide +kernel
theorem dX13_applyTwo_271 : decode cX13_applyTwo 271 = .ok (.ifCond .le 15, 3) := by decide +kernel
theorem dX13_applyTwo_274 : decode cX13_applyTwo 274 = .ok (.aload_n 0, 1) := by decide +kernel
theorem dX13_applyTwo_275 : decode cX13_applyTwo 275 = .ok (.aload_n 0, 1) := by decide +kernel
theorem dX13_applyTwo_276 : decode cX13_applyTwo 276 = .ok (.getfield 434, 3) := by decide +kernel
theorem dX13_applyTwo_279 : decode cX13_applyTwo 279 = .ok (.iload_n 1, 1) := by decide +kernel
theorem dX13_applyTwo_280 : decode cX13_applyTwo 280 = .ok (.invokevirtual 627, 3) := by decide +kernel
theorem dX13_applyTwo_283 : decode cX13_applyTwo 283 = .ok (.goto 31, 3) := by decide +kernel
theorem dX13_applyTwo_286 : decode cX13_applyTwo 286 = .ok (.aload_n 0, 1) := by decide +kernel
theorem dX13_applyTwo_287 : decode cX13_applyTwo 287 = .ok (.aload_n 0, 1) := by decide +kernel
theorem dX13_applyTwo_288 : decode cX13_applyTwo 288 = .ok (.aload_n 0, 1) := by decide +kernel
theorem dX13_applyTwo_289 : decode cX13_applyTwo 289 = .ok (.getfield 93, 3) := by decide +kernel
theorem dX13_applyTwo_292 : decode cX13_applyTwo 292 = .ok (.aload_n 0, 1) := by decide +kernel
theorem dX13_applyTwo_293 : decode cX13_applyTwo 293 = .ok (.getfield 437, 3) := by decide +kernel
theorem dX13_applyTwo_296 : decode cX13_applyTwo 296 = .ok (.laload, 1) := by decide +kernel
theorem dX13_applyTwo_297 : decode cX13_applyTwo 297 = .ok (.aload_n 0, 1) := by decide +kernel
theorem dX13_applyTwo_298 : decode cX13_applyTwo 298 = .ok (.getfield 96, 3) := by decide +kernel
theorem dX13_applyTwo_301 : decode cX13_applyTwo 301 = .ok (.aload_n 0, 1) := by decide +kernel
theorem dX13_applyTwo_302 : decode cX13_applyTwo 302 = .ok (.getfield 437, 3) := by decide +kernel
theorem dX13_applyTwo_305 : decode cX13_applyTwo 305 = .ok (.laload, 1) := by decide +kernel
theorem dX13_applyTwo_306 : decode cX13_applyTwo 306 = .ok (.iload 5, 2) := by decide +kernel
theorem dX13_applyTwo_308 : decode cX13_applyTwo 308 = .ok (.invokevirtual 614, 3) := by decide +kernel
theorem dX13_applyTwo_311 : decode cX13_applyTwo 311 = .ok (.invokevirtual 606, 3) := by decide +kernel
theorem dX13_applyTwo_314 : decode cX13_applyTwo 314 = .ok (.return_, 1) := by decide +kernel
theorem dX13_applyMacro_0 : decode cX13_applyMacro 0 = .ok (.aload_n 0, 1) := by decide +kernel
theorem dX13_applyMacro_1 : decode cX13_applyMacro 1 = .ok (.getfield 27, 3) := by decide +kernel
theorem dX13_applyMacro_4 : decode cX13_applyMacro 4 = .ok (.iload_n 1, 1) := by decide +kernel
theorem dX13_applyMacro_5 : decode cX13_applyMacro 5 = .ok (.iaload, 1) := by decide +kernel
theorem dX13_applyMacro_6 : decode cX13_applyMacro 6 = .ok (.bipush 100, 2) := by decide +kernel
theorem dX13_applyMacro_8 : decode cX13_applyMacro 8 = .ok (.isub, 1) := by decide +kernel
theorem dX13_applyMacro_9 : decode cX13_applyMacro 9 = .ok (.istore_n 2, 1) := by decide +kernel
theorem dX13_applyMacro_10 : decode cX13_applyMacro 10 = .ok (.aload_n 0, 1) := by decide +kernel
theorem dX13_applyMacro_11 : decode cX13_applyMacro 11 = .ok (.getfield 565, 3) := by decide +kernel
theorem dX13_applyMacro_14 : decode cX13_applyMacro 14 = .ok (.bipush 8, 2) := by decide +kernel
theorem dX13_applyMacro_16 : decode cX13_applyMacro 16 = .ok (.if_icmp .ne 11, 3) := by decide +kernel
theorem dX13_applyMacro_19 : decode cX13_applyMacro 19 = .ok (.aload_n 0, 1) := by decide +kernel
theorem dX13_applyMacro_20 : decode cX13_applyMacro 20 = .ok (.bipush 9, 2) := by decide +kernel
theorem dX13_applyMacro_22 : decode cX13_applyMacro 22 = .ok (.iload_n 1, 1) := by decide +kernel
theorem dX13_applyMacro_23 : decode cX13_applyMacro 23 = .ok (.invokevirtual 627, 3) := by decide +kernel
theorem dX13_applyMacro_26 : decode cX13_applyMacro 26 = .ok (.return_, 1) := by decide +kernel
theorem dX13_applyMacro_27 : decode cX13_applyMacro 27 = .ok (.aload_n 0, 1) := by decide +kernel
theorem dX13_applyMacro_28 : decode cX13_applyMacro 28 = .ok (.dup, 1) := by decide +kernel
theorem dX13_applyMacro_29 : decode cX13_applyMacro 29 = .ok (.getfield 565, 3) := by decide +kernel
theorem dX13_applyMacro_32 : decode cX13_applyMacro 32 = .ok (.iconst 1, 1) := by decide +kernel
theorem dX13_applyMacro_33 : decode cX13_applyMacro 33 = .ok (.iadd, 1) := by decide +kernel
theorem dX13_applyMacro_34 : decode cX13_applyMacro 34 = .ok (.putfield 565, 3) := by decide +kernel
theorem dX13_applyMacro_37 : decode cX13_applyMacro 37 = .ok (.bipush 20, 2) := by decide +kernel
theorem dX13_applyMacro_39 : decode cX13_applyMacro 39 = .ok (.aload_n 0, 1) := by decide +kernel
theorem dX13_applyMacro_40 : decode cX13_applyMacro 40 = .ok (.getfield 565, 3) := by decide +kernel
theorem dX13_applyMacro_43 : decode cX13_applyMacro 43 = .ok (.imul, 1) := by decide +kernel
theorem dX13_applyMacro_44 : decode cX13_applyMacro 44 = .ok (.istore_n 3, 1) := by decide +kernel
theorem dX13_applyMacro_45 : decode cX13_applyMacro 45 = .ok (.iconst 0, 1) := by decide +kernel
theorem dX13_applyMacro_46 : decode cX13_applyMacro 46 = .ok (.istore 4, 2) := by decide +kernel
theorem dX13_applyMacro_48 : decode cX13_applyMacro 48 = .ok (.iload 4, 2) := by decide +kernel
theorem dX13_applyMacro_50 : decode cX13_applyMacro 50 = .ok (.bipush 20, 2) := by decide +kernel
theorem dX13_applyMacro_52 : decode cX13_applyMacro 52 = .ok (.if_icmp .ge 19, 3) := by decide +kernel
theorem dX13_applyMacro_55 : decode cX13_applyMacro 55 = .ok (.aload_n 0, 1) := by decide +kernel
theorem dX13_applyMacro_56 : decode cX13_applyMacro 56 = .ok (.getfield 147, 3) := by decide +kernel
theorem dX13_applyMacro_59 : decode cX13_applyMacro 59 = .ok (.iload_n 3, 1) := by decide +kernel
theorem dX13_applyMacro_60 : decode cX13_applyMacro 60 = .ok (.iload 4, 2) := by decide +kernel
theorem dX13_applyMacro_62 : decode cX13_applyMacro 62 = .ok (.iadd, 1) := by decide +kernel
theorem dX13_applyMacro_63 : decode cX13_applyMacro 63 = .ok (.iconst (-1), 1) := by decide +kernel
theorem dX13_applyMacro_64 : decode cX13_applyMacro 64 = .ok (.iastore, 1) := by decide +kernel
theorem dX13_applyMacro_65 : decode cX13_applyMacro 65 = .ok (.iinc 4 1, 3) := by decide +kernel
theorem dX13_applyMacro_68 : decode cX13_applyMacro 68 = .ok (.goto (-20), 3) := by decide +kernel
theorem dX13_applyMacro_71 : decode cX13_applyMacro 71 = .ok (.aload_n 0, 1) := by decide +kernel
theorem dX13_applyMacro_72 : decode cX13_applyMacro 72 = .ok (.getfield 55, 3) := by decide +kernel
theorem dX13_applyMacro_75 : decode cX13_applyMacro 75 = .ok (.iload_n 2, 1) := by decide +kernel
theorem dX13_applyMacro_76 : decode cX13_applyMacro 76 = .ok (.iaload, 1) := by decide +kernel
theorem dX13_applyMacro_77 : decode cX13_applyMacro 77 = .ok (.iconst 1, 1) := by decide +kernel
theorem dX13_applyMacro_78 : decode cX13_applyMacro 78 = .ok (.isub, 1) := by decide +kernel
theorem dX13_applyMacro_79 : decode cX13_applyMacro 79 = .ok (.istore 4, 2) := by decide +kernel
theorem dX13_applyMacro_81 : decode cX13_applyMacro 81 = .ok (.iload 4, 2) := by decide +kernel
theorem dX13_applyMacro_83 : decode cX13_applyMacro 83 = .ok (.ifCond .lt 22, 3) := by decide +kernel
theorem dX13_applyMacro_86 : decode cX13_applyMacro 86 = .ok (.aload_n 0, 1) := by decide +kernel
theorem dX13_applyMacro_87 : decode cX13_applyMacro 87 = .ok (.getfield 147, 3) := by decide +kernel
theorem dX13_applyMacro_90 : decode cX13_applyMacro 90 = .ok (.iload_n 3, 1) := by decide +kernel
theorem dX13_applyMacro_91 : decode cX13_applyMacro 91 = .ok (.iload 4, 2) := by decide +kernel
theorem dX13_applyMacro_93 : decode cX13_applyMacro 93 = .ok (.iadd, 1) := by decide +kernel
theorem dX13_applyMacro_94 : decode cX13_applyMacro 94 = .ok (.aload_n 0, 1) := by decide +kernel
theorem dX13_applyMacro_95 : decode cX13_applyMacro 95 = .ok (.invokevirtual 624, 3) := by decide +kernel
theorem dX13_applyMacro_98 : decode cX13_applyMacro 98 = .ok (.iastore, 1) := by decide +kernel
theorem dX13_applyMacro_99 : decode cX13_applyMacro 99 = .ok (.iinc 4 (-1), 3) := by decide +kernel
theorem dX13_applyMacro_102 : decode cX13_applyMacro 102 = .ok (.goto (-21), 3) := by decide +kernel
theorem dX13_applyMacro_105 : decode cX13_applyMacro 105 = .ok (.aload_n 0, 1) := by decide +kernel
theorem dX13_applyMacro_106 : decode cX13_applyMacro 106 = .ok (.iconst 5, 1) := by decide +kernel
theorem dX13_applyMacro_107 : decode cX13_applyMacro 107 = .ok (.iconst 0, 1) := by decide +kernel
theorem dX13_applyMacro_108 : decode cX13_applyMacro 108 = .ok (.lconst 0, 1) := by decide +kernel
theorem dX13_applyMacro_109 : decode cX13_applyMacro 109 = .ok (.invokevirtual 583, 3) := by decide +kernel
theorem dX13_applyMacro_112 : decode cX13_applyMacro 112 = .ok (.aload_n 0, 1) := by decide +kernel
theorem dX13_applyMacro_113 : decode cX13_applyMacro 113 = .ok (.iconst 0, 1) := by decide +kernel
theorem dX13_applyMacro_114 : decode cX13_applyMacro 114 = .ok (.aload_n 0, 1) := by decide +kernel
theorem dX13_applyMacro_115 : decode cX13_applyMacro 115 = .ok (.getfield 58, 3) := by decide +kernel
theorem dX13_applyMacro_118 : decode cX13_applyMacro 118 = .ok (.iload_n 2, 1) := by decide +kernel
theorem dX13_applyMacro_119 : decode cX13_applyMacro 119 = .ok (.iaload, 1) := by decide +kernel
theorem dX13_applyMacro_120 : decode cX13_applyMacro 120 = .ok (.lconst 0, 1) := by decide +kernel
theorem dX13_applyMacro_121 : decode cX13_applyMacro 121 = .ok (.invokevirtual 583, 3) := by decide +kernel
theorem dX13_applyMacro_124 : decode cX13_applyMacro 124 = .ok (.return_, 1) := by decide +kernel
theorem dX13_askedOf_0 : decode cX13_askedOf 0 = .ok (.iload_n 2, 1) := by decide +kernel
theorem dX13_askedOf_1 : decode cX13_askedOf 1 = .ok (.bipush 110, 2) := by decide +kernel
theorem dX13_askedOf_3 : decode cX13_askedOf 3 = .ok (.if_icmp .ne 5, 3) := by decide +kernel
theorem dX13_askedOf_6 : decode cX13_askedOf 6 = .ok (.iconst 0, 1) := by decide +kernel
theorem dX13_askedOf_7 : decode cX13_askedOf 7 = .ok (.ireturn, 1) := by decide +kernel
theorem dX13_askedOf_8 : decode cX13_askedOf 8 = .ok (.iload_n 1, 1) := by decide +kernel
theorem dX13_askedOf_9 : decode cX13_askedOf 9 = .ok (.ifCond .ge 5, 3) := by decide +kernel
theorem dX13_askedOf_12 : decode cX13_askedOf 12 = .ok (.iconst 1, 1) := by decide +kernel
theorem dX13_askedOf_13 : decode cX13_askedOf 13 = .ok (.ireturn, 1) := by decide +kernel
theorem dX13_askedOf_14 : decode cX13_askedOf 14 = .ok (.aload_n 0, 1) := by decide +kernel
theorem dX13_askedOf_15 : decode cX13_askedOf 15 = .ok (.getfield 99, 3) := by decide +kernel
theorem dX13_askedOf_18 : decode cX13_askedOf 18 = .ok (.iload_n 1, 1) := by decide +kernel
theorem dX13_askedOf_19 : decode cX13_askedOf 19 = .ok (.iaload, 1) := by decide +kernel
theorem dX13_askedOf_20 : decode cX13_askedOf 20 = .ok (.istore_n 3, 1) := by decide +kernel
theorem dX13_askedOf_21 : decode cX13_askedOf 21 = .ok (.iload_n 2, 1) := by decide +kernel
theorem dX13_askedOf_22 : decode cX13_askedOf 22 = .ok (.bipush 119, 2) := by decide +kernel
theorem dX13_askedOf_24 : decode cX13_askedOf 24 = .ok (.if_icmp .eq 87, 3) := by decide +kernel
theorem dX13_askedOf_27 : decode cX13_askedOf 27 = .ok (.iload_n 2, 1) := by decide +kernel
theorem dX13_askedOf_28 : decode cX13_askedOf 28 = .ok (.bipush 117, 2) := by decide +kernel
theorem dX13_askedOf_30 : decode cX13_askedOf 30 = .ok (.if_icmp .ne 7, 3) := by decide +kernel
theorem dX13_askedOf_33 : decode cX13_askedOf 33 = .ok (.iload_n 3, 1) := by decide +kernel
theorem dX13_askedOf_34 : decode cX13_askedOf 34 = .ok (.ifCond .eq 77, 3) := by decide +kernel
theorem dX13_askedOf_37 : decode cX13_askedOf 37 = .ok (.iload_n 2, 1) := by decide +kernel
theorem dX13_askedOf_38 : decode cX13_askedOf 38 = .ok (.bipush 107, 2) := by decide +kernel
theorem dX13_askedOf_40 : decode cX13_askedOf 40 = .ok (.if_icmp .ne 11, 3) := by decide +kernel
theorem dX13_askedOf_43 : decode cX13_askedOf 43 = .ok (.aload_n 0, 1) := by decide +kernel
theorem dX13_askedOf_44 : decode cX13_askedOf 44 = .ok (.iload_n 1, 1) := by decide +kernel
theorem dX13_askedOf_45 : decode cX13_askedOf 45 = .ok (.invokevirtual 639, 3) := by decide +kernel
theorem dX13_askedOf_48 : decode cX13_askedOf 48 = .ok (.ifCond .ne 63, 3) := by decide +kernel
theorem dX13_askedOf_51 : decode cX13_askedOf 51 = .ok (.iload_n 2, 1) := by decide +kernel
theorem dX13_askedOf_52 : decode cX13_askedOf 52 = .ok (.bipush 112, 2) := by decide +kernel
theorem dX13_askedOf_54 : decode cX13_askedOf 54 = .ok (.if_icmp .ne 10, 3) := by decide +kernel
theorem dX13_askedOf_57 : decode cX13_askedOf 57 = .ok (.iload_n 3, 1) := by decide +kernel
theorem dX13_askedOf_58 : decode cX13_askedOf 58 = .ok (.invokestatic 642, 3) := by decide +kernel
theorem dX13_askedOf_61 : decode cX13_askedOf 61 = .ok (.ifCond .ne 50, 3) := by decide +kernel
theorem dX13_askedOf_64 : decode cX13_askedOf 64 = .ok (.iload_n 2, 1) := by decide +kernel
theorem dX13_askedOf_65 : decode cX13_askedOf 65 = .ok (.bipush 108, 2) := by decide +kernel
theorem dX13_askedOf_67 : decode cX13_askedOf 67 = .ok (.if_icmp .ne 10, 3) := by decide +kernel
theorem dX13_askedOf_70 : decode cX13_askedOf 70 = .ok (.iload_n 3, 1) := by decide +kernel
theorem dX13_askedOf_71 : decode cX13_askedOf 71 = .ok (.invokestatic 645, 3) := by decide +kernel
theorem dX13_askedOf_74 : decode cX13_askedOf 74 = .ok (.ifCond .ne 37, 3) := by decide +kernel
theorem dX13_askedOf_77 : decode cX13_askedOf 77 = .ok (.iload_n 2, 1) := by decide +kernel
theorem dX13_askedOf_78 : decode cX13_askedOf 78 = .ok (.bipush 115, 2) := by decide +kernel
theorem dX13_askedOf_80 : decode cX13_askedOf 80 = .ok (.if_icmp .ne 8, 3) := by decide +kernel
theorem dX13_askedOf_83 : decode cX13_askedOf 83 = .ok (.iload_n 3, 1) := by decide +kernel
theorem dX13_askedOf_84 : decode cX13_askedOf 84 = .ok (.iconst 4, 1) := by decide +kernel
theorem dX13_askedOf_85 : decode cX13_askedOf 85 = .ok (.if_icmp .eq 26, 3) := by decide +kernel
theorem dX13_askedOf_88 : decode cX13_askedOf 88 = .ok (.iload_n 2, 1) := by decide +kernel
theorem dX13_askedOf_89 : decode cX13_askedOf 89 = .ok (.bipush 100, 2) := by decide +kernel
theorem dX13_askedOf_91 : decode cX13_askedOf 91 = .ok (.if_icmp .ne 8, 3) := by decide +kernel
theorem dX13_askedOf_94 : decode cX13_askedOf 94 = .ok (.iload_n 3, 1) := by decide +kernel
theorem dX13_askedOf_95 : decode cX13_askedOf 95 = .ok (.iconst 5, 1) := by decide +kernel
theorem dX13_askedOf_96 : decode cX13_askedOf 96 = .ok (.if_icmp .eq 15, 3) := by decide +kernel
theorem dX13_askedOf_99 : decode cX13_askedOf 99 = .ok (.iload_n 2, 1) := by decide +kernel
theorem dX13_askedOf_100 : decode cX13_askedOf 100 = .ok (.bipush 114, 2) := by decide +kernel
theorem dX13_askedOf_102 : decode cX13_askedOf 102 = .ok (.if_icmp .ne 13, 3) := by decide +kernel
theorem dX13_askedOf_105 : decode cX13_askedOf 105 = .ok (.iload_n 3, 1) := by decide +kernel
theorem dX13_askedOf_106 : decode cX13_askedOf 106 = .ok (.bipush 6, 2) := by decide +kernel
theorem dX13_askedOf_108 : decode cX13_askedOf 108 = .ok (.if_icmp .ne 7, 3) := by decide +kernel
theorem dX13_askedOf_111 : decode cX13_askedOf 111 = .ok (.iconst 1, 1) := by decide +kernel
theorem dX13_askedOf_112 : decode cX13_askedOf 112 = .ok (.goto 4, 3) := by decide +kernel
theorem dX13_askedOf_115 : decode cX13_askedOf 115 = .ok (.iconst 0, 1) := by decide +kernel
theorem dX13_askedOf_116 : decode cX13_askedOf 116 = .ok (.istore 4, 2) := by decide +kernel
theorem dX13_askedOf_118 : decode cX13_askedOf 118 = .ok (.iload 4, 2) := by decide +kernel
theorem dX13_askedOf_120 : decode cX13_askedOf 120 = .ok (.ifCond .eq 7, 3) := by decide +kernel
theorem dX13_askedOf_123 : decode cX13_askedOf 123 = .ok (.iconst 0, 1) := by decide +kernel
theorem dX13_askedOf_124 : decode cX13_askedOf 124 = .ok (.goto 4, 3) := by decide +kernel
theorem dX13_askedOf_127 : decode cX13_askedOf 127 = .ok (.iconst 2, 1) := by decide +kernel
theorem dX13_askedOf_128 : decode cX13_askedOf 128 = .ok (.ireturn, 1) := by decide +kernel
theorem dX13_applyTool_0 : decode cX13_applyTool 0 = .ok (.aload_n 0, 1) := by decide +kernel
theorem dX13_applyTool_1 : decode cX13_applyTool 1 = .ok (.getfield 27, 3) := by decide +kernel
theorem dX13_applyTool_4 : decode cX13_applyTool 4 = .ok (.iload_n 1, 1) := by decide +kernel
theorem dX13_applyTool_5 : decode cX13_applyTool 5 = .ok (.iaload, 1) := by decide +kernel
theorem dX13_applyTool_6 : decode cX13_applyTool 6 = .ok (.istore_n 2, 1) := by decide +kernel
theorem dX13_applyTool_7 : decode cX13_applyTool 7 = .ok (.iload_n 2, 1) := by decide +kernel
theorem dX13_applyTool_8 : decode cX13_applyTool 8 = .ok (.invokestatic 425, 3) := by decide +kernel
theorem dX13_applyTool_11 : decode cX13_applyTool 11 = .ok (.istore_n 3, 1) := by decide +kernel
theorem dX13_applyTool_12 : decode cX13_applyTool 12 = .ok (.iload_n 3, 1) := by decide +kernel
theorem dX13_applyTool_13 : decode cX13_applyTool 13 = .ok (.iconst 2, 1) := by decide +kernel
theorem dX13_applyTool_14 : decode cX13_applyTool 14 = .ok (.if_icmp .le 10, 3) := by decide +kernel
theorem dX13_applyTool_17 : decode cX13_applyTool 17 = .ok (.aload_n 0, 1) := by decide +kernel
theorem dX13_applyTool_18 : decode cX13_applyTool 18 = .ok (.invokevirtual 624, 3) := by decide +kernel
theorem dX13_applyTool_21 : decode cX13_applyTool 21 = .ok (.goto 4, 3) := by decide +kernel
theorem dX13_applyTool_24 : decode cX13_applyTool 24 = .ok (.iconst (-1), 1) := by decide +kernel
theorem dX13_applyTool_25 : decode cX13_applyTool 25 = .ok (.istore 4, 2) := by decide +kernel
theorem dX13_applyTool_27 : decode cX13_applyTool 27 = .ok (.iload_n 3, 1) := by decide +kernel
theorem dX13_applyTool_28 : decode cX13_applyTool 28 = .ok (.iconst 1, 1) := by decide +kernel
theorem dX13_applyTool_29 : decode cX13_applyTool 29 = .ok (.if_icmp .le 10, 3) := by decide +kernel
theorem dX13_applyTool_32 : decode cX13_applyTool 32 = .ok (.aload_n 0, 1) := by decide +kernel
theorem dX13_applyTool_33 : decode cX13_applyTool 33 = .ok (.invokevirtual 624, 3) := by decide +kernel
theorem dX13_applyTool_36 : decode cX13_applyTool 36 = .ok (.goto 4, 3) := by decide +kernel
theorem dX13_applyTool_39 : decode cX13_applyTool 39 = .ok (.iconst (-1), 1) := by decide +kernel
theorem dX13_applyTool_40 : decode cX13_applyTool 40 = .ok (.istore 5, 2) := by decide +kernel
theorem dX13_applyTool_42 : decode cX13_applyTool 42 = .ok (.aload_n 0, 1) := by decide +kernel
theorem dX13_applyTool_43 : decode cX13_applyTool 43 = .ok (.invokevirtual 624, 3) := by decide +kernel
theorem dX13_applyTool_46 : decode cX13_applyTool 46 = .ok (.istore 6, 2) := by decide +kernel
theorem dX13_applyTool_48 : decode cX13_applyTool 48 = .ok (.aload_n 0, 1) := by decide +kernel
theorem dX13_applyTool_49 : decode cX13_applyTool 49 = .ok (.getfield 20, 3) := by decide +kernel
theorem dX13_applyTool_52 : decode cX13_applyTool 52 = .ok (.iload_n 2, 1) := by decide +kernel
theorem dX13_applyTool_53 : decode cX13_applyTool 53 = .ok (.invokestatic 648, 3) := by decide +kernel
theorem dX13_applyTool_56 : decode cX13_applyTool 56 = .ok (.istore 7, 2) := by decide +kernel
theorem dX13_applyTool_58 : decode cX13_applyTool 58 = .ok (.aload_n 0, 1) := by decide +kernel
theorem dX13_applyTool_59 : decode cX13_applyTool 59 = .ok (.iload 6, 2) := by decide +kernel
theorem dX13_applyTool_61 : decode cX13_applyTool 61 = .ok (.aload_n 0, 1) := by decide +kernel
theorem dX13_applyTool_62 : decode cX13_applyTool 62 = .ok (.getfield 20, 3) := by decide +kernel
theorem dX13_applyTool_65 : decode cX13_applyTool 65 = .ok (.iload 7, 2) := by decide +kernel
theorem dX13_applyTool_67 : decode cX13_applyTool 67 = .ok (.caload, 1) := by decide +kernel
theorem dX13_applyTool_68 : decode cX13_applyTool 68 = .ok (.invokevirtual 652, 3) := by decide +kernel
theorem dX13_applyTool_71 : decode cX13_applyTool 71 = .ok (.istore 8, 2) := by decide +kernel
theorem dX13_applyTool_73 : decode cX13_applyTool 73 = .ok (.iload 8, 2) := by decide +kernel
theorem dX13_applyTool_75 : decode cX13_applyTool 75 = .ok (.ifCond .ne 26, 3) := by decide +kernel
theorem dX13_applyTool_78 : decode cX13_applyTool 78 = .ok (.iload_n 3, 1) := by decide +kernel
theorem dX13_applyTool_79 : decode cX13_applyTool 79 = .ok (.iconst 1, 1) := by decide +kernel
theorem dX13_applyTool_80 : decode cX13_applyTool 80 = .ok (.if_icmp .le 21, 3) := by decide +kernel
theorem dX13_applyTool_83 : decode cX13_applyTool 83 = .ok (.aload_n 0, 1) := by decide +kernel
theorem dX13_applyTool_84 : decode cX13_applyTool 84 = .ok (.iload 5, 2) := by decide +kernel
theorem dX13_applyTool_86 : decode cX13_applyTool 86 = .ok (.aload_n 0, 1) := by decide +kernel
theorem dX13_applyTool_87 : decode cX13_applyTool 87 = .ok (.getfield 20, 3) := by decide +kernel
theorem dX13_applyTool_90 : decode cX13_applyTool 90 = .ok (.iload 7, 2) := by decide +kernel
theorem dX13_applyTool_92 : decode cX13_applyTool 92 = .ok (.iconst 1, 1) := by decide +kernel
theorem dX13_applyTool_93 : decode cX13_applyTool 93 = .ok (.iadd, 1) := by decide +kernel
theorem dX13_applyTool_94 : decode cX13_applyTool 94 = .ok (.caload, 1) := by decide +kernel
theorem dX13_applyTool_95 : decode cX13_applyTool 95 = .ok (.invokevirtual 652, 3) := by decide +kernel
theorem dX13_applyTool_98 : decode cX13_applyTool 98 = .ok (.goto 5, 3) := by decide +kernel
theorem dX13_applyTool_101 : decode cX13_applyTool 101 = .ok (.iload 8, 2) := by decide +kernel
theorem dX13_applyTool_103 : decode cX13_applyTool 103 = .ok (.istore 8, 2) := by decide +kernel
theorem dX13_applyTool_105 : decode cX13_applyTool 105 = .ok (.iload 8, 2) := by decide +kernel
theorem dX13_applyTool_107 : decode cX13_applyTool 107 = .ok (.ifCond .ne 26, 3) := by decide +kernel
theorem dX13_applyTool_110 : decode cX13_applyTool 110 = .ok (.iload_n 3, 1) := by decide +kernel
theorem dX13_applyTool_111 : decode cX13_applyTool 111 = .ok (.iconst 2, 1) := by decide +kernel
theorem dX13_applyTool_112 : decode cX13_applyTool 112 = .ok (.if_icmp .le 21, 3) := by decide +kernel
theorem dX13_applyTool_115 : decode cX13_applyTool 115 = .ok (.aload_n 0, 1) := by decide +kernel
theorem dX13_applyTool_116 : decode cX13_applyTool 116 = .ok (.iload 4, 2) := by decide +kernel
theorem dX13_applyTool_118 : decode cX13_applyTool 118 = .ok (.aload_n 0, 1) := by decide +kernel
theorem dX13_applyTool_119 : decode cX13_applyTool 119 = .ok (.getfield 20, 3) := by decide +kernel
theorem dX13_applyTool_122 : decode cX13_applyTool 122 = .ok (.iload 7, 2) := by decide +kernel
theorem dX13_applyTool_124 : decode cX13_applyTool 124 = .ok (.iconst 2, 1) := by decide +kernel
theorem dX13_applyTool_125 : decode cX13_applyTool 125 = .ok (.iadd, 1) := by decide +kernel
theorem dX13_applyTool_126 : decode cX13_applyTool 126 = .ok (.caload, 1) := by decide +kernel
theorem dX13_applyTool_127 : decode cX13_applyTool 127 = .ok (.invokevirtual 652, 3) := by decide +kernel
theorem dX13_applyTool_130 : decode cX13_applyTool 130 = .ok (.goto 5, 3) := by decide +kernel
theorem dX13_applyTool_133 : decode cX13_applyTool 133 = .ok (.iload 8, 2) := by decide +kernel
theorem dX13_applyTool_135 : decode cX13_applyTool 135 = .ok (.istore 8, 2) := by decide +kernel
theorem dX13_applyTool_137 : decode cX13_applyTool 137 = .ok (.iload 8, 2) := by decide +kernel
theorem dX13_applyTool_139 : decode cX13_applyTool 139 = .ok (.ifCond .le 11, 3) := by decide +kernel
theorem dX13_applyTool_142 : decode cX13_applyTool 142 = .ok (.aload_n 0, 1) := by decide +kernel
theorem dX13_applyTool_143 : decode cX13_applyTool 143 = .ok (.iload 8, 2) := by decide +kernel
theorem dX13_applyTool_145 : decode cX13_applyTool 145 = .ok (.iload_n 1, 1) := by decide +kernel
theorem dX13_applyTool_146 : decode cX13_applyTool 146 = .ok (.invokevirtual 627, 3) := by decide +kernel
theorem dX13_applyTool_149 : decode cX13_applyTool 149 = .ok (.return_, 1) := by decide +kernel
theorem dX13_applyTool_150 : decode cX13_applyTool 150 = .ok (.iload 6, 2) := by decide +kernel
theorem dX13_applyTool_152 : decode cX13_applyTool 152 = .ok (.ifCond .ge 7, 3) := by decide +kernel
theorem dX13_applyTool_155 : decode cX13_applyTool 155 = .ok (.iconst 0, 1) := by decide +kernel
theorem dX13_applyTool_156 : decode cX13_applyTool 156 = .ok (.goto 10, 3) := by decide +kernel
theorem dX13_applyTool_159 : decode cX13_applyTool 159 = .ok (.aload_n 0, 1) := by decide +kernel
theorem dX13_applyTool_160 : decode cX13_applyTool 160 = .ok (.getfield 102, 3) := by decide +kernel
theorem dX13_applyTool_163 : decode cX13_applyTool 163 = .ok (.iload 6, 2) := by decide +kernel
theorem dX13_applyTool_165 : decode cX13_applyTool 165 = .ok (.iaload, 1) := by decide +kernel
theorem dX13_applyTool_166 : decode cX13_applyTool 166 = .ok (.iload 5, 2) := by decide +kernel
theorem dX13_applyTool_168 : decode cX13_applyTool 168 = .ok (.ifCond .ge 7, 3) := by decide +kernel
theorem dX13_applyTool_171 : decode cX13_applyTool 171 = .ok (.iconst 0, 1) := by decide +kernel
theorem dX13_applyTool_172 : decode cX13_applyTool 172 = .ok (.goto 10, 3) := by decide +kernel
theorem dX13_applyTool_175 : decode cX13_applyTool 175 = .ok (.aload_n 0, 1) := by decide +kernel
theorem dX13_applyTool_176 : decode cX13_applyTool 176 = .ok (.getfield 102, 3) := by decide +kernel
theorem dX13_applyTool_179 : decode cX13_applyTool 179 = .ok (.iload 5, 2) := by decide +kernel
theorem dX13_applyTool_181 : decode cX13_applyTool 181 = .ok (.iaload, 1) := by decide +kernel
theorem dX13_applyTool_182 : decode cX13_applyTool 182 = .ok (.ior, 1) := by decide +kernel
theorem dX13_applyTool_183 : decode cX13_applyTool 183 = .ok (.iload 4, 2) := by decide +kernel
theorem dX13_applyTool_185 : decode cX13_applyTool 185 = .ok (.ifCond .ge 7, 3) := by decide +kernel
theorem dX13_applyTool_188 : decode cX13_applyTool 188 = .ok (.iconst 0, 1) := by decide +kernel
theorem dX13_applyTool_189 : decode cX13_applyTool 189 = .ok (.goto 10, 3) := by decide +kernel
theorem dX13_applyTool_192 : decode cX13_applyTool 192 = .ok (.aload_n 0, 1) := by decide +kernel
theorem dX13_applyTool_193 : decode cX13_applyTool 193 = .ok (.getfield 102, 3) := by decide +kernel
theorem dX13_applyTool_196 : decode cX13_applyTool 196 = .ok (.iload 4, 2) := by decide +kernel
theorem dX13_applyTool_198 : decode cX13_applyTool 198 = .ok (.iaload, 1) := by decide +kernel
theorem dX13_applyTool_199 : decode cX13_applyTool 199 = .ok (.ior, 1) := by decide +kernel
theorem dX13_applyTool_200 : decode cX13_applyTool 200 = .ok (.istore 9, 2) := by decide +kernel
theorem dX13_applyTool_202 : decode cX13_applyTool 202 = .ok (.aload_n 0, 1) := by decide +kernel
theorem dX13_applyTool_203 : decode cX13_applyTool 203 = .ok (.getfield 457, 3) := by decide +kernel
theorem dX13_applyTool_206 : decode cX13_applyTool 206 = .ok (.istore 10, 2) := by decide +kernel
theorem dX13_applyTool_208 : decode cX13_applyTool 208 = .ok (.aload_n 0, 1) := by decide +kernel
theorem dX13_applyTool_209 : decode cX13_applyTool 209 = .ok (.iconst 0, 1) := by decide +kernel
theorem dX13_applyTool_210 : decode cX13_applyTool 210 = .ok (.putfield 437, 3) := by decide +kernel
theorem dX13_applyTool_213 : decode cX13_applyTool 213 = .ok (.iload_n 2, 1) := by decide +kernel
theorem dX13_applyTool_214 : decode cX13_applyTool 214 = .ok (.bipush 13, 2) := by decide +kernel
theorem dX13_applyTool_216 : decode cX13_applyTool 216 = .ok (.if_icmp .ge 13, 3) := by decide +kernel
theorem dX13_applyTool_219 : decode cX13_applyTool 219 = .ok (.aload_n 0, 1) := by decide +kernel
theorem dX13_applyTool_220 : decode cX13_applyTool 220 = .ok (.iload_n 2, 1) := by decide +kernel
theorem dX13_applyTool_221 : decode cX13_applyTool 221 = .ok (.iload 6, 2) := by decide +kernel
theorem dX13_applyTool_223 : decode cX13_applyTool 223 = .ok (.invokevirtual 655, 3) := by decide +kernel
theorem dX13_applyTool_226 : decode cX13_applyTool 226 = .ok (.goto 38, 3) := by decide +kernel
theorem dX13_applyTool_229 : decode cX13_applyTool 229 = .ok (.iload_n 2, 1) := by decide +kernel
theorem dX13_applyTool_230 : decode cX13_applyTool 230 = .ok (.bipush 35, 2) := by decide +kernel
theorem dX13_applyTool_232 : decode cX13_applyTool 232 = .ok (.if_icmp .ge 18, 3) := by decide +kernel
theorem dX13_applyTool_235 : decode cX13_applyTool 235 = .ok (.aload_n 0, 1) := by decide +kernel
theorem dX13_applyTool_236 : decode cX13_applyTool 236 = .ok (.iload_n 2, 1) := by decide +kernel
theorem dX13_applyTool_237 : decode cX13_applyTool 237 = .ok (.bipush 13, 2) := by decide +kernel
theorem dX13_applyTool_239 : decode cX13_applyTool 239 = .ok (.isub, 1) := by decide +kernel
theorem dX13_applyTool_240 : decode cX13_applyTool 240 = .ok (.iload 6, 2) := by decide +kernel
theorem dX13_applyTool_242 : decode cX13_applyTool 242 = .ok (.iload 5, 2) := by decide +kernel
theorem dX13_applyTool_244 : decode cX13_applyTool 244 = .ok (.invokevirtual 658, 3) := by decide +kernel
theorem dX13_applyTool_247 : decode cX13_applyTool 247 = .ok (.goto 17, 3) := by decide +kernel
theorem dX13_applyTool_250 : decode cX13_applyTool 250 = .ok (.aload_n 0, 1) := by decide +kernel
theorem dX13_applyTool_251 : decode cX13_applyTool 251 = .ok (.iload_n 2, 1) := by decide +kernel
theorem dX13_applyTool_252 : decode cX13_applyTool 252 = .ok (.bipush 35, 2) := by decide +kernel
theorem dX13_applyTool_254 : decode cX13_applyTool 254 = .ok (.isub, 1) := by decide +kernel
theorem dX13_applyTool_255 : decode cX13_applyTool 255 = .ok (.iload 6, 2) := by decide +kernel
theorem dX13_applyTool_257 : decode cX13_applyTool 257 = .ok (.iload 5, 2) := by decide +kernel
theorem dX13_applyTool_259 : decode cX13_applyTool 259 = .ok (.iload 4, 2) := by decide +kernel
theorem dX13_applyTool_261 : decode cX13_applyTool 261 = .ok (.invokevirtual 661, 3) := by decide +kernel
theorem dX13_applyTool_264 : decode cX13_applyTool 264 = .ok (.istore 11, 2) := by decide +kernel
theorem dX13_applyTool_266 : decode cX13_applyTool 266 = .ok (.aload_n 0, 1) := by decide +kernel
theorem dX13_applyTool_267 : decode cX13_applyTool 267 = .ok (.getfield 434, 3) := by decide +kernel
theorem dX13_applyTool_270 : decode cX13_applyTool 270 = .ok (.ifCond .le 19, 3) := by decide +kernel
theorem dX13_applyTool_273 : decode cX13_applyTool 273 = .ok (.aload_n 0, 1) := by decide +kernel
theorem dX13_applyTool_274 : decode cX13_applyTool 274 = .ok (.iload 10, 2) := by decide +kernel
theorem dX13_applyTool_276 : decode cX13_applyTool 276 = .ok (.putfield 457, 3) := by decide +kernel
theorem dX13_applyTool_279 : decode cX13_applyTool 279 = .ok (.aload_n 0, 1) := by decide +kernel
theorem dX13_applyTool_280 : decode cX13_applyTool 280 = .ok (.aload_n 0, 1) := by decide +kernel
theorem dX13_applyTool_281 : decode cX13_applyTool 281 = .ok (.getfield 434, 3) := by decide +kernel
theorem dX13_applyTool_284 : decode cX13_applyTool 284 = .ok (.iload_n 1, 1) := by decide +kernel
theorem dX13_applyTool_285 : decode cX13_applyTool 285 = .ok (.invokevirtual 627, 3) := by decide +kernel
theorem dX13_applyTool_288 : decode cX13_applyTool 288 = .ok (.return_, 1) := by decide +kernel
theorem dX13_applyTool_289 : decode cX13_applyTool 289 = .ok (.aload_n 0, 1) := by decide +kernel
theorem dX13_applyTool_290 : decode cX13_applyTool 290 = .ok (.getfield 99, 3) := by decide +kernel
theorem dX13_applyTool_293 : decode cX13_applyTool 293 = .ok (.iload 10, 2) := by decide +kernel
theorem dX13_applyTool_295 : decode cX13_applyTool 295 = .ok (.aload_n 0, 1) := by decide +kernel
theorem dX13_applyTool_296 : decode cX13_applyTool 296 = .ok (.getfield 99, 3) := by decide +kernel
theorem dX13_applyTool_299 : decode cX13_applyTool 299 = .ok (.iload 11, 2) := by decide +kernel
theorem dX13_applyTool_301 : decode cX13_applyTool 301 = .ok (.iaload, 1) := by decide +kernel
theorem dX13_applyTool_302 : decode cX13_applyTool 302 = .ok (.iastore, 1) := by decide +kernel
theorem dX13_applyTool_303 : decode cX13_applyTool 303 = .ok (.aload_n 0, 1) := by decide +kernel
theorem dX13_applyTool_304 : decode cX13_applyTool 304 = .ok (.getfield 105, 3) := by decide +kernel
theorem dX13_applyTool_307 : decode cX13_applyTool 307 = .ok (.iload 10, 2) := by decide +kernel
theorem dX13_applyTool_309 : decode cX13_applyTool 309 = .ok (.aload_n 0, 1) := by decide +kernel
theorem dX13_applyTool_310 : decode cX13_applyTool 310 = .ok (.getfield 105, 3) := by decide +kernel
theorem dX13_applyTool_313 : decode cX13_applyTool 313 = .ok (.iload 11, 2) := by decide +kernel
theorem dX13_applyTool_315 : decode cX13_applyTool 315 = .ok (.iaload, 1) := by decide +kernel
theorem dX13_applyTool_316 : decode cX13_applyTool 316 = .ok (.iastore, 1) := by decide +kernel
theorem dX13_applyTool_317 : decode cX13_applyTool 317 = .ok (.iconst 0, 1) := by decide +kernel
theorem dX13_applyTool_318 : decode cX13_applyTool 318 = .ok (.istore 12, 2) := by decide +kernel
theorem dX13_applyTool_320 : decode cX13_applyTool 320 = .ok (.iload 12, 2) := by decide +kernel
theorem dX13_applyTool_322 : decode cX13_applyTool 322 = .ok (.bipush 7, 2) := by decide +kernel
theorem dX13_applyTool_324 : decode cX13_applyTool 324 = .ok (.if_icmp .ge 61, 3) := by decide +kernel
theorem dX13_applyTool_327 : decode cX13_applyTool 327 = .ok (.aload_n 0, 1) := by decide +kernel
theorem dX13_applyTool_328 : decode cX13_applyTool 328 = .ok (.getfield 108, 3) := by decide +kernel
theorem dX13_applyTool_331 : decode cX13_applyTool 331 = .ok (.bipush 7, 2) := by decide +kernel
theorem dX13_applyTool_333 : decode cX13_applyTool 333 = .ok (.iload 10, 2) := by decide +kernel
theorem dX13_applyTool_335 : decode cX13_applyTool 335 = .ok (.imul, 1) := by decide +kernel
theorem dX13_applyTool_336 : decode cX13_applyTool 336 = .ok (.iload 12, 2) := by decide +kernel
theorem dX13_applyTool_338 : decode cX13_applyTool 338 = .ok (.iadd, 1) := by decide +kernel
theorem dX13_applyTool_339 : decode cX13_applyTool 339 = .ok (.aload_n 0, 1) := by decide +kernel
theorem dX13_applyTool_340 : decode cX13_applyTool 340 = .ok (.getfield 108, 3) := by decide +kernel
theorem dX13_applyTool_343 : decode cX13_applyTool 343 = .ok (.bipush 7, 2) := by decide +kernel
theorem dX13_applyTool_345 : decode cX13_applyTool 345 = .ok (.iload 11, 2) := by decide +kernel
theorem dX13_applyTool_347 : decode cX13_applyTool 347 = .ok (.imul, 1) := by decide +kernel
theorem dX13_applyTool_348 : decode cX13_applyTool 348 = .ok (.iload 12, 2) := by decide +kernel
theorem dX13_applyTool_350 : decode cX13_applyTool 350 = .ok (.iadd, 1) := by decide +kernel
theorem dX13_applyTool_351 : decode cX13_applyTool 351 = .ok (.laload, 1) := by decide +kernel
theorem dX13_applyTool_352 : decode cX13_applyTool 352 = .ok (.lastore, 1) := by decide +kernel
theorem dX13_applyTool_353 : decode cX13_applyTool 353 = .ok (.aload_n 0, 1) := by decide +kernel
theorem dX13_applyTool_354 : decode cX13_applyTool 354 = .ok (.getfield 111, 3) := by decide +kernel
theorem dX13_applyTool_357 : decode cX13_applyTool 357 = .ok (.bipush 7, 2) := by decide +kernel
theorem dX13_applyTool_359 : decode cX13_applyTool 359 = .ok (.iload 10, 2) := by decide +kernel
theorem dX13_applyTool_361 : decode cX13_applyTool 361 = .ok (.imul, 1) := by decide +kernel
theorem dX13_applyTool_362 : decode cX13_applyTool 362 = .ok (.iload 12, 2) := by decide +kernel
theorem dX13_applyTool_364 : decode cX13_applyTool 364 = .ok (.iadd, 1) := by decide +kernel
theorem dX13_applyTool_365 : decode cX13_applyTool 365 = .ok (.aload_n 0, 1) := by decide +kernel
theorem dX13_applyTool_366 : decode cX13_applyTool 366 = .ok (.getfield 111, 3) := by decide +kernel
theorem dX13_applyTool_369 : decode cX13_applyTool 369 = .ok (.bipush 7, 2) := by decide +kernel
theorem dX13_applyTool_371 : decode cX13_applyTool 371 = .ok (.iload 11, 2) := by decide +kernel
theorem dX13_applyTool_373 : decode cX13_applyTool 373 = .ok (.imul, 1) := by decide +kernel
theorem dX13_applyTool_374 : decode cX13_applyTool 374 = .ok (.iload 12, 2) := by decide +kernel
theorem dX13_applyTool_376 : decode cX13_applyTool 376 = .ok (.iadd, 1) := by decide +kernel
theorem dX13_applyTool_377 : decode cX13_applyTool 377 = .ok (.laload, 1) := by decide +kernel
theorem dX13_applyTool_378 : decode cX13_applyTool 378 = .ok (.lastore, 1) := by decide +kernel
theorem dX13_applyTool_379 : decode cX13_applyTool 379 = .ok (.iinc 12 1, 3) := by decide +kernel
theorem dX13_applyTool_382 : decode cX13_applyTool 382 = .ok (.goto (-62), 3) := by decide +kernel
theorem dX13_applyTool_385 : decode cX13_applyTool 385 = .ok (.aload_n 0, 1) := by decide +kernel
theorem dX13_applyTool_386 : decode cX13_applyTool 386 = .ok (.iload 10, 2) := by decide +kernel
theorem dX13_applyTool_388 : decode cX13_applyTool 388 = .ok (.iconst 1, 1) := by decide +kernel
theorem dX13_applyTool_389 : decode cX13_applyTool 389 = .ok (.iadd, 1) := by decide +kernel
theorem dX13_applyTool_390 : decode cX13_applyTool 390 = .ok (.putfield 457, 3) := by decide +kernel
theorem dX13_applyTool_393 : decode cX13_applyTool 393 = .ok (.aload_n 0, 1) := by decide +kernel
theorem dX13_applyTool_394 : decode cX13_applyTool 394 = .ok (.getfield 102, 3) := by decide +kernel
theorem dX13_applyTool_397 : decode cX13_applyTool 397 = .ok (.iload 10, 2) := by decide +kernel
theorem dX13_applyTool_399 : decode cX13_applyTool 399 = .ok (.iload_n 2, 1) := by decide +kernel
theorem dX13_applyTool_400 : decode cX13_applyTool 400 = .ok (.bipush 9, 2) := by decide +kernel
theorem dX13_applyTool_402 : decode cX13_applyTool 402 = .ok (.if_icmp .lt 13, 3) := by decide +kernel
theorem dX13_applyTool_405 : decode cX13_applyTool 405 = .ok (.iload_n 2, 1) := by decide +kernel
theorem dX13_applyTool_406 : decode cX13_applyTool 406 = .ok (.bipush 13, 2) := by decide +kernel
theorem dX13_applyTool_408 : decode cX13_applyTool 408 = .ok (.if_icmp .ge 7, 3) := by decide +kernel
theorem dX13_applyTool_411 : decode cX13_applyTool 411 = .ok (.iconst 0, 1) := by decide +kernel
theorem dX13_applyTool_412 : decode cX13_applyTool 412 = .ok (.goto 27, 3) := by decide +kernel
theorem dX13_applyTool_415 : decode cX13_applyTool 415 = .ok (.aload_n 0, 1) := by decide +kernel
theorem dX13_applyTool_416 : decode cX13_applyTool 416 = .ok (.getfield 99, 3) := by decide +kernel
theorem dX13_applyTool_419 : decode cX13_applyTool 419 = .ok (.iload 10, 2) := by decide +kernel
theorem dX13_applyTool_421 : decode cX13_applyTool 421 = .ok (.iaload, 1) := by decide +kernel
theorem dX13_applyTool_422 : decode cX13_applyTool 422 = .ok (.iconst 2, 1) := by decide +kernel
theorem dX13_applyTool_423 : decode cX13_applyTool 423 = .ok (.if_icmp .ne 14, 3) := by decide +kernel
theorem dX13_applyTool_426 : decode cX13_applyTool 426 = .ok (.aload_n 0, 1) := by decide +kernel
theorem dX13_applyTool_427 : decode cX13_applyTool 427 = .ok (.iload 10, 2) := by decide +kernel
theorem dX13_applyTool_429 : decode cX13_applyTool 429 = .ok (.iload 9, 2) := by decide +kernel
theorem dX13_applyTool_431 : decode cX13_applyTool 431 = .ok (.invokevirtual 665, 3) := by decide +kernel
theorem dX13_applyTool_434 : decode cX13_applyTool 434 = .ok (.goto 5, 3) := by decide +kernel
theorem dX13_applyTool_437 : decode cX13_applyTool 437 = .ok (.iload 9, 2) := by decide +kernel
theorem dX13_applyTool_439 : decode cX13_applyTool 439 = .ok (.iastore, 1) := by decide +kernel
theorem dX13_applyTool_440 : decode cX13_applyTool 440 = .ok (.aload_n 0, 1) := by decide +kernel
theorem dX13_applyTool_441 : decode cX13_applyTool 441 = .ok (.iload 10, 2) := by decide +kernel
theorem dX13_applyTool_443 : decode cX13_applyTool 443 = .ok (.invokevirtual 606, 3) := by decide +kernel
theorem dX13_applyTool_446 : decode cX13_applyTool 446 = .ok (.return_, 1) := by decide +kernel
theorem dX13_freeLeans_0 : decode cX13_freeLeans 0 = .ok (.aload_n 0, 1) := by decide +kernel
theorem dX13_freeLeans_1 : decode cX13_freeLeans 1 = .ok (.getfield 553, 3) := by decide +kernel
theorem dX13_freeLeans_4 : decode cX13_freeLeans 4 = .ok (.iconst 1, 1) := by decide +kernel
theorem dX13_freeLeans_5 : decode cX13_freeLeans 5 = .ok (.isub, 1) := by decide +kernel
theorem dX13_freeLeans_6 : decode cX13_freeLeans 6 = .ok (.istore_n 3, 1) := by decide +kernel
theorem dX13_freeLeans_7 : decode cX13_freeLeans 7 = .ok (.aload_n 0, 1) := by decide +kernel
theorem dX13_freeLeans_8 : decode cX13_freeLeans 8 = .ok (.getfield 123, 3) := by decide +kernel
theorem dX13_freeLeans_11 : decode cX13_freeLeans 11 = .ok (.iload_n 3, 1) := by decide +kernel
theorem dX13_freeLeans_12 : decode cX13_freeLeans 12 = .ok (.iload_n 1, 1) := by decide +kernel
theorem dX13_freeLeans_13 : decode cX13_freeLeans 13 = .ok (.iastore, 1) := by decide +kernel
theorem dX13_freeLeans_14 : decode cX13_freeLeans 14 = .ok (.iconst 1, 1) := by decide +kernel
theorem dX13_freeLeans_15 : decode cX13_freeLeans 15 = .ok (.iload_n 3, 1) := by decide +kernel
theorem dX13_freeLeans_16 : decode cX13_freeLeans 16 = .ok (.ishl, 1) := by decide +kernel
theorem dX13_freeLeans_17 : decode cX13_freeLeans 17 = .ok (.aload_n 0, 1) := by decide +kernel
theorem dX13_freeLeans_18 : decode cX13_freeLeans 18 = .ok (.getfield 126, 3) := by decide +kernel
theorem dX13_freeLeans_21 : decode cX13_freeLeans 21 = .ok (.iload_n 3, 1) := by decide +kernel
theorem dX13_freeLeans_22 : decode cX13_freeLeans 22 = .ok (.baload, 1) := by decide +kernel
theorem dX13_freeLeans_23 : decode cX13_freeLeans 23 = .ok (.ifCond .eq 7, 3) := by decide +kernel
theorem dX13_freeLeans_26 : decode cX13_freeLeans 26 = .ok (.iconst 0, 1) := by decide +kernel
theorem dX13_freeLeans_27 : decode cX13_freeLeans 27 = .ok (.goto 4, 3) := by decide +kernel
theorem dX13_freeLeans_30 : decode cX13_freeLeans 30 = .ok (.iload_n 2, 1) := by decide +kernel
theorem dX13_freeLeans_31 : decode cX13_freeLeans 31 = .ok (.ior, 1) := by decide +kernel
theorem dX13_freeLeans_32 : decode cX13_freeLeans 32 = .ok (.ireturn, 1) := by decide +kernel
theorem dX13_told_0 : decode cX13_told 0 = .ok (.aload_n 0, 1) := by decide +kernel
theorem dX13_told_1 : decode cX13_told 1 = .ok (.dup, 1) := by decide +kernel
theorem dX13_told_2 : decode cX13_told 2 = .ok (.getfield 437, 3) := by decide +kernel
theorem dX13_told_5 : decode cX13_told 5 = .ok (.iconst 1, 1) := by decide +kernel
theorem dX13_told_6 : decode cX13_told 6 = .ok (.isub, 1) := by decide +kernel
theorem dX13_told_7 : decode cX13_told 7 = .ok (.putfield 437, 3) := by decide +kernel
theorem dX13_told_10 : decode cX13_told 10 = .ok (.aload_n 0, 1) := by decide +kernel
theorem dX13_told_11 : decode cX13_told 11 = .ok (.aload_n 0, 1) := by decide +kernel
theorem dX13_told_12 : decode cX13_told 12 = .ok (.getfield 93, 3) := by decide +kernel
theorem dX13_told_15 : decode cX13_told 15 = .ok (.aload_n 0, 1) := by decide +kernel
theorem dX13_told_16 : decode cX13_told 16 = .ok (.getfield 437, 3) := by decide +kernel
theorem dX13_told_19 : decode cX13_told 19 = .ok (.laload, 1) := by decide +kernel
theorem dX13_told_20 : decode cX13_told 20 = .ok (.aload_n 0, 1) := by decide +kernel
theorem dX13_told_21 : decode cX13_told 21 = .ok (.getfield 96, 3) := by decide +kernel
theorem dX13_told_24 : decode cX13_told 24 = .ok (.aload_n 0, 1) := by decide +kernel
theorem dX13_told_25 : decode cX13_told 25 = .ok (.getfield 437, 3) := by decide +kernel
theorem dX13_told_28 : decode cX13_told 28 = .ok (.laload, 1) := by decide +kernel
theorem dX13_told_29 : decode cX13_told 29 = .ok (.iconst 0, 1) := by decide +kernel
theorem dX13_told_30 : decode cX13_told 30 = .ok (.invokevirtual 614, 3) := by decide +kernel
theorem dX13_told_33 : decode cX13_told 33 = .ok (.ireturn, 1) := by decide +kernel
theorem dX13_yes_0 : decode cX13_yes 0 = .ok (.aload_n 0, 1) := by decide +kernel
theorem dX13_yes_1 : decode cX13_yes 1 = .ok (.iload_n 1, 1) := by decide +kernel
theorem dX13_yes_2 : decode cX13_yes 2 = .ok (.ifCond .eq 7, 3) := by decide +kernel
theorem dX13_yes_5 : decode cX13_yes 5 = .ok (.lconst 1, 1) := by decide +kernel
theorem dX13_yes_6 : decode cX13_yes 6 = .ok (.goto 4, 3) := by decide +kernel
theorem dX13_yes_9 : decode cX13_yes 9 = .ok (.lconst 0, 1) := by decide +kernel
theorem dX13_yes_10 : decode cX13_yes 10 = .ok (.lconst 1, 1) := by decide +kernel
theorem dX13_yes_11 : decode cX13_yes 11 = .ok (.iconst 0, 1) := by decide +kernel
theorem dX13_yes_12 : decode cX13_yes 12 = .ok (.invokevirtual 614, 3) := by decide +kernel
theorem dX13_yes_15 : decode cX13_yes 15 = .ok (.ireturn, 1) := by decide +kernel
theorem dX13_newRow_0 : decode cX13_newRow 0 = .ok (.aload_n 0, 1) := by decide +kernel
theorem dX13_newRow_1 : decode cX13_newRow 1 = .ok (.getfield 108, 3) := by decide +kernel
theorem dX13_newRow_4 : decode cX13_newRow 4 = .ok (.bipush 7, 2) := by decide +kernel
theorem dX13_newRow_6 : decode cX13_newRow 6 = .ok (.iload_n 2, 1) := by decide +kernel
theorem dX13_newRow_7 : decode cX13_newRow 7 = .ok (.imul, 1) := by decide +kernel
theorem dX13_newRow_8 : decode cX13_newRow 8 = .ok (.laload, 1) := by decide +kernel
theorem dX13_newRow_9 : decode cX13_newRow 9 = .ok (.lstore_n 3, 1) := by decide +kernel
theorem dX13_newRow_10 : decode cX13_newRow 10 = .ok (.lload_n 3, 1) := by decide +kernel
theorem dX13_newRow_11 : decode cX13_newRow 11 = .ok (.lconst 0, 1) := by decide +kernel
theorem dX13_newRow_12 : decode cX13_newRow 12 = .ok (.lcmp, 1) := by decide +kernel
theorem dX13_newRow_13 : decode cX13_newRow 13 = .ok (.ifCond .lt 11, 3) := by decide +kernel
theorem dX13_newRow_16 : decode cX13_newRow 16 = .ok (.lload_n 3, 1) := by decide +kernel
theorem dX13_newRow_17 : decode cX13_newRow 17 = .ok (.ldc2_w 668, 3) := by decide +kernel
theorem dX13_newRow_20 : decode cX13_newRow 20 = .ok (.lcmp, 1) := by decide +kernel
theorem dX13_newRow_21 : decode cX13_newRow 21 = .ok (.ifCond .le 21, 3) := by decide +kernel
theorem dX13_newRow_24 : decode cX13_newRow 24 = .ok (.aload_n 0, 1) := by decide +kernel
theorem dX13_newRow_25 : decode cX13_newRow 25 = .ok (.lload_n 3, 1) := by decide +kernel
theorem dX13_newRow_26 : decode cX13_newRow 26 = .ok (.lconst 0, 1) := by decide +kernel
theorem dX13_newRow_27 : decode cX13_newRow 27 = .ok (.lcmp, 1) := by decide +kernel
theorem dX13_newRow_28 : decode cX13_newRow 28 = .ok (.ifCond .ge 7, 3) := by decide +kernel
theorem dX13_newRow_31 : decode cX13_newRow 31 = .ok (.iconst 4, 1) := by decide +kernel
theorem dX13_newRow_32 : decode cX13_newRow 32 = .ok (.goto 5, 3) := by decide +kernel
theorem dX13_newRow_35 : decode cX13_newRow 35 = .ok (.bipush 9, 2) := by decide +kernel
theorem dX13_newRow_37 : decode cX13_newRow 37 = .ok (.invokevirtual 452, 3) := by decide +kernel
theorem dX13_newRow_40 : decode cX13_newRow 40 = .ok (.iload_n 2, 1) := by decide +kernel
theorem dX13_newRow_41 : decode cX13_newRow 41 = .ok (.ireturn, 1) := by decide +kernel
theorem dX13_newRow_42 : decode cX13_newRow 42 = .ok (.aload_n 0, 1) := by decide +kernel
theorem dX13_newRow_43 : decode cX13_newRow 43 = .ok (.bipush 6, 2) := by decide +kernel
theorem dX13_newRow_45 : decode cX13_newRow 45 = .ok (.invokevirtual 469, 3) := by decide +kernel
theorem dX13_newRow_48 : decode cX13_newRow 48 = .ok (.istore 5, 2) := by decide +kernel
theorem dX13_newRow_50 : decode cX13_newRow 50 = .ok (.aload_n 0, 1) := by decide +kernel
theorem dX13_newRow_51 : decode cX13_newRow 51 = .ok (.getfield 105, 3) := by decide +kernel
theorem dX13_newRow_54 : decode cX13_newRow 54 = .ok (.iload 5, 2) := by decide +kernel
theorem dX13_newRow_56 : decode cX13_newRow 56 = .ok (.aload_n 0, 1) := by decide +kernel
theorem dX13_newRow_57 : decode cX13_newRow 57 = .ok (.getfield 544, 3) := by decide +kernel
theorem dX13_newRow_60 : decode cX13_newRow 60 = .ok (.iastore, 1) := by decide +kernel
theorem dX13_newRow_61 : decode cX13_newRow 61 = .ok (.aload_n 0, 1) := by decide +kernel
theorem dX13_newRow_62 : decode cX13_newRow 62 = .ok (.getfield 114, 3) := by decide +kernel
theorem dX13_newRow_65 : decode cX13_newRow 65 = .ok (.aload_n 0, 1) := by decide +kernel
theorem dX13_newRow_66 : decode cX13_newRow 66 = .ok (.getfield 544, 3) := by decide +kernel
theorem dX13_newRow_69 : decode cX13_newRow 69 = .ok (.iload_n 1, 1) := by decide +kernel
theorem dX13_newRow_70 : decode cX13_newRow 70 = .ok (.iastore, 1) := by decide +kernel
theorem dX13_newRow_71 : decode cX13_newRow 71 = .ok (.aload_n 0, 1) := by decide +kernel
theorem dX13_newRow_72 : decode cX13_newRow 72 = .ok (.getfield 117, 3) := by decide +kernel
theorem dX13_newRow_75 : decode cX13_newRow 75 = .ok (.aload_n 0, 1) := by decide +kernel
theorem dX13_newRow_76 : decode cX13_newRow 76 = .ok (.getfield 544, 3) := by decide +kernel
theorem dX13_newRow_79 : decode cX13_newRow 79 = .ok (.lload_n 3, 1) := by decide +kernel
theorem dX13_newRow_80 : decode cX13_newRow 80 = .ok (.l2i, 1) := by decide +kernel
theorem dX13_newRow_81 : decode cX13_newRow 81 = .ok (.iastore, 1) := by decide +kernel
theorem dX13_newRow_82 : decode cX13_newRow 82 = .ok (.iconst 0, 1) := by decide +kernel
theorem dX13_newRow_83 : decode cX13_newRow 83 = .ok (.istore 6, 2) := by decide +kernel
theorem dX13_newRow_85 : decode cX13_newRow 85 = .ok (.iload 6, 2) := by decide +kernel
theorem dX13_newRow_87 : decode cX13_newRow 87 = .ok (.bipush 20, 2) := by decide +kernel
theorem dX13_newRow_89 : decode cX13_newRow 89 = .ok (.if_icmp .ge 25, 3) := by decide +kernel
theorem dX13_newRow_92 : decode cX13_newRow 92 = .ok (.aload_n 0, 1) := by decide +kernel
theorem dX13_newRow_93 : decode cX13_newRow 93 = .ok (.getfield 120, 3) := by decide +kernel
theorem dX13_newRow_96 : decode cX13_newRow 96 = .ok (.bipush 20, 2) := by decide +kernel
theorem dX13_newRow_98 : decode cX13_newRow 98 = .ok (.aload_n 0, 1) := by decide +kernel
theorem dX13_newRow_99 : decode cX13_newRow 99 = .ok (.getfield 544, 3) := by decide +kernel
theorem dX13_newRow_102 : decode cX13_newRow 102 = .ok (.imul, 1) := by decide +kernel
theorem dX13_newRow_103 : decode cX13_newRow 103 = .ok (.iload 6, 2) := by decide +kernel
theorem dX13_newRow_105 : decode cX13_newRow 105 = .ok (.iadd, 1) := by decide +kernel
theorem dX13_newRow_106 : decode cX13_newRow 106 = .ok (.iconst (-1), 1) := by decide +kernel
theorem dX13_newRow_107 : decode cX13_newRow 107 = .ok (.iastore, 1) := by decide +kernel
theorem dX13_newRow_108 : decode cX13_newRow 108 = .ok (.iinc 6 1, 3) := by decide +kernel
theorem dX13_newRow_111 : decode cX13_newRow 111 = .ok (.goto (-26), 3) := by decide +kernel
theorem dX13_newRow_114 : decode cX13_newRow 114 = .ok (.aload_n 0, 1) := by decide +kernel
theorem dX13_newRow_115 : decode cX13_newRow 115 = .ok (.dup, 1) := by decide +kernel
theorem dX13_newRow_116 : decode cX13_newRow 116 = .ok (.getfield 544, 3) := by decide +kernel
theorem dX13_newRow_119 : decode cX13_newRow 119 = .ok (.iconst 1, 1) := by decide +kernel
theorem dX13_newRow_120 : decode cX13_newRow 120 = .ok (.iadd, 1) := by decide +kernel
theorem dX13_newRow_121 : decode cX13_newRow 121 = .ok (.putfield 544, 3) := by decide +kernel
theorem dX13_newRow_124 : decode cX13_newRow 124 = .ok (.iload 5, 2) := by decide +kernel
theorem dX13_newRow_126 : decode cX13_newRow 126 = .ok (.ireturn, 1) := by decide +kernel
theorem dX13_toolOne_0 : decode cX13_toolOne 0 = .ok (.iload_n 1, 1) := by decide +kernel
theorem dX13_toolOne_1 : decode cX13_toolOne 1 = .ok (.tableswitch 157 0 8 #[51, 51, 62, 87, 93, 104, 110, 129, 143], 51) := by decide +kernel
theorem dX13_toolOne_52 : decode cX13_toolOne 52 = .ok (.aload_n 0, 1) := by decide +kernel
theorem dX13_toolOne_53 : decode cX13_toolOne 53 = .ok (.iload_n 2, 1) := by decide +kernel
theorem dX13_toolOne_54 : decode cX13_toolOne 54 = .ok (.iload_n 1, 1) := by decide +kernel
theorem dX13_toolOne_55 : decode cX13_toolOne 55 = .ok (.invokevirtual 460, 3) := by decide +kernel
theorem dX13_toolOne_58 : decode cX13_toolOne 58 = .ok (.aload_n 0, 1) := by decide +kernel
theorem dX13_toolOne_59 : decode cX13_toolOne 59 = .ok (.invokevirtual 670, 3) := by decide +kernel
theorem dX13_toolOne_62 : decode cX13_toolOne 62 = .ok (.ireturn, 1) := by decide +kernel
theorem dX13_toolOne_63 : decode cX13_toolOne 63 = .ok (.aload_n 0, 1) := by decide +kernel
theorem dX13_toolOne_64 : decode cX13_toolOne 64 = .ok (.iload_n 2, 1) := by decide +kernel
theorem dX13_toolOne_65 : decode cX13_toolOne 65 = .ok (.iconst 0, 1) := by decide +kernel
theorem dX13_toolOne_66 : decode cX13_toolOne 66 = .ok (.invokevirtual 460, 3) := by decide +kernel
theorem dX13_toolOne_69 : decode cX13_toolOne 69 = .ok (.aload_n 0, 1) := by decide +kernel
theorem dX13_toolOne_70 : decode cX13_toolOne 70 = .ok (.invokevirtual 493, 3) := by decide +kernel
theorem dX13_toolOne_73 : decode cX13_toolOne 73 = .ok (.aload_n 0, 1) := by decide +kernel
theorem dX13_toolOne_74 : decode cX13_toolOne 74 = .ok (.iload_n 2, 1) := by decide +kernel
theorem dX13_toolOne_75 : decode cX13_toolOne 75 = .ok (.iconst 1, 1) := by decide +kernel
theorem dX13_toolOne_76 : decode cX13_toolOne 76 = .ok (.invokevirtual 460, 3) := by decide +kernel
theorem dX13_toolOne_79 : decode cX13_toolOne 79 = .ok (.aload_n 0, 1) := by decide +kernel
theorem dX13_toolOne_80 : decode cX13_toolOne 80 = .ok (.invokevirtual 463, 3) := by decide +kernel
theorem dX13_toolOne_83 : decode cX13_toolOne 83 = .ok (.aload_n 0, 1) := by decide +kernel
theorem dX13_toolOne_84 : decode cX13_toolOne 84 = .ok (.invokevirtual 670, 3) := by decide +kernel
theorem dX13_toolOne_87 : decode cX13_toolOne 87 = .ok (.ireturn, 1) := by decide +kernel
theorem dX13_toolOne_88 : decode cX13_toolOne 88 = .ok (.aload_n 0, 1) := by decide +kernel
theorem dX13_toolOne_89 : decode cX13_toolOne 89 = .ok (.iload_n 2, 1) := by decide +kernel
theorem dX13_toolOne_90 : decode cX13_toolOne 90 = .ok (.invokevirtual 521, 3) := by decide +kernel
theorem dX13_toolOne_93 : decode cX13_toolOne 93 = .ok (.ireturn, 1) := by decide +kernel
theorem dX13_toolOne_94 : decode cX13_toolOne 94 = .ok (.aload_n 0, 1) := by decide +kernel
theorem dX13_toolOne_95 : decode cX13_toolOne 95 = .ok (.iload_n 2, 1) := by decide +kernel
theorem dX13_toolOne_96 : decode cX13_toolOne 96 = .ok (.iconst 2, 1) := by decide +kernel
theorem dX13_toolOne_97 : decode cX13_toolOne 97 = .ok (.invokevirtual 460, 3) := by decide +kernel
theorem dX13_toolOne_100 : decode cX13_toolOne 100 = .ok (.aload_n 0, 1) := by decide +kernel
theorem dX13_toolOne_101 : decode cX13_toolOne 101 = .ok (.invokevirtual 670, 3) := by decide +kernel
theorem dX13_toolOne_104 : decode cX13_toolOne 104 = .ok (.ireturn, 1) := by decide +kernel
theorem dX13_toolOne_105 : decode cX13_toolOne 105 = .ok (.aload_n 0, 1) := by decide +kernel
theorem dX13_toolOne_106 : decode cX13_toolOne 106 = .ok (.iload_n 2, 1) := by decide +kernel
theorem dX13_toolOne_107 : decode cX13_toolOne 107 = .ok (.invokevirtual 673, 3) := by decide +kernel
theorem dX13_toolOne_110 : decode cX13_toolOne 110 = .ok (.ireturn, 1) := by decide +kernel
theorem dX13_toolOne_111 : decode cX13_toolOne 111 = .ok (.aload_n 0, 1) := by decide +kernel
theorem dX13_toolOne_112 : decode cX13_toolOne 112 = .ok (.aload_n 0, 1) := by decide +kernel
theorem dX13_toolOne_113 : decode cX13_toolOne 113 = .ok (.getfield 117, 3) := by decide +kernel
theorem dX13_toolOne_116 : decode cX13_toolOne 116 = .ok (.aload_n 0, 1) := by decide +kernel
theorem dX13_toolOne_117 : decode cX13_toolOne 117 = .ok (.getfield 105, 3) := by decide +kernel
theorem dX13_toolOne_120 : decode cX13_toolOne 120 = .ok (.iload_n 2, 1) := by decide +kernel
theorem dX13_toolOne_121 : decode cX13_toolOne 121 = .ok (.iaload, 1) := by decide +kernel
theorem dX13_toolOne_122 : decode cX13_toolOne 122 = .ok (.iaload, 1) := by decide +kernel
theorem dX13_toolOne_123 : decode cX13_toolOne 123 = .ok (.i2l, 1) := by decide +kernel
theorem dX13_toolOne_124 : decode cX13_toolOne 124 = .ok (.lconst 1, 1) := by decide +kernel
theorem dX13_toolOne_125 : decode cX13_toolOne 125 = .ok (.iconst 0, 1) := by decide +kernel
theorem dX13_toolOne_126 : decode cX13_toolOne 126 = .ok (.invokevirtual 614, 3) := by decide +kernel
theorem dX13_toolOne_129 : decode cX13_toolOne 129 = .ok (.ireturn, 1) := by decide +kernel
theorem dX13_toolOne_130 : decode cX13_toolOne 130 = .ok (.aload_n 0, 1) := by decide +kernel
theorem dX13_toolOne_131 : decode cX13_toolOne 131 = .ok (.iload_n 2, 1) := by decide +kernel
theorem dX13_toolOne_132 : decode cX13_toolOne 132 = .ok (.ifCond .ge 7, 3) := by decide +kernel
theorem dX13_toolOne_135 : decode cX13_toolOne 135 = .ok (.iconst 1, 1) := by decide +kernel
theorem dX13_toolOne_136 : decode cX13_toolOne 136 = .ok (.goto 4, 3) := by decide +kernel
theorem dX13_toolOne_139 : decode cX13_toolOne 139 = .ok (.iconst 0, 1) := by decide +kernel
theorem dX13_toolOne_140 : decode cX13_toolOne 140 = .ok (.invokevirtual 676, 3) := by decide +kernel
theorem dX13_toolOne_143 : decode cX13_toolOne 143 = .ok (.ireturn, 1) := by decide +kernel
theorem dX13_toolOne_144 : decode cX13_toolOne 144 = .ok (.aload_n 0, 1) := by decide +kernel
theorem dX13_toolOne_145 : decode cX13_toolOne 145 = .ok (.aload_n 0, 1) := by decide +kernel
theorem dX13_toolOne_146 : decode cX13_toolOne 146 = .ok (.getfield 99, 3) := by decide +kernel
theorem dX13_toolOne_149 : decode cX13_toolOne 149 = .ok (.iload_n 2, 1) := by decide +kernel
theorem dX13_toolOne_150 : decode cX13_toolOne 150 = .ok (.iaload, 1) := by decide +kernel
theorem dX13_toolOne_151 : decode cX13_toolOne 151 = .ok (.i2l, 1) := by decide +kernel
theorem dX13_toolOne_152 : decode cX13_toolOne 152 = .ok (.lconst 1, 1) := by decide +kernel
theorem dX13_toolOne_153 : decode cX13_toolOne 153 = .ok (.iconst 0, 1) := by decide +kernel
theorem dX13_toolOne_154 : decode cX13_toolOne 154 = .ok (.invokevirtual 614, 3) := by decide +kernel
theorem dX13_toolOne_157 : decode cX13_toolOne 157 = .ok (.ireturn, 1) := by decide +kernel
theorem dX13_toolOne_158 : decode cX13_toolOne 158 = .ok (.aload_n 0, 1) := by decide +kernel
theorem dX13_toolOne_159 : decode cX13_toolOne 159 = .ok (.iload_n 1, 1) := by decide +kernel
theorem dX13_toolOne_160 : decode cX13_toolOne 160 = .ok (.bipush 9, 2) := by decide +kernel
theorem dX13_toolOne_162 : decode cX13_toolOne 162 = .ok (.isub, 1) := by decide +kernel
theorem dX13_toolOne_163 : decode cX13_toolOne 163 = .ok (.iload_n 2, 1) := by decide +kernel
theorem dX13_toolOne_164 : decode cX13_toolOne 164 = .ok (.invokevirtual 679, 3) := by decide +kernel
theorem dX13_toolOne_167 : decode cX13_toolOne 167 = .ok (.ireturn, 1) := by decide +kernel
theorem dX13_newPoint_0 : decode cX13_newPoint 0 = .ok (.aload_n 0, 1) := by decide +kernel
theorem dX13_newPoint_1 : decode cX13_newPoint 1 = .ok (.iload_n 1, 1) := by decide +kernel
theorem dX13_newPoint_2 : decode cX13_newPoint 2 = .ok (.invokevirtual 469, 3) := by decide +kernel
theorem dX13_newPoint_5 : decode cX13_newPoint 5 = .ok (.istore 4, 2) := by decide +kernel
theorem dX13_newPoint_7 : decode cX13_newPoint 7 = .ok (.aload_n 0, 1) := by decide +kernel
theorem dX13_newPoint_8 : decode cX13_newPoint 8 = .ok (.iload_n 2, 1) := by decide +kernel
theorem dX13_newPoint_9 : decode cX13_newPoint 9 = .ok (.iconst 0, 1) := by decide +kernel
theorem dX13_newPoint_10 : decode cX13_newPoint 10 = .ok (.invokevirtual 460, 3) := by decide +kernel
theorem dX13_newPoint_13 : decode cX13_newPoint 13 = .ok (.aload_n 0, 1) := by decide +kernel
theorem dX13_newPoint_14 : decode cX13_newPoint 14 = .ok (.iload 4, 2) := by decide +kernel
theorem dX13_newPoint_16 : decode cX13_newPoint 16 = .ok (.iconst 0, 1) := by decide +kernel
theorem dX13_newPoint_17 : decode cX13_newPoint 17 = .ok (.invokevirtual 466, 3) := by decide +kernel
theorem dX13_newPoint_20 : decode cX13_newPoint 20 = .ok (.aload_n 0, 1) := by decide +kernel
theorem dX13_newPoint_21 : decode cX13_newPoint 21 = .ok (.iload_n 3, 1) := by decide +kernel
theorem dX13_newPoint_22 : decode cX13_newPoint 22 = .ok (.iconst 0, 1) := by decide +kernel
theorem dX13_newPoint_23 : decode cX13_newPoint 23 = .ok (.invokevirtual 460, 3) := by decide +kernel
theorem dX13_newPoint_26 : decode cX13_newPoint 26 = .ok (.aload_n 0, 1) := by decide +kernel
theorem dX13_newPoint_27 : decode cX13_newPoint 27 = .ok (.iload 4, 2) := by decide +kernel
theorem dX13_newPoint_29 : decode cX13_newPoint 29 = .ok (.iconst 1, 1) := by decide +kernel
theorem dX13_newPoint_30 : decode cX13_newPoint 30 = .ok (.invokevirtual 466, 3) := by decide +kernel
theorem dX13_newPoint_33 : decode cX13_newPoint 33 = .ok (.iload 4, 2) := by decide +kernel
theorem dX13_newPoint_35 : decode cX13_newPoint 35 = .ok (.ireturn, 1) := by decide +kernel
theorem dX13_newFree_0 : decode cX13_newFree 0 = .ok (.aload_n 0, 1) := by decide +kernel
theorem dX13_newFree_1 : decode cX13_newFree 1 = .ok (.getfield 553, 3) := by decide +kernel
theorem dX13_newFree_4 : decode cX13_newFree 4 = .ok (.bipush 12, 2) := by decide +kernel
theorem dX13_newFree_6 : decode cX13_newFree 6 = .ok (.if_icmp .ne 11, 3) := by decide +kernel
theorem dX13_newFree_9 : decode cX13_newFree 9 = .ok (.aload_n 0, 1) := by decide +kernel
theorem dX13_newFree_10 : decode cX13_newFree 10 = .ok (.bipush 9, 2) := by decide +kernel
theorem dX13_newFree_12 : decode cX13_newFree 12 = .ok (.invokevirtual 452, 3) := by decide +kernel
theorem dX13_newFree_15 : decode cX13_newFree 15 = .ok (.iload_n 1, 1) := by decide +kernel
theorem dX13_newFree_16 : decode cX13_newFree 16 = .ok (.ireturn, 1) := by decide +kernel
theorem dX13_newFree_17 : decode cX13_newFree 17 = .ok (.aload_n 0, 1) := by decide +kernel
theorem dX13_newFree_18 : decode cX13_newFree 18 = .ok (.iconst 2, 1) := by decide +kernel
theorem dX13_newFree_19 : decode cX13_newFree 19 = .ok (.iload_n 1, 1) := by decide +kernel
theorem dX13_newFree_20 : decode cX13_newFree 20 = .ok (.iload_n 2, 1) := by decide +kernel
theorem dX13_newFree_21 : decode cX13_newFree 21 = .ok (.invokevirtual 682, 3) := by decide +kernel
theorem dX13_newFree_24 : decode cX13_newFree 24 = .ok (.istore_n 3, 1) := by decide +kernel
theorem dX13_newFree_25 : decode cX13_newFree 25 = .ok (.iconst 0, 1) := by decide +kernel
theorem dX13_newFree_26 : decode cX13_newFree 26 = .ok (.istore 4, 2) := by decide +kernel
theorem dX13_newFree_28 : decode cX13_newFree 28 = .ok (.iload 4, 2) := by decide +kernel
theorem dX13_newFree_30 : decode cX13_newFree 30 = .ok (.iconst 2, 1) := by decide +kernel
theorem dX13_newFree_31 : decode cX13_newFree 31 = .ok (.if_icmp .ge 60, 3) := by decide +kernel
theorem dX13_newFree_34 : decode cX13_newFree 34 = .ok (.aload_n 0, 1) := by decide +kernel
theorem dX13_newFree_35 : decode cX13_newFree 35 = .ok (.getfield 126, 3) := by decide +kernel
theorem dX13_newFree_38 : decode cX13_newFree 38 = .ok (.aload_n 0, 1) := by decide +kernel
theorem dX13_newFree_39 : decode cX13_newFree 39 = .ok (.getfield 553, 3) := by decide +kernel
theorem dX13_newFree_42 : decode cX13_newFree 42 = .ok (.baload, 1) := by decide +kernel
theorem dX13_newFree_43 : decode cX13_newFree 43 = .ok (.ifCond .eq 48, 3) := by decide +kernel
theorem dX13_newFree_46 : decode cX13_newFree 46 = .ok (.aload_n 0, 1) := by decide +kernel
theorem dX13_newFree_47 : decode cX13_newFree 47 = .ok (.aload_n 0, 1) := by decide +kernel
theorem dX13_newFree_48 : decode cX13_newFree 48 = .ok (.getfield 129, 3) := by decide +kernel
theorem dX13_newFree_51 : decode cX13_newFree 51 = .ok (.iconst 2, 1) := by decide +kernel
theorem dX13_newFree_52 : decode cX13_newFree 52 = .ok (.aload_n 0, 1) := by decide +kernel
theorem dX13_newFree_53 : decode cX13_newFree 53 = .ok (.getfield 553, 3) := by decide +kernel
theorem dX13_newFree_56 : decode cX13_newFree 56 = .ok (.imul, 1) := by decide +kernel
theorem dX13_newFree_57 : decode cX13_newFree 57 = .ok (.iload 4, 2) := by decide +kernel
theorem dX13_newFree_59 : decode cX13_newFree 59 = .ok (.iadd, 1) := by decide +kernel
theorem dX13_newFree_60 : decode cX13_newFree 60 = .ok (.laload, 1) := by decide +kernel
theorem dX13_newFree_61 : decode cX13_newFree 61 = .ok (.aload_n 0, 1) := by decide +kernel
theorem dX13_newFree_62 : decode cX13_newFree 62 = .ok (.getfield 132, 3) := by decide +kernel
theorem dX13_newFree_65 : decode cX13_newFree 65 = .ok (.iconst 2, 1) := by decide +kernel
theorem dX13_newFree_66 : decode cX13_newFree 66 = .ok (.aload_n 0, 1) := by decide +kernel
theorem dX13_newFree_67 : decode cX13_newFree 67 = .ok (.getfield 553, 3) := by decide +kernel
theorem dX13_newFree_70 : decode cX13_newFree 70 = .ok (.imul, 1) := by decide +kernel
theorem dX13_newFree_71 : decode cX13_newFree 71 = .ok (.iload 4, 2) := by decide +kernel
theorem dX13_newFree_73 : decode cX13_newFree 73 = .ok (.iadd, 1) := by decide +kernel
theorem dX13_newFree_74 : decode cX13_newFree 74 = .ok (.laload, 1) := by decide +kernel
theorem dX13_newFree_75 : decode cX13_newFree 75 = .ok (.invokevirtual 440, 3) := by decide +kernel
theorem dX13_newFree_78 : decode cX13_newFree 78 = .ok (.aload_n 0, 1) := by decide +kernel
theorem dX13_newFree_79 : decode cX13_newFree 79 = .ok (.iload_n 3, 1) := by decide +kernel
theorem dX13_newFree_80 : decode cX13_newFree 80 = .ok (.iload 4, 2) := by decide +kernel
theorem dX13_newFree_82 : decode cX13_newFree 82 = .ok (.invokevirtual 466, 3) := by decide +kernel
theorem dX13_newFree_85 : decode cX13_newFree 85 = .ok (.iinc 4 1, 3) := by decide +kernel
theorem dX13_newFree_88 : decode cX13_newFree 88 = .ok (.goto (-60), 3) := by decide +kernel
theorem dX13_newFree_91 : decode cX13_newFree 91 = .ok (.aload_n 0, 1) := by decide +kernel
theorem dX13_newFree_92 : decode cX13_newFree 92 = .ok (.dup, 1) := by decide +kernel
theorem dX13_newFree_93 : decode cX13_newFree 93 = .ok (.getfield 553, 3) := by decide +kernel
theorem dX13_newFree_96 : decode cX13_newFree 96 = .ok (.iconst 1, 1) := by decide +kernel
theorem dX13_newFree_97 : decode cX13_newFree 97 = .ok (.iadd, 1) := by decide +kernel
theorem dX13_newFree_98 : decode cX13_newFree 98 = .ok (.putfield 553, 3) := by decide +kernel
theorem dX13_newFree_101 : decode cX13_newFree 101 = .ok (.iload_n 3, 1) := by decide +kernel
theorem dX13_newFree_102 : decode cX13_newFree 102 = .ok (.ireturn, 1) := by decide +kernel
theorem dX13_toolTwo_0 : decode cX13_toolTwo 0 = .ok (.iload_n 1, 1) := by decide +kernel
theorem dX13_toolTwo_1 : decode cX13_toolTwo 1 = .ok (.tableswitch 191 0 12 #[67, 75, 82, 90, 98, 105, 112, 119, 126, 133, 140, 147, 159], 67) := by decide +kernel
theorem dX13_toolTwo_68 : decode cX13_toolTwo 68 = .ok (.aload_n 0, 1) := by decide +kernel
theorem dX13_toolTwo_69 : decode cX13_toolTwo 69 = .ok (.iconst 1, 1) := by decide +kernel
theorem dX13_toolTwo_70 : decode cX13_toolTwo 70 = .ok (.iload_n 2, 1) := by decide +kernel
theorem dX13_toolTwo_71 : decode cX13_toolTwo 71 = .ok (.iload_n 3, 1) := by decide +kernel
theorem dX13_toolTwo_72 : decode cX13_toolTwo 72 = .ok (.invokevirtual 682, 3) := by decide +kernel
theorem dX13_toolTwo_75 : decode cX13_toolTwo 75 = .ok (.ireturn, 1) := by decide +kernel
theorem dX13_toolTwo_76 : decode cX13_toolTwo 76 = .ok (.aload_n 0, 1) := by decide +kernel
theorem dX13_toolTwo_77 : decode cX13_toolTwo 77 = .ok (.iload_n 2, 1) := by decide +kernel
theorem dX13_toolTwo_78 : decode cX13_toolTwo 78 = .ok (.iload_n 3, 1) := by decide +kernel
theorem dX13_toolTwo_79 : decode cX13_toolTwo 79 = .ok (.invokevirtual 685, 3) := by decide +kernel
theorem dX13_toolTwo_82 : decode cX13_toolTwo 82 = .ok (.ireturn, 1) := by decide +kernel
theorem dX13_toolTwo_83 : decode cX13_toolTwo 83 = .ok (.aload_n 0, 1) := by decide +kernel
theorem dX13_toolTwo_84 : decode cX13_toolTwo 84 = .ok (.iload_n 2, 1) := by decide +kernel
theorem dX13_toolTwo_85 : decode cX13_toolTwo 85 = .ok (.iload_n 3, 1) := by decide +kernel
theorem dX13_toolTwo_86 : decode cX13_toolTwo 86 = .ok (.iconst 3, 1) := by decide +kernel
theorem dX13_toolTwo_87 : decode cX13_toolTwo 87 = .ok (.invokevirtual 508, 3) := by decide +kernel
theorem dX13_toolTwo_90 : decode cX13_toolTwo 90 = .ok (.ireturn, 1) := by decide +kernel
theorem dX13_toolTwo_91 : decode cX13_toolTwo 91 = .ok (.aload_n 0, 1) := by decide +kernel
theorem dX13_toolTwo_92 : decode cX13_toolTwo 92 = .ok (.iload_n 2, 1) := by decide +kernel
theorem dX13_toolTwo_93 : decode cX13_toolTwo 93 = .ok (.iload_n 3, 1) := by decide +kernel
theorem dX13_toolTwo_94 : decode cX13_toolTwo 94 = .ok (.iconst 4, 1) := by decide +kernel
theorem dX13_toolTwo_95 : decode cX13_toolTwo 95 = .ok (.invokevirtual 508, 3) := by decide +kernel
theorem dX13_toolTwo_98 : decode cX13_toolTwo 98 = .ok (.ireturn, 1) := by decide +kernel
theorem dX13_toolTwo_99 : decode cX13_toolTwo 99 = .ok (.aload_n 0, 1) := by decide +kernel
theorem dX13_toolTwo_100 : decode cX13_toolTwo 100 = .ok (.iload_n 2, 1) := by decide +kernel
theorem dX13_toolTwo_101 : decode cX13_toolTwo 101 = .ok (.iload_n 3, 1) := by decide +kernel
theorem dX13_toolTwo_102 : decode cX13_toolTwo 102 = .ok (.invokevirtual 505, 3) := by decide +kernel
theorem dX13_toolTwo_105 : decode cX13_toolTwo 105 = .ok (.ireturn, 1) := by decide +kernel
theorem dX13_toolTwo_106 : decode cX13_toolTwo 106 = .ok (.aload_n 0, 1) := by decide +kernel
theorem dX13_toolTwo_107 : decode cX13_toolTwo 107 = .ok (.iload_n 2, 1) := by decide +kernel
theorem dX13_toolTwo_108 : decode cX13_toolTwo 108 = .ok (.iload_n 3, 1) := by decide +kernel
theorem dX13_toolTwo_109 : decode cX13_toolTwo 109 = .ok (.invokevirtual 502, 3) := by decide +kernel
theorem dX13_toolTwo_112 : decode cX13_toolTwo 112 = .ok (.ireturn, 1) := by decide +kernel
theorem dX13_toolTwo_113 : decode cX13_toolTwo 113 = .ok (.aload_n 0, 1) := by decide +kernel
theorem dX13_toolTwo_114 : decode cX13_toolTwo 114 = .ok (.iload_n 2, 1) := by decide +kernel
theorem dX13_toolTwo_115 : decode cX13_toolTwo 115 = .ok (.iload_n 3, 1) := by decide +kernel
theorem dX13_toolTwo_116 : decode cX13_toolTwo 116 = .ok (.invokevirtual 688, 3) := by decide +kernel
theorem dX13_toolTwo_119 : decode cX13_toolTwo 119 = .ok (.ireturn, 1) := by decide +kernel
theorem dX13_toolTwo_120 : decode cX13_toolTwo 120 = .ok (.aload_n 0, 1) := by decide +kernel
theorem dX13_toolTwo_121 : decode cX13_toolTwo 121 = .ok (.iload_n 2, 1) := by decide +kernel
theorem dX13_toolTwo_122 : decode cX13_toolTwo 122 = .ok (.iload_n 3, 1) := by decide +kernel
theorem dX13_toolTwo_123 : decode cX13_toolTwo 123 = .ok (.invokevirtual 691, 3) := by decide +kernel
theorem dX13_toolTwo_126 : decode cX13_toolTwo 126 = .ok (.ireturn, 1) := by decide +kernel
theorem dX13_toolTwo_127 : decode cX13_toolTwo 127 = .ok (.aload_n 0, 1) := by decide +kernel
theorem dX13_toolTwo_128 : decode cX13_toolTwo 128 = .ok (.iload_n 2, 1) := by decide +kernel
theorem dX13_toolTwo_129 : decode cX13_toolTwo 129 = .ok (.iload_n 3, 1) := by decide +kernel
theorem dX13_toolTwo_130 : decode cX13_toolTwo 130 = .ok (.invokevirtual 694, 3) := by decide +kernel
theorem dX13_toolTwo_133 : decode cX13_toolTwo 133 = .ok (.ireturn, 1) := by decide +kernel
theorem dX13_toolTwo_134 : decode cX13_toolTwo 134 = .ok (.aload_n 0, 1) := by decide +kernel
theorem dX13_toolTwo_135 : decode cX13_toolTwo 135 = .ok (.iload_n 2, 1) := by decide +kernel
theorem dX13_toolTwo_136 : decode cX13_toolTwo 136 = .ok (.iload_n 3, 1) := by decide +kernel
theorem dX13_toolTwo_137 : decode cX13_toolTwo 137 = .ok (.invokevirtual 496, 3) := by decide +kernel
theorem dX13_toolTwo_140 : decode cX13_toolTwo 140 = .ok (.ireturn, 1) := by decide +kernel
theorem dX13_toolTwo_141 : decode cX13_toolTwo 141 = .ok (.aload_n 0, 1) := by decide +kernel
theorem dX13_toolTwo_142 : decode cX13_toolTwo 142 = .ok (.iload_n 2, 1) := by decide +kernel
theorem dX13_toolTwo_143 : decode cX13_toolTwo 143 = .ok (.iload_n 3, 1) := by decide +kernel
theorem dX13_toolTwo_144 : decode cX13_toolTwo 144 = .ok (.invokevirtual 499, 3) := by decide +kernel
theorem dX13_toolTwo_147 : decode cX13_toolTwo 147 = .ok (.ireturn, 1) := by decide +kernel
theorem dX13_toolTwo_148 : decode cX13_toolTwo 148 = .ok (.aload_n 0, 1) := by decide +kernel
theorem dX13_toolTwo_149 : decode cX13_toolTwo 149 = .ok (.iload_n 2, 1) := by decide +kernel
theorem dX13_toolTwo_150 : decode cX13_toolTwo 150 = .ok (.iload_n 3, 1) := by decide +kernel
theorem dX13_toolTwo_151 : decode cX13_toolTwo 151 = .ok (.invokevirtual 512, 3) := by decide +kernel
theorem dX13_toolTwo_154 : decode cX13_toolTwo 154 = .ok (.aload_n 0, 1) := by decide +kernel
theorem dX13_toolTwo_155 : decode cX13_toolTwo 155 = .ok (.iload_n 2, 1) := by decide +kernel
theorem dX13_toolTwo_156 : decode cX13_toolTwo 156 = .ok (.invokevirtual 515, 3) := by decide +kernel
theorem dX13_toolTwo_159 : decode cX13_toolTwo 159 = .ok (.ireturn, 1) := by decide +kernel
theorem dX13_toolTwo_160 : decode cX13_toolTwo 160 = .ok (.aload_n 0, 1) := by decide +kernel
theorem dX13_toolTwo_161 : decode cX13_toolTwo 161 = .ok (.getfield 108, 3) := by decide +kernel
theorem dX13_toolTwo_164 : decode cX13_toolTwo 164 = .ok (.bipush 7, 2) := by decide +kernel
theorem dX13_toolTwo_166 : decode cX13_toolTwo 166 = .ok (.iload_n 3, 1) := by decide +kernel
theorem dX13_toolTwo_167 : decode cX13_toolTwo 167 = .ok (.imul, 1) := by decide +kernel
theorem dX13_toolTwo_168 : decode cX13_toolTwo 168 = .ok (.laload, 1) := by decide +kernel
theorem dX13_toolTwo_169 : decode cX13_toolTwo 169 = .ok (.lconst 0, 1) := by decide +kernel
theorem dX13_toolTwo_170 : decode cX13_toolTwo 170 = .ok (.lcmp, 1) := by decide +kernel
theorem dX13_toolTwo_171 : decode cX13_toolTwo 171 = .ok (.ifCond .ge 9, 3) := by decide +kernel
theorem dX13_toolTwo_174 : decode cX13_toolTwo 174 = .ok (.aload_n 0, 1) := by decide +kernel
theorem dX13_toolTwo_175 : decode cX13_toolTwo 175 = .ok (.bipush 8, 2) := by decide +kernel
theorem dX13_toolTwo_177 : decode cX13_toolTwo 177 = .ok (.invokevirtual 452, 3) := by decide +kernel
theorem dX13_toolTwo_180 : decode cX13_toolTwo 180 = .ok (.aload_n 0, 1) := by decide +kernel
theorem dX13_toolTwo_181 : decode cX13_toolTwo 181 = .ok (.iload_n 3, 1) := by decide +kernel
theorem dX13_toolTwo_182 : decode cX13_toolTwo 182 = .ok (.iconst 0, 1) := by decide +kernel
theorem dX13_toolTwo_183 : decode cX13_toolTwo 183 = .ok (.invokevirtual 460, 3) := by decide +kernel
theorem dX13_toolTwo_186 : decode cX13_toolTwo 186 = .ok (.aload_n 0, 1) := by decide +kernel
theorem dX13_toolTwo_187 : decode cX13_toolTwo 187 = .ok (.iload_n 2, 1) := by decide +kernel
theorem dX13_toolTwo_188 : decode cX13_toolTwo 188 = .ok (.invokevirtual 515, 3) := by decide +kernel
theorem dX13_toolTwo_191 : decode cX13_toolTwo 191 = .ok (.ireturn, 1) := by decide +kernel
theorem dX13_toolTwo_192 : decode cX13_toolTwo 192 = .ok (.aload_n 0, 1) := by decide +kernel
theorem dX13_toolTwo_193 : decode cX13_toolTwo 193 = .ok (.iload_n 1, 1) := by decide +kernel
theorem dX13_toolTwo_194 : decode cX13_toolTwo 194 = .ok (.iload_n 2, 1) := by decide +kernel
theorem dX13_toolTwo_195 : decode cX13_toolTwo 195 = .ok (.iload_n 3, 1) := by decide +kernel
theorem dX13_toolTwo_196 : decode cX13_toolTwo 196 = .ok (.invokevirtual 697, 3) := by decide +kernel
theorem dX13_toolTwo_199 : decode cX13_toolTwo 199 = .ok (.ireturn, 1) := by decide +kernel
theorem dX13_toolMore_0 : decode cX13_toolMore 0 = .ok (.iload_n 1, 1) := by decide +kernel
theorem dX13_toolMore_1 : decode cX13_toolMore 1 = .ok (.tableswitch 263 13 20 #[47, 72, 79, 86, 97, 151, 158, 169], 47) := by decide +kernel
theorem dX13_toolMore_48 : decode cX13_toolMore 48 = .ok (.aload_n 0, 1) := by decide +kernel
theorem dX13_toolMore_49 : decode cX13_toolMore 49 = .ok (.iload_n 2, 1) := by decide +kernel
theorem dX13_toolMore_50 : decode cX13_toolMore 50 = .ok (.aload_n 0, 1) := by decide +kernel
theorem dX13_toolMore_51 : decode cX13_toolMore 51 = .ok (.iload_n 3, 1) := by decide +kernel
theorem dX13_toolMore_52 : decode cX13_toolMore 52 = .ok (.invokevirtual 521, 3) := by decide +kernel
theorem dX13_toolMore_55 : decode cX13_toolMore 55 = .ok (.invokevirtual 512, 3) := by decide +kernel
theorem dX13_toolMore_58 : decode cX13_toolMore 58 = .ok (.aload_n 0, 1) := by decide +kernel
theorem dX13_toolMore_59 : decode cX13_toolMore 59 = .ok (.iload_n 3, 1) := by decide +kernel
theorem dX13_toolMore_60 : decode cX13_toolMore 60 = .ok (.iconst 2, 1) := by decide +kernel
theorem dX13_toolMore_61 : decode cX13_toolMore 61 = .ok (.invokevirtual 460, 3) := by decide +kernel
theorem dX13_toolMore_64 : decode cX13_toolMore 64 = .ok (.aload_n 0, 1) := by decide +kernel
theorem dX13_toolMore_65 : decode cX13_toolMore 65 = .ok (.invokevirtual 472, 3) := by decide +kernel
theorem dX13_toolMore_68 : decode cX13_toolMore 68 = .ok (.aload_n 0, 1) := by decide +kernel
theorem dX13_toolMore_69 : decode cX13_toolMore 69 = .ok (.invokevirtual 670, 3) := by decide +kernel
theorem dX13_toolMore_72 : decode cX13_toolMore 72 = .ok (.ireturn, 1) := by decide +kernel
theorem dX13_toolMore_73 : decode cX13_toolMore 73 = .ok (.aload_n 0, 1) := by decide +kernel
theorem dX13_toolMore_74 : decode cX13_toolMore 74 = .ok (.iload_n 2, 1) := by decide +kernel
theorem dX13_toolMore_75 : decode cX13_toolMore 75 = .ok (.iload_n 3, 1) := by decide +kernel
theorem dX13_toolMore_76 : decode cX13_toolMore 76 = .ok (.invokevirtual 700, 3) := by decide +kernel
theorem dX13_toolMore_79 : decode cX13_toolMore 79 = .ok (.ireturn, 1) := by decide +kernel
theorem dX13_toolMore_80 : decode cX13_toolMore 80 = .ok (.aload_n 0, 1) := by decide +kernel
theorem dX13_toolMore_81 : decode cX13_toolMore 81 = .ok (.iload_n 2, 1) := by decide +kernel
theorem dX13_toolMore_82 : decode cX13_toolMore 82 = .ok (.iload_n 3, 1) := by decide +kernel
theorem dX13_toolMore_83 : decode cX13_toolMore 83 = .ok (.invokevirtual 703, 3) := by decide +kernel
theorem dX13_toolMore_86 : decode cX13_toolMore 86 = .ok (.ireturn, 1) := by decide +kernel
theorem dX13_toolMore_87 : decode cX13_toolMore 87 = .ok (.aload_n 0, 1) := by decide +kernel
theorem dX13_toolMore_88 : decode cX13_toolMore 88 = .ok (.iload_n 2, 1) := by decide +kernel
theorem dX13_toolMore_89 : decode cX13_toolMore 89 = .ok (.iload_n 3, 1) := by decide +kernel
theorem dX13_toolMore_90 : decode cX13_toolMore 90 = .ok (.invokevirtual 512, 3) := by decide +kernel
theorem dX13_toolMore_93 : decode cX13_toolMore 93 = .ok (.aload_n 0, 1) := by decide +kernel
theorem dX13_toolMore_94 : decode cX13_toolMore 94 = .ok (.invokevirtual 670, 3) := by decide +kernel
theorem dX13_toolMore_97 : decode cX13_toolMore 97 = .ok (.ireturn, 1) := by decide +kernel
theorem dX13_toolMore_98 : decode cX13_toolMore 98 = .ok (.aload_n 0, 1) := by decide +kernel
theorem dX13_toolMore_99 : decode cX13_toolMore 99 = .ok (.getfield 111, 3) := by decide +kernel
theorem dX13_toolMore_102 : decode cX13_toolMore 102 = .ok (.bipush 7, 2) := by decide +kernel
theorem dX13_toolMore_104 : decode cX13_toolMore 104 = .ok (.iload_n 3, 1) := by decide +kernel
theorem dX13_toolMore_105 : decode cX13_toolMore 105 = .ok (.imul, 1) := by decide +kernel
theorem dX13_toolMore_106 : decode cX13_toolMore 106 = .ok (.laload, 1) := by decide +kernel
theorem dX13_toolMore_107 : decode cX13_toolMore 107 = .ok (.lconst 1, 1) := by decide +kernel
theorem dX13_toolMore_108 : decode cX13_toolMore 108 = .ok (.lcmp, 1) := by decide +kernel
theorem dX13_toolMore_109 : decode cX13_toolMore 109 = .ok (.ifCond .ne 20, 3) := by decide +kernel
theorem dX13_toolMore_112 : decode cX13_toolMore 112 = .ok (.aload_n 0, 1) := by decide +kernel
theorem dX13_toolMore_113 : decode cX13_toolMore 113 = .ok (.getfield 108, 3) := by decide +kernel
theorem dX13_toolMore_116 : decode cX13_toolMore 116 = .ok (.bipush 7, 2) := by decide +kernel
theorem dX13_toolMore_118 : decode cX13_toolMore 118 = .ok (.iload_n 3, 1) := by decide +kernel
theorem dX13_toolMore_119 : decode cX13_toolMore 119 = .ok (.imul, 1) := by decide +kernel
theorem dX13_toolMore_120 : decode cX13_toolMore 120 = .ok (.laload, 1) := by decide +kernel
theorem dX13_toolMore_121 : decode cX13_toolMore 121 = .ok (.lconst 0, 1) := by decide +kernel
theorem dX13_toolMore_122 : decode cX13_toolMore 122 = .ok (.lconst 1, 1) := by decide +kernel
theorem dX13_toolMore_123 : decode cX13_toolMore 123 = .ok (.invokestatic 204, 3) := by decide +kernel
theorem dX13_toolMore_126 : decode cX13_toolMore 126 = .ok (.ifCond .ne 10, 3) := by decide +kernel
theorem dX13_toolMore_129 : decode cX13_toolMore 129 = .ok (.aload_n 0, 1) := by decide +kernel
theorem dX13_toolMore_130 : decode cX13_toolMore 130 = .ok (.iconst 3, 1) := by decide +kernel
theorem dX13_toolMore_131 : decode cX13_toolMore 131 = .ok (.invokevirtual 452, 3) := by decide +kernel
theorem dX13_toolMore_134 : decode cX13_toolMore 134 = .ok (.iload_n 2, 1) := by decide +kernel
theorem dX13_toolMore_135 : decode cX13_toolMore 135 = .ok (.ireturn, 1) := by decide +kernel
theorem dX13_toolMore_136 : decode cX13_toolMore 136 = .ok (.aload_n 0, 1) := by decide +kernel
theorem dX13_toolMore_137 : decode cX13_toolMore 137 = .ok (.iload_n 2, 1) := by decide +kernel
theorem dX13_toolMore_138 : decode cX13_toolMore 138 = .ok (.aload_n 0, 1) := by decide +kernel
theorem dX13_toolMore_139 : decode cX13_toolMore 139 = .ok (.getfield 108, 3) := by decide +kernel
theorem dX13_toolMore_142 : decode cX13_toolMore 142 = .ok (.bipush 7, 2) := by decide +kernel
theorem dX13_toolMore_144 : decode cX13_toolMore 144 = .ok (.iload_n 3, 1) := by decide +kernel
theorem dX13_toolMore_145 : decode cX13_toolMore 145 = .ok (.imul, 1) := by decide +kernel
theorem dX13_toolMore_146 : decode cX13_toolMore 146 = .ok (.laload, 1) := by decide +kernel
theorem dX13_toolMore_147 : decode cX13_toolMore 147 = .ok (.l2i, 1) := by decide +kernel
theorem dX13_toolMore_148 : decode cX13_toolMore 148 = .ok (.invokevirtual 518, 3) := by decide +kernel
theorem dX13_toolMore_151 : decode cX13_toolMore 151 = .ok (.ireturn, 1) := by decide +kernel
theorem dX13_toolMore_152 : decode cX13_toolMore 152 = .ok (.aload_n 0, 1) := by decide +kernel
theorem dX13_toolMore_153 : decode cX13_toolMore 153 = .ok (.iload_n 2, 1) := by decide +kernel
theorem dX13_toolMore_154 : decode cX13_toolMore 154 = .ok (.iload_n 3, 1) := by decide +kernel
theorem dX13_toolMore_155 : decode cX13_toolMore 155 = .ok (.invokevirtual 706, 3) := by decide +kernel
theorem dX13_toolMore_158 : decode cX13_toolMore 158 = .ok (.ireturn, 1) := by decide +kernel
theorem dX13_toolMore_159 : decode cX13_toolMore 159 = .ok (.aload_n 0, 1) := by decide +kernel
theorem dX13_toolMore_160 : decode cX13_toolMore 160 = .ok (.aload_n 0, 1) := by decide +kernel
theorem dX13_toolMore_161 : decode cX13_toolMore 161 = .ok (.iload_n 2, 1) := by decide +kernel
theorem dX13_toolMore_162 : decode cX13_toolMore 162 = .ok (.iload_n 3, 1) := by decide +kernel
theorem dX13_toolMore_163 : decode cX13_toolMore 163 = .ok (.invokevirtual 709, 3) := by decide +kernel
theorem dX13_toolMore_166 : decode cX13_toolMore 166 = .ok (.invokevirtual 676, 3) := by decide +kernel
theorem dX13_toolMore_169 : decode cX13_toolMore 169 = .ok (.ireturn, 1) := by decide +kernel
theorem dX13_toolMore_170 : decode cX13_toolMore 170 = .ok (.aload_n 0, 1) := by decide +kernel
theorem dX13_toolMore_171 : decode cX13_toolMore 171 = .ok (.iload_n 2, 1) := by decide +kernel
theorem dX13_toolMore_172 : decode cX13_toolMore 172 = .ok (.iconst 0, 1) := by decide +kernel
theorem dX13_toolMore_173 : decode cX13_toolMore 173 = .ok (.invokevirtual 460, 3) := by decide +kernel
theorem dX13_toolMore_176 : decode cX13_toolMore 176 = .ok (.aload_n 0, 1) := by decide +kernel
theorem dX13_toolMore_177 : decode cX13_toolMore 177 = .ok (.iload_n 3, 1) := by decide +kernel
theorem dX13_toolMore_178 : decode cX13_toolMore 178 = .ok (.iconst 1, 1) := by decide +kernel
theorem dX13_toolMore_179 : decode cX13_toolMore 179 = .ok (.invokevirtual 460, 3) := by decide +kernel
theorem dX13_toolMore_182 : decode cX13_toolMore 182 = .ok (.aload_n 0, 1) := by decide +kernel
theorem dX13_toolMore_183 : decode cX13_toolMore 183 = .ok (.invokevirtual 475, 3) := by decide +kernel
theorem dX13_toolMore_186 : decode cX13_toolMore 186 = .ok (.aload_n 0, 1) := by decide +kernel
theorem dX13_toolMore_187 : decode cX13_toolMore 187 = .ok (.iload_n 3, 1) := by decide +kernel
theorem dX13_toolMore_188 : decode cX13_toolMore 188 = .ok (.iconst 0, 1) := by decide +kernel
theorem dX13_toolMore_189 : decode cX13_toolMore 189 = .ok (.invokevirtual 460, 3) := by decide +kernel
theorem dX13_toolMore_192 : decode cX13_toolMore 192 = .ok (.aload_n 0, 1) := by decide +kernel
theorem dX13_toolMore_193 : decode cX13_toolMore 193 = .ok (.iload_n 2, 1) := by decide +kernel
theorem dX13_toolMore_194 : decode cX13_toolMore 194 = .ok (.iconst 1, 1) := by decide +kernel
theorem dX13_toolMore_195 : decode cX13_toolMore 195 = .ok (.invokevirtual 460, 3) := by decide +kernel
theorem dX13_toolMore_198 : decode cX13_toolMore 198 = .ok (.aload_n 0, 1) := by decide +kernel
theorem dX13_toolMore_199 : decode cX13_toolMore 199 = .ok (.invokevirtual 475, 3) := by decide +kernel
theorem dX13_toolMore_202 : decode cX13_toolMore 202 = .ok (.aload_n 0, 1) := by decide +kernel
theorem dX13_toolMore_203 : decode cX13_toolMore 203 = .ok (.aload_n 0, 1) := by decide +kernel
theorem dX13_toolMore_204 : decode cX13_toolMore 204 = .ok (.getfield 93, 3) := by decide +kernel
theorem dX13_toolMore_207 : decode cX13_toolMore 207 = .ok (.aload_n 0, 1) := by decide +kernel
theorem dX13_toolMore_208 : decode cX13_toolMore 208 = .ok (.getfield 437, 3) := by decide +kernel
theorem dX13_toolMore_211 : decode cX13_toolMore 211 = .ok (.iconst 1, 1) := by decide +kernel
theorem dX13_toolMore_212 : decode cX13_toolMore 212 = .ok (.isub, 1) := by decide +kernel
theorem dX13_toolMore_213 : decode cX13_toolMore 213 = .ok (.laload, 1) := by decide +kernel
theorem dX13_toolMore_214 : decode cX13_toolMore 214 = .ok (.aload_n 0, 1) := by decide +kernel
theorem dX13_toolMore_215 : decode cX13_toolMore 215 = .ok (.getfield 93, 3) := by decide +kernel
theorem dX13_toolMore_218 : decode cX13_toolMore 218 = .ok (.aload_n 0, 1) := by decide +kernel
theorem dX13_toolMore_219 : decode cX13_toolMore 219 = .ok (.getfield 437, 3) := by decide +kernel
theorem dX13_toolMore_222 : decode cX13_toolMore 222 = .ok (.iconst 2, 1) := by decide +kernel
theorem dX13_toolMore_223 : decode cX13_toolMore 223 = .ok (.isub, 1) := by decide +kernel
theorem dX13_toolMore_224 : decode cX13_toolMore 224 = .ok (.laload, 1) := by decide +kernel
theorem dX13_toolMore_225 : decode cX13_toolMore 225 = .ok (.lcmp, 1) := by decide +kernel
theorem dX13_toolMore_226 : decode cX13_toolMore 226 = .ok (.ifCond .ne 33, 3) := by decide +kernel
theorem dX13_toolMore_229 : decode cX13_toolMore 229 = .ok (.aload_n 0, 1) := by decide +kernel
theorem dX13_toolMore_230 : decode cX13_toolMore 230 = .ok (.getfield 96, 3) := by decide +kernel
theorem dX13_toolMore_233 : decode cX13_toolMore 233 = .ok (.aload_n 0, 1) := by decide +kernel
theorem dX13_toolMore_234 : decode cX13_toolMore 234 = .ok (.getfield 437, 3) := by decide +kernel
theorem dX13_toolMore_237 : decode cX13_toolMore 237 = .ok (.iconst 1, 1) := by decide +kernel
theorem dX13_toolMore_238 : decode cX13_toolMore 238 = .ok (.isub, 1) := by decide +kernel
theorem dX13_toolMore_239 : decode cX13_toolMore 239 = .ok (.laload, 1) := by decide +kernel
theorem dX13_toolMore_240 : decode cX13_toolMore 240 = .ok (.aload_n 0, 1) := by decide +kernel
theorem dX13_toolMore_241 : decode cX13_toolMore 241 = .ok (.getfield 96, 3) := by decide +kernel
theorem dX13_toolMore_244 : decode cX13_toolMore 244 = .ok (.aload_n 0, 1) := by decide +kernel
theorem dX13_toolMore_245 : decode cX13_toolMore 245 = .ok (.getfield 437, 3) := by decide +kernel
theorem dX13_toolMore_248 : decode cX13_toolMore 248 = .ok (.iconst 2, 1) := by decide +kernel
theorem dX13_toolMore_249 : decode cX13_toolMore 249 = .ok (.isub, 1) := by decide +kernel
theorem dX13_toolMore_250 : decode cX13_toolMore 250 = .ok (.laload, 1) := by decide +kernel
theorem dX13_toolMore_251 : decode cX13_toolMore 251 = .ok (.lcmp, 1) := by decide +kernel
theorem dX13_toolMore_252 : decode cX13_toolMore 252 = .ok (.ifCond .ne 7, 3) := by decide +kernel
theorem dX13_toolMore_255 : decode cX13_toolMore 255 = .ok (.iconst 1, 1) := by decide +kernel
theorem dX13_toolMore_256 : decode cX13_toolMore 256 = .ok (.goto 4, 3) := by decide +kernel
theorem dX13_toolMore_259 : decode cX13_toolMore 259 = .ok (.iconst 0, 1) := by decide +kernel
theorem dX13_toolMore_260 : decode cX13_toolMore 260 = .ok (.invokevirtual 676, 3) := by decide +kernel
theorem dX13_toolMore_263 : decode cX13_toolMore 263 = .ok (.ireturn, 1) := by decide +kernel
theorem dX13_toolMore_264 : decode cX13_toolMore 264 = .ok (.aload_n 0, 1) := by decide +kernel
theorem dX13_toolMore_265 : decode cX13_toolMore 265 = .ok (.iload_n 2, 1) := by decide +kernel
theorem dX13_toolMore_266 : decode cX13_toolMore 266 = .ok (.iconst 0, 1) := by decide +kernel
theorem dX13_toolMore_267 : decode cX13_toolMore 267 = .ok (.invokevirtual 460, 3) := by decide +kernel
theorem dX13_toolMore_270 : decode cX13_toolMore 270 = .ok (.aload_n 0, 1) := by decide +kernel
theorem dX13_toolMore_271 : decode cX13_toolMore 271 = .ok (.iload_n 3, 1) := by decide +kernel
theorem dX13_toolMore_272 : decode cX13_toolMore 272 = .ok (.iconst 0, 1) := by decide +kernel
theorem dX13_toolMore_273 : decode cX13_toolMore 273 = .ok (.invokevirtual 460, 3) := by decide +kernel
theorem dX13_toolMore_276 : decode cX13_toolMore 276 = .ok (.aload_n 0, 1) := by decide +kernel
theorem dX13_toolMore_277 : decode cX13_toolMore 277 = .ok (.invokevirtual 475, 3) := by decide +kernel
theorem dX13_toolMore_280 : decode cX13_toolMore 280 = .ok (.aload_n 0, 1) := by decide +kernel
theorem dX13_toolMore_281 : decode cX13_toolMore 281 = .ok (.iload_n 2, 1) := by decide +kernel
theorem dX13_toolMore_282 : decode cX13_toolMore 282 = .ok (.iconst 1, 1) := by decide +kernel
theorem dX13_toolMore_283 : decode cX13_toolMore 283 = .ok (.invokevirtual 460, 3) := by decide +kernel
theorem dX13_toolMore_286 : decode cX13_toolMore 286 = .ok (.aload_n 0, 1) := by decide +kernel
theorem dX13_toolMore_287 : decode cX13_toolMore 287 = .ok (.iload_n 3, 1) := by decide +kernel
theorem dX13_toolMore_288 : decode cX13_toolMore 288 = .ok (.iconst 1, 1) := by decide +kernel
theorem dX13_toolMore_289 : decode cX13_toolMore 289 = .ok (.invokevirtual 460, 3) := by decide +kernel
theorem dX13_toolMore_292 : decode cX13_toolMore 292 = .ok (.aload_n 0, 1) := by decide +kernel
theorem dX13_toolMore_293 : decode cX13_toolMore 293 = .ok (.invokevirtual 475, 3) := by decide +kernel
theorem dX13_toolMore_296 : decode cX13_toolMore 296 = .ok (.aload_n 0, 1) := by decide +kernel
theorem dX13_toolMore_297 : decode cX13_toolMore 297 = .ok (.invokevirtual 478, 3) := by decide +kernel
theorem dX13_toolMore_300 : decode cX13_toolMore 300 = .ok (.aload_n 0, 1) := by decide +kernel
theorem dX13_toolMore_301 : decode cX13_toolMore 301 = .ok (.aload_n 0, 1) := by decide +kernel
theorem dX13_toolMore_302 : decode cX13_toolMore 302 = .ok (.getfield 93, 3) := by decide +kernel
theorem dX13_toolMore_305 : decode cX13_toolMore 305 = .ok (.aload_n 0, 1) := by decide +kernel
theorem dX13_toolMore_306 : decode cX13_toolMore 306 = .ok (.getfield 437, 3) := by decide +kernel
theorem dX13_toolMore_309 : decode cX13_toolMore 309 = .ok (.iconst 1, 1) := by decide +kernel
theorem dX13_toolMore_310 : decode cX13_toolMore 310 = .ok (.isub, 1) := by decide +kernel
theorem dX13_toolMore_311 : decode cX13_toolMore 311 = .ok (.laload, 1) := by decide +kernel
theorem dX13_toolMore_312 : decode cX13_toolMore 312 = .ok (.lconst 0, 1) := by decide +kernel
theorem dX13_toolMore_313 : decode cX13_toolMore 313 = .ok (.lcmp, 1) := by decide +kernel
theorem dX13_toolMore_314 : decode cX13_toolMore 314 = .ok (.ifCond .ne 7, 3) := by decide +kernel
theorem dX13_toolMore_317 : decode cX13_toolMore 317 = .ok (.iconst 1, 1) := by decide +kernel
theorem dX13_toolMore_318 : decode cX13_toolMore 318 = .ok (.goto 4, 3) := by decide +kernel
theorem dX13_toolMore_321 : decode cX13_toolMore 321 = .ok (.iconst 0, 1) := by decide +kernel
theorem dX13_toolMore_322 : decode cX13_toolMore 322 = .ok (.invokevirtual 676, 3) := by decide +kernel
theorem dX13_toolMore_325 : decode cX13_toolMore 325 = .ok (.ireturn, 1) := by decide +kernel
theorem dX13_isWithin_0 : decode cX13_isWithin 0 = .ok (.aload_n 0, 1) := by decide +kernel
theorem dX13_isWithin_1 : decode cX13_isWithin 1 = .ok (.getfield 108, 3) := by decide +kernel
theorem dX13_isWithin_4 : decode cX13_isWithin 4 = .ok (.bipush 7, 2) := by decide +kernel
theorem dX13_isWithin_6 : decode cX13_isWithin 6 = .ok (.iload_n 1, 1) := by decide +kernel
theorem dX13_isWithin_7 : decode cX13_isWithin 7 = .ok (.imul, 1) := by decide +kernel
theorem dX13_isWithin_8 : decode cX13_isWithin 8 = .ok (.iload_n 2, 1) := by decide +kernel
theorem dX13_isWithin_9 : decode cX13_isWithin 9 = .ok (.iadd, 1) := by decide +kernel
theorem dX13_isWithin_10 : decode cX13_isWithin 10 = .ok (.laload, 1) := by decide +kernel
theorem dX13_isWithin_11 : decode cX13_isWithin 11 = .ok (.aload_n 0, 1) := by decide +kernel
theorem dX13_isWithin_12 : decode cX13_isWithin 12 = .ok (.getfield 111, 3) := by decide +kernel
theorem dX13_isWithin_15 : decode cX13_isWithin 15 = .ok (.bipush 7, 2) := by decide +kernel
theorem dX13_isWithin_17 : decode cX13_isWithin 17 = .ok (.iload_n 1, 1) := by decide +kernel
theorem dX13_isWithin_18 : decode cX13_isWithin 18 = .ok (.imul, 1) := by decide +kernel
theorem dX13_isWithin_19 : decode cX13_isWithin 19 = .ok (.iload_n 2, 1) := by decide +kernel
theorem dX13_isWithin_20 : decode cX13_isWithin 20 = .ok (.iadd, 1) := by decide +kernel
theorem dX13_isWithin_21 : decode cX13_isWithin 21 = .ok (.laload, 1) := by decide +kernel
theorem dX13_isWithin_22 : decode cX13_isWithin 22 = .ok (.aload_n 0, 1) := by decide +kernel
theorem dX13_isWithin_23 : decode cX13_isWithin 23 = .ok (.getfield 108, 3) := by decide +kernel
theorem dX13_isWithin_26 : decode cX13_isWithin 26 = .ok (.bipush 7, 2) := by decide +kernel
theorem dX13_isWithin_28 : decode cX13_isWithin 28 = .ok (.iload_n 3, 1) := by decide +kernel
theorem dX13_isWithin_29 : decode cX13_isWithin 29 = .ok (.imul, 1) := by decide +kernel
theorem dX13_isWithin_30 : decode cX13_isWithin 30 = .ok (.iconst 3, 1) := by decide +kernel
theorem dX13_isWithin_31 : decode cX13_isWithin 31 = .ok (.iadd, 1) := by decide +kernel
theorem dX13_isWithin_32 : decode cX13_isWithin 32 = .ok (.iload_n 2, 1) := by decide +kernel
theorem dX13_isWithin_33 : decode cX13_isWithin 33 = .ok (.iadd, 1) := by decide +kernel
theorem dX13_isWithin_34 : decode cX13_isWithin 34 = .ok (.laload, 1) := by decide +kernel
theorem dX13_isWithin_35 : decode cX13_isWithin 35 = .ok (.aload_n 0, 1) := by decide +kernel
theorem dX13_isWithin_36 : decode cX13_isWithin 36 = .ok (.getfield 111, 3) := by decide +kernel
theorem dX13_isWithin_39 : decode cX13_isWithin 39 = .ok (.bipush 7, 2) := by decide +kernel
theorem dX13_isWithin_41 : decode cX13_isWithin 41 = .ok (.iload_n 3, 1) := by decide +kernel
theorem dX13_isWithin_42 : decode cX13_isWithin 42 = .ok (.imul, 1) := by decide +kernel
theorem dX13_isWithin_43 : decode cX13_isWithin 43 = .ok (.iconst 3, 1) := by decide +kernel
theorem dX13_isWithin_44 : decode cX13_isWithin 44 = .ok (.iadd, 1) := by decide +kernel
theorem dX13_isWithin_45 : decode cX13_isWithin 45 = .ok (.iload_n 2, 1) := by decide +kernel
theorem dX13_isWithin_46 : decode cX13_isWithin 46 = .ok (.iadd, 1) := by decide +kernel
theorem dX13_isWithin_47 : decode cX13_isWithin 47 = .ok (.laload, 1) := by decide +kernel
theorem dX13_isWithin_48 : decode cX13_isWithin 48 = .ok (.invokestatic 540, 3) := by decide +kernel
theorem dX13_isWithin_51 : decode cX13_isWithin 51 = .ok (.istore 4, 2) := by decide +kernel
theorem dX13_isWithin_53 : decode cX13_isWithin 53 = .ok (.aload_n 0, 1) := by decide +kernel
theorem dX13_isWithin_54 : decode cX13_isWithin 54 = .ok (.getfield 108, 3) := by decide +kernel
theorem dX13_isWithin_57 : decode cX13_isWithin 57 = .ok (.bipush 7, 2) := by decide +kernel
theorem dX13_isWithin_59 : decode cX13_isWithin 59 = .ok (.iload_n 1, 1) := by decide +kernel
theorem dX13_isWithin_60 : decode cX13_isWithin 60 = .ok (.imul, 1) := by decide +kernel
theorem dX13_isWithin_61 : decode cX13_isWithin 61 = .ok (.iload_n 2, 1) := by decide +kernel
theorem dX13_isWithin_62 : decode cX13_isWithin 62 = .ok (.iadd, 1) := by decide +kernel
theorem dX13_isWithin_63 : decode cX13_isWithin 63 = .ok (.laload, 1) := by decide +kernel
theorem dX13_isWithin_64 : decode cX13_isWithin 64 = .ok (.aload_n 0, 1) := by decide +kernel
theorem dX13_isWithin_65 : decode cX13_isWithin 65 = .ok (.getfield 111, 3) := by decide +kernel
theorem dX13_isWithin_68 : decode cX13_isWithin 68 = .ok (.bipush 7, 2) := by decide +kernel
theorem dX13_isWithin_70 : decode cX13_isWithin 70 = .ok (.iload_n 1, 1) := by decide +kernel
theorem dX13_isWithin_71 : decode cX13_isWithin 71 = .ok (.imul, 1) := by decide +kernel
theorem dX13_isWithin_72 : decode cX13_isWithin 72 = .ok (.iload_n 2, 1) := by decide +kernel
theorem dX13_isWithin_73 : decode cX13_isWithin 73 = .ok (.iadd, 1) := by decide +kernel
theorem dX13_isWithin_74 : decode cX13_isWithin 74 = .ok (.laload, 1) := by decide +kernel
theorem dX13_isWithin_75 : decode cX13_isWithin 75 = .ok (.aload_n 0, 1) := by decide +kernel
theorem dX13_isWithin_76 : decode cX13_isWithin 76 = .ok (.getfield 108, 3) := by decide +kernel
theorem dX13_isWithin_79 : decode cX13_isWithin 79 = .ok (.bipush 7, 2) := by decide +kernel
theorem dX13_isWithin_81 : decode cX13_isWithin 81 = .ok (.iload_n 3, 1) := by decide +kernel
theorem dX13_isWithin_82 : decode cX13_isWithin 82 = .ok (.imul, 1) := by decide +kernel
theorem dX13_isWithin_83 : decode cX13_isWithin 83 = .ok (.iconst 5, 1) := by decide +kernel
theorem dX13_isWithin_84 : decode cX13_isWithin 84 = .ok (.iadd, 1) := by decide +kernel
theorem dX13_isWithin_85 : decode cX13_isWithin 85 = .ok (.iload_n 2, 1) := by decide +kernel
theorem dX13_isWithin_86 : decode cX13_isWithin 86 = .ok (.iadd, 1) := by decide +kernel
theorem dX13_isWithin_87 : decode cX13_isWithin 87 = .ok (.laload, 1) := by decide +kernel
theorem dX13_isWithin_88 : decode cX13_isWithin 88 = .ok (.aload_n 0, 1) := by decide +kernel
theorem dX13_isWithin_89 : decode cX13_isWithin 89 = .ok (.getfield 111, 3) := by decide +kernel
theorem dX13_isWithin_92 : decode cX13_isWithin 92 = .ok (.bipush 7, 2) := by decide +kernel
theorem dX13_isWithin_94 : decode cX13_isWithin 94 = .ok (.iload_n 3, 1) := by decide +kernel
theorem dX13_isWithin_95 : decode cX13_isWithin 95 = .ok (.imul, 1) := by decide +kernel
theorem dX13_isWithin_96 : decode cX13_isWithin 96 = .ok (.iconst 5, 1) := by decide +kernel
theorem dX13_isWithin_97 : decode cX13_isWithin 97 = .ok (.iadd, 1) := by decide +kernel
theorem dX13_isWithin_98 : decode cX13_isWithin 98 = .ok (.iload_n 2, 1) := by decide +kernel
theorem dX13_isWithin_99 : decode cX13_isWithin 99 = .ok (.iadd, 1) := by decide +kernel
theorem dX13_isWithin_100 : decode cX13_isWithin 100 = .ok (.laload, 1) := by decide +kernel
theorem dX13_isWithin_101 : decode cX13_isWithin 101 = .ok (.invokestatic 540, 3) := by decide +kernel
theorem dX13_isWithin_104 : decode cX13_isWithin 104 = .ok (.istore 5, 2) := by decide +kernel
theorem dX13_isWithin_106 : decode cX13_isWithin 106 = .ok (.iload 4, 2) := by decide +kernel
theorem dX13_isWithin_108 : decode cX13_isWithin 108 = .ok (.iload 5, 2) := by decide +kernel
theorem dX13_isWithin_110 : decode cX13_isWithin 110 = .ok (.imul, 1) := by decide +kernel
theorem dX13_isWithin_111 : decode cX13_isWithin 111 = .ok (.ifCond .gt 7, 3) := by decide +kernel
theorem dX13_isWithin_114 : decode cX13_isWithin 114 = .ok (.iconst 1, 1) := by decide +kernel
theorem dX13_isWithin_115 : decode cX13_isWithin 115 = .ok (.goto 4, 3) := by decide +kernel
theorem dX13_isWithin_118 : decode cX13_isWithin 118 = .ok (.iconst 0, 1) := by decide +kernel
theorem dX13_isWithin_119 : decode cX13_isWithin 119 = .ok (.ireturn, 1) := by decide +kernel
theorem dX13_isOn_0 : decode cX13_isOn 0 = .ok (.aload_n 0, 1) := by decide +kernel
theorem dX13_isOn_1 : decode cX13_isOn 1 = .ok (.getfield 99, 3) := by decide +kernel
theorem dX13_isOn_4 : decode cX13_isOn 4 = .ok (.iload_n 2, 1) := by decide +kernel
theorem dX13_isOn_5 : decode cX13_isOn 5 = .ok (.iaload, 1) := by decide +kernel
theorem dX13_isOn_6 : decode cX13_isOn 6 = .ok (.invokestatic 645, 3) := by decide +kernel
theorem dX13_isOn_9 : decode cX13_isOn 9 = .ok (.ifCond .eq 111, 3) := by decide +kernel
theorem dX13_isOn_12 : decode cX13_isOn 12 = .ok (.aload_n 0, 1) := by decide +kernel
theorem dX13_isOn_13 : decode cX13_isOn 13 = .ok (.iload_n 2, 1) := by decide +kernel
theorem dX13_isOn_14 : decode cX13_isOn 14 = .ok (.iload_n 1, 1) := by decide +kernel
theorem dX13_isOn_15 : decode cX13_isOn 15 = .ok (.invokevirtual 490, 3) := by decide +kernel
theorem dX13_isOn_18 : decode cX13_isOn 18 = .ok (.aload_n 0, 1) := by decide +kernel
theorem dX13_isOn_19 : decode cX13_isOn 19 = .ok (.getfield 93, 3) := by decide +kernel
theorem dX13_isOn_22 : decode cX13_isOn 22 = .ok (.aload_n 0, 1) := by decide +kernel
theorem dX13_isOn_23 : decode cX13_isOn 23 = .ok (.getfield 437, 3) := by decide +kernel
theorem dX13_isOn_26 : decode cX13_isOn 26 = .ok (.iconst 1, 1) := by decide +kernel
theorem dX13_isOn_27 : decode cX13_isOn 27 = .ok (.isub, 1) := by decide +kernel
theorem dX13_isOn_28 : decode cX13_isOn 28 = .ok (.laload, 1) := by decide +kernel
theorem dX13_isOn_29 : decode cX13_isOn 29 = .ok (.aload_n 0, 1) := by decide +kernel
theorem dX13_isOn_30 : decode cX13_isOn 30 = .ok (.getfield 108, 3) := by decide +kernel
theorem dX13_isOn_33 : decode cX13_isOn 33 = .ok (.bipush 7, 2) := by decide +kernel
theorem dX13_isOn_35 : decode cX13_isOn 35 = .ok (.iload_n 2, 1) := by decide +kernel
theorem dX13_isOn_36 : decode cX13_isOn 36 = .ok (.imul, 1) := by decide +kernel
theorem dX13_isOn_37 : decode cX13_isOn 37 = .ok (.iconst 2, 1) := by decide +kernel
theorem dX13_isOn_38 : decode cX13_isOn 38 = .ok (.iadd, 1) := by decide +kernel
theorem dX13_isOn_39 : decode cX13_isOn 39 = .ok (.laload, 1) := by decide +kernel
theorem dX13_isOn_40 : decode cX13_isOn 40 = .ok (.lcmp, 1) := by decide +kernel
theorem dX13_isOn_41 : decode cX13_isOn 41 = .ok (.ifCond .ne 33, 3) := by decide +kernel
theorem dX13_isOn_44 : decode cX13_isOn 44 = .ok (.aload_n 0, 1) := by decide +kernel
theorem dX13_isOn_45 : decode cX13_isOn 45 = .ok (.getfield 96, 3) := by decide +kernel
theorem dX13_isOn_48 : decode cX13_isOn 48 = .ok (.aload_n 0, 1) := by decide +kernel
theorem dX13_isOn_49 : decode cX13_isOn 49 = .ok (.getfield 437, 3) := by decide +kernel
theorem dX13_isOn_52 : decode cX13_isOn 52 = .ok (.iconst 1, 1) := by decide +kernel
theorem dX13_isOn_53 : decode cX13_isOn 53 = .ok (.isub, 1) := by decide +kernel
theorem dX13_isOn_54 : decode cX13_isOn 54 = .ok (.laload, 1) := by decide +kernel
theorem dX13_isOn_55 : decode cX13_isOn 55 = .ok (.aload_n 0, 1) := by decide +kernel
theorem dX13_isOn_56 : decode cX13_isOn 56 = .ok (.getfield 111, 3) := by decide +kernel
theorem dX13_isOn_59 : decode cX13_isOn 59 = .ok (.bipush 7, 2) := by decide +kernel
theorem dX13_isOn_61 : decode cX13_isOn 61 = .ok (.iload_n 2, 1) := by decide +kernel
theorem dX13_isOn_62 : decode cX13_isOn 62 = .ok (.imul, 1) := by decide +kernel
theorem dX13_isOn_63 : decode cX13_isOn 63 = .ok (.iconst 2, 1) := by decide +kernel
theorem dX13_isOn_64 : decode cX13_isOn 64 = .ok (.iadd, 1) := by decide +kernel
theorem dX13_isOn_65 : decode cX13_isOn 65 = .ok (.laload, 1) := by decide +kernel
theorem dX13_isOn_66 : decode cX13_isOn 66 = .ok (.lcmp, 1) := by decide +kernel
theorem dX13_isOn_67 : decode cX13_isOn 67 = .ok (.ifCond .ne 7, 3) := by decide +kernel
theorem dX13_isOn_70 : decode cX13_isOn 70 = .ok (.iconst 1, 1) := by decide +kernel
theorem dX13_isOn_71 : decode cX13_isOn 71 = .ok (.goto 4, 3) := by decide +kernel
theorem dX13_isOn_74 : decode cX13_isOn 74 = .ok (.iconst 0, 1) := by decide +kernel
theorem dX13_isOn_75 : decode cX13_isOn 75 = .ok (.istore_n 3, 1) := by decide +kernel
theorem dX13_isOn_76 : decode cX13_isOn 76 = .ok (.aload_n 0, 1) := by decide +kernel
theorem dX13_isOn_77 : decode cX13_isOn 77 = .ok (.iload_n 3, 1) := by decide +kernel
theorem dX13_isOn_78 : decode cX13_isOn 78 = .ok (.ifCond .eq 37, 3) := by decide +kernel
theorem dX13_isOn_81 : decode cX13_isOn 81 = .ok (.aload_n 0, 1) := by decide +kernel
theorem dX13_isOn_82 : decode cX13_isOn 82 = .ok (.getfield 99, 3) := by decide +kernel
theorem dX13_isOn_85 : decode cX13_isOn 85 = .ok (.iload_n 2, 1) := by decide +kernel
theorem dX13_isOn_86 : decode cX13_isOn 86 = .ok (.iaload, 1) := by decide +kernel
theorem dX13_isOn_87 : decode cX13_isOn 87 = .ok (.iconst 3, 1) := by decide +kernel
theorem dX13_isOn_88 : decode cX13_isOn 88 = .ok (.if_icmp .eq 23, 3) := by decide +kernel
theorem dX13_isOn_91 : decode cX13_isOn 91 = .ok (.aload_n 0, 1) := by decide +kernel
theorem dX13_isOn_92 : decode cX13_isOn 92 = .ok (.iload_n 1, 1) := by decide +kernel
theorem dX13_isOn_93 : decode cX13_isOn 93 = .ok (.iconst 0, 1) := by decide +kernel
theorem dX13_isOn_94 : decode cX13_isOn 94 = .ok (.iload_n 2, 1) := by decide +kernel
theorem dX13_isOn_95 : decode cX13_isOn 95 = .ok (.invokevirtual 713, 3) := by decide +kernel
theorem dX13_isOn_98 : decode cX13_isOn 98 = .ok (.ifCond .eq 17, 3) := by decide +kernel
theorem dX13_isOn_101 : decode cX13_isOn 101 = .ok (.aload_n 0, 1) := by decide +kernel
theorem dX13_isOn_102 : decode cX13_isOn 102 = .ok (.iload_n 1, 1) := by decide +kernel
theorem dX13_isOn_103 : decode cX13_isOn 103 = .ok (.iconst 1, 1) := by decide +kernel
theorem dX13_isOn_104 : decode cX13_isOn 104 = .ok (.iload_n 2, 1) := by decide +kernel
theorem dX13_isOn_105 : decode cX13_isOn 105 = .ok (.invokevirtual 713, 3) := by decide +kernel
theorem dX13_isOn_108 : decode cX13_isOn 108 = .ok (.ifCond .eq 7, 3) := by decide +kernel
theorem dX13_isOn_111 : decode cX13_isOn 111 = .ok (.iconst 1, 1) := by decide +kernel
theorem dX13_isOn_112 : decode cX13_isOn 112 = .ok (.goto 4, 3) := by decide +kernel
theorem dX13_isOn_115 : decode cX13_isOn 115 = .ok (.iconst 0, 1) := by decide +kernel
theorem dX13_isOn_116 : decode cX13_isOn 116 = .ok (.invokevirtual 676, 3) := by decide +kernel
theorem dX13_isOn_119 : decode cX13_isOn 119 = .ok (.ireturn, 1) := by decide +kernel
theorem dX13_isOn_120 : decode cX13_isOn 120 = .ok (.aload_n 0, 1) := by decide +kernel
theorem dX13_isOn_121 : decode cX13_isOn 121 = .ok (.getfield 99, 3) := by decide +kernel
theorem dX13_isOn_124 : decode cX13_isOn 124 = .ok (.iload_n 2, 1) := by decide +kernel
theorem dX13_isOn_125 : decode cX13_isOn 125 = .ok (.iaload, 1) := by decide +kernel
theorem dX13_isOn_126 : decode cX13_isOn 126 = .ok (.iconst 5, 1) := by decide +kernel
theorem dX13_isOn_127 : decode cX13_isOn 127 = .ok (.if_icmp .eq 10, 3) := by decide +kernel
theorem dX13_isOn_130 : decode cX13_isOn 130 = .ok (.aload_n 0, 1) := by decide +kernel
theorem dX13_isOn_131 : decode cX13_isOn 131 = .ok (.iconst 2, 1) := by decide +kernel
theorem dX13_isOn_132 : decode cX13_isOn 132 = .ok (.invokevirtual 452, 3) := by decide +kernel
theorem dX13_isOn_135 : decode cX13_isOn 135 = .ok (.iload_n 1, 1) := by decide +kernel
theorem dX13_isOn_136 : decode cX13_isOn 136 = .ok (.ireturn, 1) := by decide +kernel
theorem dX13_isOn_137 : decode cX13_isOn 137 = .ok (.aload_n 0, 1) := by decide +kernel
theorem dX13_isOn_138 : decode cX13_isOn 138 = .ok (.iload_n 1, 1) := by decide +kernel
theorem dX13_isOn_139 : decode cX13_isOn 139 = .ok (.aload_n 0, 1) := by decide +kernel
theorem dX13_isOn_140 : decode cX13_isOn 140 = .ok (.iload_n 2, 1) := by decide +kernel
theorem dX13_isOn_141 : decode cX13_isOn 141 = .ok (.invokevirtual 521, 3) := by decide +kernel
theorem dX13_isOn_144 : decode cX13_isOn 144 = .ok (.invokevirtual 512, 3) := by decide +kernel
theorem dX13_isOn_147 : decode cX13_isOn 147 = .ok (.aload_n 0, 1) := by decide +kernel
theorem dX13_isOn_148 : decode cX13_isOn 148 = .ok (.aload_n 0, 1) := by decide +kernel
theorem dX13_isOn_149 : decode cX13_isOn 149 = .ok (.getfield 93, 3) := by decide +kernel
theorem dX13_isOn_152 : decode cX13_isOn 152 = .ok (.aload_n 0, 1) := by decide +kernel
theorem dX13_isOn_153 : decode cX13_isOn 153 = .ok (.getfield 437, 3) := by decide +kernel
theorem dX13_isOn_156 : decode cX13_isOn 156 = .ok (.iconst 1, 1) := by decide +kernel
theorem dX13_isOn_157 : decode cX13_isOn 157 = .ok (.isub, 1) := by decide +kernel
theorem dX13_isOn_158 : decode cX13_isOn 158 = .ok (.laload, 1) := by decide +kernel
theorem dX13_isOn_159 : decode cX13_isOn 159 = .ok (.aload_n 0, 1) := by decide +kernel
theorem dX13_isOn_160 : decode cX13_isOn 160 = .ok (.getfield 108, 3) := by decide +kernel
theorem dX13_isOn_163 : decode cX13_isOn 163 = .ok (.bipush 7, 2) := by decide +kernel
theorem dX13_isOn_165 : decode cX13_isOn 165 = .ok (.iload_n 2, 1) := by decide +kernel
theorem dX13_isOn_166 : decode cX13_isOn 166 = .ok (.imul, 1) := by decide +kernel
theorem dX13_isOn_167 : decode cX13_isOn 167 = .ok (.iconst 2, 1) := by decide +kernel
theorem dX13_isOn_168 : decode cX13_isOn 168 = .ok (.iadd, 1) := by decide +kernel
theorem dX13_isOn_169 : decode cX13_isOn 169 = .ok (.laload, 1) := by decide +kernel
theorem dX13_isOn_170 : decode cX13_isOn 170 = .ok (.lcmp, 1) := by decide +kernel
theorem dX13_isOn_171 : decode cX13_isOn 171 = .ok (.ifCond .ne 33, 3) := by decide +kernel
theorem dX13_isOn_174 : decode cX13_isOn 174 = .ok (.aload_n 0, 1) := by decide +kernel
theorem dX13_isOn_175 : decode cX13_isOn 175 = .ok (.getfield 96, 3) := by decide +kernel
theorem dX13_isOn_178 : decode cX13_isOn 178 = .ok (.aload_n 0, 1) := by decide +kernel
theorem dX13_isOn_179 : decode cX13_isOn 179 = .ok (.getfield 437, 3) := by decide +kernel
theorem dX13_isOn_182 : decode cX13_isOn 182 = .ok (.iconst 1, 1) := by decide +kernel
theorem dX13_isOn_183 : decode cX13_isOn 183 = .ok (.isub, 1) := by decide +kernel
theorem dX13_isOn_184 : decode cX13_isOn 184 = .ok (.laload, 1) := by decide +kernel
theorem dX13_isOn_185 : decode cX13_isOn 185 = .ok (.aload_n 0, 1) := by decide +kernel
theorem dX13_isOn_186 : decode cX13_isOn 186 = .ok (.getfield 111, 3) := by decide +kernel
theorem dX13_isOn_189 : decode cX13_isOn 189 = .ok (.bipush 7, 2) := by decide +kernel
theorem dX13_isOn_191 : decode cX13_isOn 191 = .ok (.iload_n 2, 1) := by decide +kernel
theorem dX13_isOn_192 : decode cX13_isOn 192 = .ok (.imul, 1) := by decide +kernel
theorem dX13_isOn_193 : decode cX13_isOn 193 = .ok (.iconst 2, 1) := by decide +kernel
theorem dX13_isOn_194 : decode cX13_isOn 194 = .ok (.iadd, 1) := by decide +kernel
theorem dX13_isOn_195 : decode cX13_isOn 195 = .ok (.laload, 1) := by decide +kernel
theorem dX13_isOn_196 : decode cX13_isOn 196 = .ok (.lcmp, 1) := by decide +kernel
theorem dX13_isOn_197 : decode cX13_isOn 197 = .ok (.ifCond .ne 7, 3) := by decide +kernel
theorem dX13_isOn_200 : decode cX13_isOn 200 = .ok (.iconst 1, 1) := by decide +kernel
theorem dX13_isOn_201 : decode cX13_isOn 201 = .ok (.goto 4, 3) := by decide +kernel
theorem dX13_isOn_204 : decode cX13_isOn 204 = .ok (.iconst 0, 1) := by decide +kernel
theorem dX13_isOn_205 : decode cX13_isOn 205 = .ok (.invokevirtual 676, 3) := by decide +kernel
theorem dX13_isOn_208 : decode cX13_isOn 208 = .ok (.ireturn, 1) := by decide +kernel
theorem dX13_areLike_0 : decode cX13_areLike 0 = .ok (.aload_n 0, 1) := by decide +kernel
theorem dX13_areLike_1 : decode cX13_areLike 1 = .ok (.getfield 99, 3) := by decide +kernel
theorem dX13_areLike_4 : decode cX13_areLike 4 = .ok (.iload_n 1, 1) := by decide +kernel
theorem dX13_areLike_5 : decode cX13_areLike 5 = .ok (.iaload, 1) := by decide +kernel
theorem dX13_areLike_6 : decode cX13_areLike 6 = .ok (.istore_n 3, 1) := by decide +kernel
theorem dX13_areLike_7 : decode cX13_areLike 7 = .ok (.aload_n 0, 1) := by decide +kernel
theorem dX13_areLike_8 : decode cX13_areLike 8 = .ok (.getfield 99, 3) := by decide +kernel
theorem dX13_areLike_11 : decode cX13_areLike 11 = .ok (.iload_n 2, 1) := by decide +kernel
theorem dX13_areLike_12 : decode cX13_areLike 12 = .ok (.iaload, 1) := by decide +kernel
theorem dX13_areLike_13 : decode cX13_areLike 13 = .ok (.istore 4, 2) := by decide +kernel
theorem dX13_areLike_15 : decode cX13_areLike 15 = .ok (.iload_n 3, 1) := by decide +kernel
theorem dX13_areLike_16 : decode cX13_areLike 16 = .ok (.bipush 6, 2) := by decide +kernel
theorem dX13_areLike_18 : decode cX13_areLike 18 = .ok (.if_icmp .eq 10, 3) := by decide +kernel
theorem dX13_areLike_21 : decode cX13_areLike 21 = .ok (.iload 4, 2) := by decide +kernel
theorem dX13_areLike_23 : decode cX13_areLike 23 = .ok (.bipush 6, 2) := by decide +kernel
theorem dX13_areLike_25 : decode cX13_areLike 25 = .ok (.if_icmp .ne 30, 3) := by decide +kernel
theorem dX13_areLike_28 : decode cX13_areLike 28 = .ok (.iload_n 3, 1) := by decide +kernel
theorem dX13_areLike_29 : decode cX13_areLike 29 = .ok (.iload 4, 2) := by decide +kernel
theorem dX13_areLike_31 : decode cX13_areLike 31 = .ok (.if_icmp .ne 22, 3) := by decide +kernel
theorem dX13_areLike_34 : decode cX13_areLike 34 = .ok (.aload_n 0, 1) := by decide +kernel
theorem dX13_areLike_35 : decode cX13_areLike 35 = .ok (.getfield 105, 3) := by decide +kernel
theorem dX13_areLike_38 : decode cX13_areLike 38 = .ok (.iload_n 1, 1) := by decide +kernel
theorem dX13_areLike_39 : decode cX13_areLike 39 = .ok (.iaload, 1) := by decide +kernel
theorem dX13_areLike_40 : decode cX13_areLike 40 = .ok (.aload_n 0, 1) := by decide +kernel
theorem dX13_areLike_41 : decode cX13_areLike 41 = .ok (.getfield 105, 3) := by decide +kernel
theorem dX13_areLike_44 : decode cX13_areLike 44 = .ok (.iload_n 2, 1) := by decide +kernel
theorem dX13_areLike_45 : decode cX13_areLike 45 = .ok (.iaload, 1) := by decide +kernel
theorem dX13_areLike_46 : decode cX13_areLike 46 = .ok (.if_icmp .ne 7, 3) := by decide +kernel
theorem dX13_areLike_49 : decode cX13_areLike 49 = .ok (.iconst 1, 1) := by decide +kernel
theorem dX13_areLike_50 : decode cX13_areLike 50 = .ok (.goto 4, 3) := by decide +kernel
theorem dX13_areLike_53 : decode cX13_areLike 53 = .ok (.iconst 0, 1) := by decide +kernel
theorem dX13_areLike_54 : decode cX13_areLike 54 = .ok (.ireturn, 1) := by decide +kernel
theorem dX13_areLike_55 : decode cX13_areLike 55 = .ok (.iload_n 3, 1) := by decide +kernel
theorem dX13_areLike_56 : decode cX13_areLike 56 = .ok (.iload 4, 2) := by decide +kernel
theorem dX13_areLike_58 : decode cX13_areLike 58 = .ok (.if_icmp .eq 33, 3) := by decide +kernel
theorem dX13_areLike_61 : decode cX13_areLike 61 = .ok (.iload_n 3, 1) := by decide +kernel
theorem dX13_areLike_62 : decode cX13_areLike 62 = .ok (.invokestatic 642, 3) := by decide +kernel
theorem dX13_areLike_65 : decode cX13_areLike 65 = .ok (.ifCond .eq 11, 3) := by decide +kernel
theorem dX13_areLike_68 : decode cX13_areLike 68 = .ok (.iload 4, 2) := by decide +kernel
theorem dX13_areLike_70 : decode cX13_areLike 70 = .ok (.invokestatic 642, 3) := by decide +kernel
theorem dX13_areLike_73 : decode cX13_areLike 73 = .ok (.ifCond .ne 18, 3) := by decide +kernel
theorem dX13_areLike_76 : decode cX13_areLike 76 = .ok (.iload_n 3, 1) := by decide +kernel
theorem dX13_areLike_77 : decode cX13_areLike 77 = .ok (.invokestatic 645, 3) := by decide +kernel
theorem dX13_areLike_80 : decode cX13_areLike 80 = .ok (.ifCond .eq 15, 3) := by decide +kernel
theorem dX13_areLike_83 : decode cX13_areLike 83 = .ok (.iload 4, 2) := by decide +kernel
theorem dX13_areLike_85 : decode cX13_areLike 85 = .ok (.invokestatic 645, 3) := by decide +kernel
theorem dX13_areLike_88 : decode cX13_areLike 88 = .ok (.ifCond .eq 7, 3) := by decide +kernel
theorem dX13_areLike_91 : decode cX13_areLike 91 = .ok (.iconst 1, 1) := by decide +kernel
theorem dX13_areLike_92 : decode cX13_areLike 92 = .ok (.goto 4, 3) := by decide +kernel
theorem dX13_areLike_95 : decode cX13_areLike 95 = .ok (.iconst 0, 1) := by decide +kernel
theorem dX13_areLike_96 : decode cX13_areLike 96 = .ok (.istore 5, 2) := by decide +kernel
theorem dX13_areLike_98 : decode cX13_areLike 98 = .ok (.iload_n 3, 1) := by decide +kernel
theorem dX13_areLike_99 : decode cX13_areLike 99 = .ok (.ifCond .ne 7, 3) := by decide +kernel
theorem dX13_areLike_102 : decode cX13_areLike 102 = .ok (.iconst 1, 1) := by decide +kernel
theorem dX13_areLike_103 : decode cX13_areLike 103 = .ok (.goto 15, 3) := by decide +kernel
theorem dX13_areLike_106 : decode cX13_areLike 106 = .ok (.iload_n 3, 1) := by decide +kernel
theorem dX13_areLike_107 : decode cX13_areLike 107 = .ok (.invokestatic 642, 3) := by decide +kernel
theorem dX13_areLike_110 : decode cX13_areLike 110 = .ok (.ifCond .eq 7, 3) := by decide +kernel
theorem dX13_areLike_113 : decode cX13_areLike 113 = .ok (.iconst 2, 1) := by decide +kernel
theorem dX13_areLike_114 : decode cX13_areLike 114 = .ok (.goto 4, 3) := by decide +kernel
theorem dX13_areLike_117 : decode cX13_areLike 117 = .ok (.iconst 3, 1) := by decide +kernel
theorem dX13_areLike_118 : decode cX13_areLike 118 = .ok (.istore 6, 2) := by decide +kernel
theorem dX13_areLike_120 : decode cX13_areLike 120 = .ok (.iconst 0, 1) := by decide +kernel
theorem dX13_areLike_121 : decode cX13_areLike 121 = .ok (.istore 7, 2) := by decide +kernel
theorem dX13_areLike_123 : decode cX13_areLike 123 = .ok (.iload 7, 2) := by decide +kernel
theorem dX13_areLike_125 : decode cX13_areLike 125 = .ok (.iload 6, 2) := by decide +kernel
theorem dX13_areLike_127 : decode cX13_areLike 127 = .ok (.if_icmp .ge 77, 3) := by decide +kernel
theorem dX13_areLike_130 : decode cX13_areLike 130 = .ok (.iload 5, 2) := by decide +kernel
theorem dX13_areLike_132 : decode cX13_areLike 132 = .ok (.ifCond .eq 72, 3) := by decide +kernel
theorem dX13_areLike_135 : decode cX13_areLike 135 = .ok (.aload_n 0, 1) := by decide +kernel
theorem dX13_areLike_136 : decode cX13_areLike 136 = .ok (.getfield 108, 3) := by decide +kernel
theorem dX13_areLike_139 : decode cX13_areLike 139 = .ok (.bipush 7, 2) := by decide +kernel
theorem dX13_areLike_141 : decode cX13_areLike 141 = .ok (.iload_n 1, 1) := by decide +kernel
theorem dX13_areLike_142 : decode cX13_areLike 142 = .ok (.imul, 1) := by decide +kernel
theorem dX13_areLike_143 : decode cX13_areLike 143 = .ok (.iload 7, 2) := by decide +kernel
theorem dX13_areLike_145 : decode cX13_areLike 145 = .ok (.iadd, 1) := by decide +kernel
theorem dX13_areLike_146 : decode cX13_areLike 146 = .ok (.laload, 1) := by decide +kernel
theorem dX13_areLike_147 : decode cX13_areLike 147 = .ok (.aload_n 0, 1) := by decide +kernel
theorem dX13_areLike_148 : decode cX13_areLike 148 = .ok (.getfield 108, 3) := by decide +kernel
theorem dX13_areLike_151 : decode cX13_areLike 151 = .ok (.bipush 7, 2) := by decide +kernel
theorem dX13_areLike_153 : decode cX13_areLike 153 = .ok (.iload_n 2, 1) := by decide +kernel
theorem dX13_areLike_154 : decode cX13_areLike 154 = .ok (.imul, 1) := by decide +kernel
theorem dX13_areLike_155 : decode cX13_areLike 155 = .ok (.iload 7, 2) := by decide +kernel
theorem dX13_areLike_157 : decode cX13_areLike 157 = .ok (.iadd, 1) := by decide +kernel
theorem dX13_areLike_158 : decode cX13_areLike 158 = .ok (.laload, 1) := by decide +kernel
theorem dX13_areLike_159 : decode cX13_areLike 159 = .ok (.lcmp, 1) := by decide +kernel
theorem dX13_areLike_160 : decode cX13_areLike 160 = .ok (.ifCond .ne 35, 3) := by decide +kernel
theorem dX13_areLike_163 : decode cX13_areLike 163 = .ok (.aload_n 0, 1) := by decide +kernel
theorem dX13_areLike_164 : decode cX13_areLike 164 = .ok (.getfield 111, 3) := by decide +kernel
theorem dX13_areLike_167 : decode cX13_areLike 167 = .ok (.bipush 7, 2) := by decide +kernel
theorem dX13_areLike_169 : decode cX13_areLike 169 = .ok (.iload_n 1, 1) := by decide +kernel
theorem dX13_areLike_170 : decode cX13_areLike 170 = .ok (.imul, 1) := by decide +kernel
theorem dX13_areLike_171 : decode cX13_areLike 171 = .ok (.iload 7, 2) := by decide +kernel
theorem dX13_areLike_173 : decode cX13_areLike 173 = .ok (.iadd, 1) := by decide +kernel
theorem dX13_areLike_174 : decode cX13_areLike 174 = .ok (.laload, 1) := by decide +kernel
theorem dX13_areLike_175 : decode cX13_areLike 175 = .ok (.aload_n 0, 1) := by decide +kernel
theorem dX13_areLike_176 : decode cX13_areLike 176 = .ok (.getfield 111, 3) := by decide +kernel
theorem dX13_areLike_179 : decode cX13_areLike 179 = .ok (.bipush 7, 2) := by decide +kernel
theorem dX13_areLike_181 : decode cX13_areLike 181 = .ok (.iload_n 2, 1) := by decide +kernel
theorem dX13_areLike_182 : decode cX13_areLike 182 = .ok (.imul, 1) := by decide +kernel
theorem dX13_areLike_183 : decode cX13_areLike 183 = .ok (.iload 7, 2) := by decide +kernel
theorem dX13_areLike_185 : decode cX13_areLike 185 = .ok (.iadd, 1) := by decide +kernel
theorem dX13_areLike_186 : decode cX13_areLike 186 = .ok (.laload, 1) := by decide +kernel
theorem dX13_areLike_187 : decode cX13_areLike 187 = .ok (.lcmp, 1) := by decide +kernel
theorem dX13_areLike_188 : decode cX13_areLike 188 = .ok (.ifCond .ne 7, 3) := by decide +kernel
theorem dX13_areLike_191 : decode cX13_areLike 191 = .ok (.iconst 1, 1) := by decide +kernel
theorem dX13_areLike_192 : decode cX13_areLike 192 = .ok (.goto 4, 3) := by decide +kernel
theorem dX13_areLike_195 : decode cX13_areLike 195 = .ok (.iconst 0, 1) := by decide +kernel
theorem dX13_areLike_196 : decode cX13_areLike 196 = .ok (.istore 5, 2) := by decide +kernel
theorem dX13_areLike_198 : decode cX13_areLike 198 = .ok (.iinc 7 1, 3) := by decide +kernel
theorem dX13_areLike_201 : decode cX13_areLike 201 = .ok (.goto (-78), 3) := by decide +kernel
theorem dX13_areLike_204 : decode cX13_areLike 204 = .ok (.iload 5, 2) := by decide +kernel
theorem dX13_areLike_206 : decode cX13_areLike 206 = .ok (.ireturn, 1) := by decide +kernel
theorem dX13_toolThree_0 : decode cX13_toolThree 0 = .ok (.iload_n 1, 1) := by decide +kernel
theorem dX13_toolThree_1 : decode cX13_toolThree 1 = .ok (.tableswitch 76 0 2 #[27, 54, 63], 27) := by decide +kernel
theorem dX13_toolThree_28 : decode cX13_toolThree 28 = .ok (.aload_n 0, 1) := by decide +kernel
theorem dX13_toolThree_29 : decode cX13_toolThree 29 = .ok (.iload_n 2, 1) := by decide +kernel
theorem dX13_toolThree_30 : decode cX13_toolThree 30 = .ok (.iload_n 3, 1) := by decide +kernel
theorem dX13_toolThree_31 : decode cX13_toolThree 31 = .ok (.aload_n 0, 1) := by decide +kernel
theorem dX13_toolThree_32 : decode cX13_toolThree 32 = .ok (.getfield 108, 3) := by decide +kernel
theorem dX13_toolThree_35 : decode cX13_toolThree 35 = .ok (.bipush 7, 2) := by decide +kernel
theorem dX13_toolThree_37 : decode cX13_toolThree 37 = .ok (.iload 4, 2) := by decide +kernel
theorem dX13_toolThree_39 : decode cX13_toolThree 39 = .ok (.imul, 1) := by decide +kernel
theorem dX13_toolThree_40 : decode cX13_toolThree 40 = .ok (.laload, 1) := by decide +kernel
theorem dX13_toolThree_41 : decode cX13_toolThree 41 = .ok (.aload_n 0, 1) := by decide +kernel
theorem dX13_toolThree_42 : decode cX13_toolThree 42 = .ok (.getfield 111, 3) := by decide +kernel
theorem dX13_toolThree_45 : decode cX13_toolThree 45 = .ok (.bipush 7, 2) := by decide +kernel
theorem dX13_toolThree_47 : decode cX13_toolThree 47 = .ok (.iload 4, 2) := by decide +kernel
theorem dX13_toolThree_49 : decode cX13_toolThree 49 = .ok (.imul, 1) := by decide +kernel
theorem dX13_toolThree_50 : decode cX13_toolThree 50 = .ok (.laload, 1) := by decide +kernel
theorem dX13_toolThree_51 : decode cX13_toolThree 51 = .ok (.invokevirtual 524, 3) := by decide +kernel
theorem dX13_toolThree_54 : decode cX13_toolThree 54 = .ok (.ireturn, 1) := by decide +kernel
theorem dX13_toolThree_55 : decode cX13_toolThree 55 = .ok (.aload_n 0, 1) := by decide +kernel
theorem dX13_toolThree_56 : decode cX13_toolThree 56 = .ok (.iload_n 2, 1) := by decide +kernel
theorem dX13_toolThree_57 : decode cX13_toolThree 57 = .ok (.iload_n 3, 1) := by decide +kernel
theorem dX13_toolThree_58 : decode cX13_toolThree 58 = .ok (.iload 4, 2) := by decide +kernel
theorem dX13_toolThree_60 : decode cX13_toolThree 60 = .ok (.invokevirtual 717, 3) := by decide +kernel
theorem dX13_toolThree_63 : decode cX13_toolThree 63 = .ok (.ireturn, 1) := by decide +kernel
theorem dX13_toolThree_64 : decode cX13_toolThree 64 = .ok (.aload_n 0, 1) := by decide +kernel
theorem dX13_toolThree_65 : decode cX13_toolThree 65 = .ok (.iload_n 2, 1) := by decide +kernel
theorem dX13_toolThree_66 : decode cX13_toolThree 66 = .ok (.iload_n 3, 1) := by decide +kernel
theorem dX13_toolThree_67 : decode cX13_toolThree 67 = .ok (.iload 4, 2) := by decide +kernel
theorem dX13_toolThree_69 : decode cX13_toolThree 69 = .ok (.invokevirtual 720, 3) := by decide +kernel
theorem dX13_toolThree_72 : decode cX13_toolThree 72 = .ok (.aload_n 0, 1) := by decide +kernel
theorem dX13_toolThree_73 : decode cX13_toolThree 73 = .ok (.invokevirtual 670, 3) := by decide +kernel
theorem dX13_toolThree_76 : decode cX13_toolThree 76 = .ok (.ireturn, 1) := by decide +kernel
theorem dX13_toolThree_77 : decode cX13_toolThree 77 = .ok (.aload_n 0, 1) := by decide +kernel
theorem dX13_toolThree_78 : decode cX13_toolThree 78 = .ok (.getfield 111, 3) := by decide +kernel
theorem dX13_toolThree_81 : decode cX13_toolThree 81 = .ok (.bipush 7, 2) := by decide +kernel
theorem dX13_toolThree_83 : decode cX13_toolThree 83 = .ok (.iload 4, 2) := by decide +kernel
theorem dX13_toolThree_85 : decode cX13_toolThree 85 = .ok (.imul, 1) := by decide +kernel
theorem dX13_toolThree_86 : decode cX13_toolThree 86 = .ok (.laload, 1) := by decide +kernel
theorem dX13_toolThree_87 : decode cX13_toolThree 87 = .ok (.lconst 1, 1) := by decide +kernel
theorem dX13_toolThree_88 : decode cX13_toolThree 88 = .ok (.lcmp, 1) := by decide +kernel
theorem dX13_toolThree_89 : decode cX13_toolThree 89 = .ok (.ifCond .ne 21, 3) := by decide +kernel
theorem dX13_toolThree_92 : decode cX13_toolThree 92 = .ok (.aload_n 0, 1) := by decide +kernel
theorem dX13_toolThree_93 : decode cX13_toolThree 93 = .ok (.getfield 108, 3) := by decide +kernel
theorem dX13_toolThree_96 : decode cX13_toolThree 96 = .ok (.bipush 7, 2) := by decide +kernel
theorem dX13_toolThree_98 : decode cX13_toolThree 98 = .ok (.iload 4, 2) := by decide +kernel
theorem dX13_toolThree_100 : decode cX13_toolThree 100 = .ok (.imul, 1) := by decide +kernel
theorem dX13_toolThree_101 : decode cX13_toolThree 101 = .ok (.laload, 1) := by decide +kernel
theorem dX13_toolThree_102 : decode cX13_toolThree 102 = .ok (.lconst 0, 1) := by decide +kernel
theorem dX13_toolThree_103 : decode cX13_toolThree 103 = .ok (.lconst 1, 1) := by decide +kernel
theorem dX13_toolThree_104 : decode cX13_toolThree 104 = .ok (.invokestatic 204, 3) := by decide +kernel
theorem dX13_toolThree_107 : decode cX13_toolThree 107 = .ok (.ifCond .ne 10, 3) := by decide +kernel
theorem dX13_toolThree_110 : decode cX13_toolThree 110 = .ok (.aload_n 0, 1) := by decide +kernel
theorem dX13_toolThree_111 : decode cX13_toolThree 111 = .ok (.iconst 3, 1) := by decide +kernel
theorem dX13_toolThree_112 : decode cX13_toolThree 112 = .ok (.invokevirtual 452, 3) := by decide +kernel
theorem dX13_toolThree_115 : decode cX13_toolThree 115 = .ok (.iload_n 2, 1) := by decide +kernel
theorem dX13_toolThree_116 : decode cX13_toolThree 116 = .ok (.ireturn, 1) := by decide +kernel
theorem dX13_toolThree_117 : decode cX13_toolThree 117 = .ok (.aload_n 0, 1) := by decide +kernel
theorem dX13_toolThree_118 : decode cX13_toolThree 118 = .ok (.iload_n 2, 1) := by decide +kernel
theorem dX13_toolThree_119 : decode cX13_toolThree 119 = .ok (.iload_n 3, 1) := by decide +kernel
theorem dX13_toolThree_120 : decode cX13_toolThree 120 = .ok (.aload_n 0, 1) := by decide +kernel
theorem dX13_toolThree_121 : decode cX13_toolThree 121 = .ok (.getfield 108, 3) := by decide +kernel
theorem dX13_toolThree_124 : decode cX13_toolThree 124 = .ok (.bipush 7, 2) := by decide +kernel
theorem dX13_toolThree_126 : decode cX13_toolThree 126 = .ok (.iload 4, 2) := by decide +kernel
theorem dX13_toolThree_128 : decode cX13_toolThree 128 = .ok (.imul, 1) := by decide +kernel
theorem dX13_toolThree_129 : decode cX13_toolThree 129 = .ok (.laload, 1) := by decide +kernel
theorem dX13_toolThree_130 : decode cX13_toolThree 130 = .ok (.invokevirtual 724, 3) := by decide +kernel
theorem dX13_toolThree_133 : decode cX13_toolThree 133 = .ok (.ireturn, 1) := by decide +kernel
theorem dX13_beginDeed_0 : decode cX13_beginDeed 0 = .ok (.aload_n 0, 1) := by decide +kernel
theorem dX13_beginDeed_1 : decode cX13_beginDeed 1 = .ok (.getfield 23, 3) := by decide +kernel
theorem dX13_beginDeed_4 : decode cX13_beginDeed 4 = .ok (.iload_n 1, 1) := by decide +kernel
theorem dX13_beginDeed_5 : decode cX13_beginDeed 5 = .ok (.iaload, 1) := by decide +kernel
theorem dX13_beginDeed_6 : decode cX13_beginDeed 6 = .ok (.iconst 4, 1) := by decide +kernel
theorem dX13_beginDeed_7 : decode cX13_beginDeed 7 = .ok (.if_icmp .ne 12, 3) := by decide +kernel
theorem dX13_beginDeed_10 : decode cX13_beginDeed 10 = .ok (.aload_n 0, 1) := by decide +kernel
theorem dX13_beginDeed_11 : decode cX13_beginDeed 11 = .ok (.getfield 562, 3) := by decide +kernel
theorem dX13_beginDeed_14 : decode cX13_beginDeed 14 = .ok (.bipush 40, 2) := by decide +kernel
theorem dX13_beginDeed_16 : decode cX13_beginDeed 16 = .ok (.if_icmp .eq 22, 3) := by decide +kernel
theorem dX13_beginDeed_19 : decode cX13_beginDeed 19 = .ok (.aload_n 0, 1) := by decide +kernel
theorem dX13_beginDeed_20 : decode cX13_beginDeed 20 = .ok (.getfield 23, 3) := by decide +kernel
theorem dX13_beginDeed_23 : decode cX13_beginDeed 23 = .ok (.iload_n 1, 1) := by decide +kernel
theorem dX13_beginDeed_24 : decode cX13_beginDeed 24 = .ok (.iaload, 1) := by decide +kernel
theorem dX13_beginDeed_25 : decode cX13_beginDeed 25 = .ok (.iconst 5, 1) := by decide +kernel
theorem dX13_beginDeed_26 : decode cX13_beginDeed 26 = .ok (.if_icmp .ne 25, 3) := by decide +kernel
theorem dX13_beginDeed_29 : decode cX13_beginDeed 29 = .ok (.aload_n 0, 1) := by decide +kernel
theorem dX13_beginDeed_30 : decode cX13_beginDeed 30 = .ok (.getfield 559, 3) := by decide +kernel
theorem dX13_beginDeed_33 : decode cX13_beginDeed 33 = .ok (.bipush 40, 2) := by decide +kernel
theorem dX13_beginDeed_35 : decode cX13_beginDeed 35 = .ok (.if_icmp .ne 16, 3) := by decide +kernel
theorem dX13_beginDeed_38 : decode cX13_beginDeed 38 = .ok (.aload_n 0, 1) := by decide +kernel
theorem dX13_beginDeed_39 : decode cX13_beginDeed 39 = .ok (.bipush 9, 2) := by decide +kernel
theorem dX13_beginDeed_41 : decode cX13_beginDeed 41 = .ok (.aload_n 0, 1) := by decide +kernel
theorem dX13_beginDeed_42 : decode cX13_beginDeed 42 = .ok (.getfield 36, 3) := by decide +kernel
theorem dX13_beginDeed_45 : decode cX13_beginDeed 45 = .ok (.iload_n 1, 1) := by decide +kernel
theorem dX13_beginDeed_46 : decode cX13_beginDeed 46 = .ok (.iaload, 1) := by decide +kernel
theorem dX13_beginDeed_47 : decode cX13_beginDeed 47 = .ok (.invokevirtual 608, 3) := by decide +kernel
theorem dX13_beginDeed_50 : decode cX13_beginDeed 50 = .ok (.return_, 1) := by decide +kernel
theorem dX13_beginDeed_51 : decode cX13_beginDeed 51 = .ok (.aload_n 0, 1) := by decide +kernel
theorem dX13_beginDeed_52 : decode cX13_beginDeed 52 = .ok (.iconst 3, 1) := by decide +kernel
theorem dX13_beginDeed_53 : decode cX13_beginDeed 53 = .ok (.iload_n 1, 1) := by decide +kernel
theorem dX13_beginDeed_54 : decode cX13_beginDeed 54 = .ok (.aload_n 0, 1) := by decide +kernel
theorem dX13_beginDeed_55 : decode cX13_beginDeed 55 = .ok (.getfield 577, 3) := by decide +kernel
theorem dX13_beginDeed_58 : decode cX13_beginDeed 58 = .ok (.i2l, 1) := by decide +kernel
theorem dX13_beginDeed_59 : decode cX13_beginDeed 59 = .ok (.invokevirtual 583, 3) := by decide +kernel
theorem dX13_beginDeed_62 : decode cX13_beginDeed 62 = .ok (.aload_n 0, 1) := by decide +kernel
theorem dX13_beginDeed_63 : decode cX13_beginDeed 63 = .ok (.getfield 23, 3) := by decide +kernel
theorem dX13_beginDeed_66 : decode cX13_beginDeed 66 = .ok (.iload_n 1, 1) := by decide +kernel
theorem dX13_beginDeed_67 : decode cX13_beginDeed 67 = .ok (.iaload, 1) := by decide +kernel
theorem dX13_beginDeed_68 : decode cX13_beginDeed 68 = .ok (.ifCond .eq 13, 3) := by decide +kernel
theorem dX13_beginDeed_71 : decode cX13_beginDeed 71 = .ok (.aload_n 0, 1) := by decide +kernel
theorem dX13_beginDeed_72 : decode cX13_beginDeed 72 = .ok (.getfield 23, 3) := by decide +kernel
theorem dX13_beginDeed_75 : decode cX13_beginDeed 75 = .ok (.iload_n 1, 1) := by decide +kernel
theorem dX13_beginDeed_76 : decode cX13_beginDeed 76 = .ok (.iaload, 1) := by decide +kernel
theorem dX13_beginDeed_77 : decode cX13_beginDeed 77 = .ok (.iconst 1, 1) := by decide +kernel
theorem dX13_beginDeed_78 : decode cX13_beginDeed 78 = .ok (.if_icmp .ne 40, 3) := by decide +kernel
theorem dX13_beginDeed_81 : decode cX13_beginDeed 81 = .ok (.aload_n 0, 1) := by decide +kernel
theorem dX13_beginDeed_82 : decode cX13_beginDeed 82 = .ok (.iconst 1, 1) := by decide +kernel
theorem dX13_beginDeed_83 : decode cX13_beginDeed 83 = .ok (.aload_n 0, 1) := by decide +kernel
theorem dX13_beginDeed_84 : decode cX13_beginDeed 84 = .ok (.getfield 33, 3) := by decide +kernel
theorem dX13_beginDeed_87 : decode cX13_beginDeed 87 = .ok (.iload_n 1, 1) := by decide +kernel
theorem dX13_beginDeed_88 : decode cX13_beginDeed 88 = .ok (.iaload, 1) := by decide +kernel
theorem dX13_beginDeed_89 : decode cX13_beginDeed 89 = .ok (.lconst 0, 1) := by decide +kernel
theorem dX13_beginDeed_90 : decode cX13_beginDeed 90 = .ok (.invokevirtual 583, 3) := by decide +kernel
theorem dX13_beginDeed_93 : decode cX13_beginDeed 93 = .ok (.aload_n 0, 1) := by decide +kernel
theorem dX13_beginDeed_94 : decode cX13_beginDeed 94 = .ok (.getfield 23, 3) := by decide +kernel
theorem dX13_beginDeed_97 : decode cX13_beginDeed 97 = .ok (.iload_n 1, 1) := by decide +kernel
theorem dX13_beginDeed_98 : decode cX13_beginDeed 98 = .ok (.iaload, 1) := by decide +kernel
theorem dX13_beginDeed_99 : decode cX13_beginDeed 99 = .ok (.iconst 1, 1) := by decide +kernel
theorem dX13_beginDeed_100 : decode cX13_beginDeed 100 = .ok (.if_icmp .ne 30, 3) := by decide +kernel
theorem dX13_beginDeed_103 : decode cX13_beginDeed 103 = .ok (.aload_n 0, 1) := by decide +kernel
theorem dX13_beginDeed_104 : decode cX13_beginDeed 104 = .ok (.iconst 1, 1) := by decide +kernel
theorem dX13_beginDeed_105 : decode cX13_beginDeed 105 = .ok (.aload_n 0, 1) := by decide +kernel
theorem dX13_beginDeed_106 : decode cX13_beginDeed 106 = .ok (.getfield 30, 3) := by decide +kernel
theorem dX13_beginDeed_109 : decode cX13_beginDeed 109 = .ok (.iload_n 1, 1) := by decide +kernel
theorem dX13_beginDeed_110 : decode cX13_beginDeed 110 = .ok (.iaload, 1) := by decide +kernel
theorem dX13_beginDeed_111 : decode cX13_beginDeed 111 = .ok (.lconst 0, 1) := by decide +kernel
theorem dX13_beginDeed_112 : decode cX13_beginDeed 112 = .ok (.invokevirtual 583, 3) := by decide +kernel
theorem dX13_beginDeed_115 : decode cX13_beginDeed 115 = .ok (.goto 15, 3) := by decide +kernel
theorem dX13_beginDeed_118 : decode cX13_beginDeed 118 = .ok (.aload_n 0, 1) := by decide +kernel
theorem dX13_beginDeed_119 : decode cX13_beginDeed 119 = .ok (.iconst 1, 1) := by decide +kernel
theorem dX13_beginDeed_120 : decode cX13_beginDeed 120 = .ok (.aload_n 0, 1) := by decide +kernel
theorem dX13_beginDeed_121 : decode cX13_beginDeed 121 = .ok (.getfield 27, 3) := by decide +kernel
theorem dX13_beginDeed_124 : decode cX13_beginDeed 124 = .ok (.iload_n 1, 1) := by decide +kernel
theorem dX13_beginDeed_125 : decode cX13_beginDeed 125 = .ok (.iaload, 1) := by decide +kernel
theorem dX13_beginDeed_126 : decode cX13_beginDeed 126 = .ok (.lconst 0, 1) := by decide +kernel
theorem dX13_beginDeed_127 : decode cX13_beginDeed 127 = .ok (.invokevirtual 583, 3) := by decide +kernel
theorem dX13_beginDeed_130 : decode cX13_beginDeed 130 = .ok (.return_, 1) := by decide +kernel
theorem dX13_behindFall_0 : decode cX13_behindFall 0 = .ok (.aload_n 0, 1) := by decide +kernel
theorem dX13_behindFall_1 : decode cX13_behindFall 1 = .ok (.getfield 23, 3) := by decide +kernel
theorem dX13_behindFall_4 : decode cX13_behindFall 4 = .ok (.iload_n 1, 1) := by decide +kernel
theorem dX13_behindFall_5 : decode cX13_behindFall 5 = .ok (.iaload, 1) := by decide +kernel
theorem dX13_behindFall_6 : decode cX13_behindFall 6 = .ok (.ifCond .ne 26, 3) := by decide +kernel
theorem dX13_behindFall_9 : decode cX13_behindFall 9 = .ok (.aload_n 0, 1) := by decide +kernel
theorem dX13_behindFall_10 : decode cX13_behindFall 10 = .ok (.getfield 147, 3) := by decide +kernel
theorem dX13_behindFall_13 : decode cX13_behindFall 13 = .ok (.bipush 20, 2) := by decide +kernel
theorem dX13_behindFall_15 : decode cX13_behindFall 15 = .ok (.aload_n 0, 1) := by decide +kernel
theorem dX13_behindFall_16 : decode cX13_behindFall 16 = .ok (.getfield 565, 3) := by decide +kernel
theorem dX13_behindFall_19 : decode cX13_behindFall 19 = .ok (.imul, 1) := by decide +kernel
theorem dX13_behindFall_20 : decode cX13_behindFall 20 = .ok (.aload_n 0, 1) := by decide +kernel
theorem dX13_behindFall_21 : decode cX13_behindFall 21 = .ok (.getfield 27, 3) := by decide +kernel
theorem dX13_behindFall_24 : decode cX13_behindFall 24 = .ok (.iload_n 1, 1) := by decide +kernel
theorem dX13_behindFall_25 : decode cX13_behindFall 25 = .ok (.iaload, 1) := by decide +kernel
theorem dX13_behindFall_26 : decode cX13_behindFall 26 = .ok (.iadd, 1) := by decide +kernel
theorem dX13_behindFall_27 : decode cX13_behindFall 27 = .ok (.iconst (-1), 1) := by decide +kernel
theorem dX13_behindFall_28 : decode cX13_behindFall 28 = .ok (.iastore, 1) := by decide +kernel
theorem dX13_behindFall_29 : decode cX13_behindFall 29 = .ok (.goto 62, 3) := by decide +kernel
theorem dX13_behindFall_32 : decode cX13_behindFall 32 = .ok (.aload_n 0, 1) := by decide +kernel
theorem dX13_behindFall_33 : decode cX13_behindFall 33 = .ok (.getfield 23, 3) := by decide +kernel
theorem dX13_behindFall_36 : decode cX13_behindFall 36 = .ok (.iload_n 1, 1) := by decide +kernel
theorem dX13_behindFall_37 : decode cX13_behindFall 37 = .ok (.iaload, 1) := by decide +kernel
theorem dX13_behindFall_38 : decode cX13_behindFall 38 = .ok (.iconst 2, 1) := by decide +kernel
theorem dX13_behindFall_39 : decode cX13_behindFall 39 = .ok (.if_icmp .ne 18, 3) := by decide +kernel
theorem dX13_behindFall_42 : decode cX13_behindFall 42 = .ok (.aload_n 0, 1) := by decide +kernel
theorem dX13_behindFall_43 : decode cX13_behindFall 43 = .ok (.iconst 0, 1) := by decide +kernel
theorem dX13_behindFall_44 : decode cX13_behindFall 44 = .ok (.aload_n 0, 1) := by decide +kernel
theorem dX13_behindFall_45 : decode cX13_behindFall 45 = .ok (.getfield 33, 3) := by decide +kernel
theorem dX13_behindFall_48 : decode cX13_behindFall 48 = .ok (.iload_n 1, 1) := by decide +kernel
theorem dX13_behindFall_49 : decode cX13_behindFall 49 = .ok (.iaload, 1) := by decide +kernel
theorem dX13_behindFall_50 : decode cX13_behindFall 50 = .ok (.lconst 0, 1) := by decide +kernel
theorem dX13_behindFall_51 : decode cX13_behindFall 51 = .ok (.invokevirtual 583, 3) := by decide +kernel
theorem dX13_behindFall_54 : decode cX13_behindFall 54 = .ok (.goto 37, 3) := by decide +kernel
theorem dX13_behindFall_57 : decode cX13_behindFall 57 = .ok (.aload_n 0, 1) := by decide +kernel
theorem dX13_behindFall_58 : decode cX13_behindFall 58 = .ok (.getfield 23, 3) := by decide +kernel
theorem dX13_behindFall_61 : decode cX13_behindFall 61 = .ok (.iload_n 1, 1) := by decide +kernel
theorem dX13_behindFall_62 : decode cX13_behindFall 62 = .ok (.iaload, 1) := by decide +kernel
theorem dX13_behindFall_63 : decode cX13_behindFall 63 = .ok (.iconst 4, 1) := by decide +kernel
theorem dX13_behindFall_64 : decode cX13_behindFall 64 = .ok (.if_icmp .ne 11, 3) := by decide +kernel
theorem dX13_behindFall_67 : decode cX13_behindFall 67 = .ok (.aload_n 0, 1) := by decide +kernel
theorem dX13_behindFall_68 : decode cX13_behindFall 68 = .ok (.iconst (-1), 1) := by decide +kernel
theorem dX13_behindFall_69 : decode cX13_behindFall 69 = .ok (.invokevirtual 728, 3) := by decide +kernel
theorem dX13_behindFall_72 : decode cX13_behindFall 72 = .ok (.goto 19, 3) := by decide +kernel
theorem dX13_behindFall_75 : decode cX13_behindFall 75 = .ok (.aload_n 0, 1) := by decide +kernel
theorem dX13_behindFall_76 : decode cX13_behindFall 76 = .ok (.getfield 23, 3) := by decide +kernel
theorem dX13_behindFall_79 : decode cX13_behindFall 79 = .ok (.iload_n 1, 1) := by decide +kernel
theorem dX13_behindFall_80 : decode cX13_behindFall 80 = .ok (.iaload, 1) := by decide +kernel
theorem dX13_behindFall_81 : decode cX13_behindFall 81 = .ok (.bipush 6, 2) := by decide +kernel
theorem dX13_behindFall_83 : decode cX13_behindFall 83 = .ok (.if_icmp .ne 8, 3) := by decide +kernel
theorem dX13_behindFall_86 : decode cX13_behindFall 86 = .ok (.aload_n 0, 1) := by decide +kernel
theorem dX13_behindFall_87 : decode cX13_behindFall 87 = .ok (.iconst (-1), 1) := by decide +kernel
theorem dX13_behindFall_88 : decode cX13_behindFall 88 = .ok (.invokevirtual 731, 3) := by decide +kernel
theorem dX13_behindFall_91 : decode cX13_behindFall 91 = .ok (.return_, 1) := by decide +kernel
theorem dX13_falls_0 : decode cX13_falls 0 = .ok (.aload_n 0, 1) := by decide +kernel
theorem dX13_falls_1 : decode cX13_falls 1 = .ok (.iload_n 1, 1) := by decide +kernel
theorem dX13_falls_2 : decode cX13_falls 2 = .ok (.aload_n 0, 1) := by decide +kernel
theorem dX13_falls_3 : decode cX13_falls 3 = .ok (.getfield 36, 3) := by decide +kernel
theorem dX13_falls_6 : decode cX13_falls 6 = .ok (.iload_n 2, 1) := by decide +kernel
theorem dX13_falls_7 : decode cX13_falls 7 = .ok (.iaload, 1) := by decide +kernel
theorem dX13_falls_8 : decode cX13_falls 8 = .ok (.invokevirtual 608, 3) := by decide +kernel
theorem dX13_falls_11 : decode cX13_falls 11 = .ok (.aload_n 0, 1) := by decide +kernel
theorem dX13_falls_12 : decode cX13_falls 12 = .ok (.getfield 550, 3) := by decide +kernel
theorem dX13_falls_15 : decode cX13_falls 15 = .ok (.ifCond .ne 8, 3) := by decide +kernel
theorem dX13_falls_18 : decode cX13_falls 18 = .ok (.aload_n 0, 1) := by decide +kernel
theorem dX13_falls_19 : decode cX13_falls 19 = .ok (.iload_n 2, 1) := by decide +kernel
theorem dX13_falls_20 : decode cX13_falls 20 = .ok (.invokevirtual 611, 3) := by decide +kernel
theorem dX13_falls_23 : decode cX13_falls 23 = .ok (.return_, 1) := by decide +kernel
theorem dX13_show_0 : decode cX13_show 0 = .ok (.aload_n 0, 1) := by decide +kernel
theorem dX13_show_1 : decode cX13_show 1 = .ok (.getfield 144, 3) := by decide +kernel
theorem dX13_show_4 : decode cX13_show 4 = .ok (.aload_n 0, 1) := by decide +kernel
theorem dX13_show_5 : decode cX13_show 5 = .ok (.getfield 562, 3) := by decide +kernel
theorem dX13_show_8 : decode cX13_show 8 = .ok (.iload_n 1, 1) := by decide +kernel
theorem dX13_show_9 : decode cX13_show 9 = .ok (.iastore, 1) := by decide +kernel
theorem dX13_show_10 : decode cX13_show 10 = .ok (.aload_n 0, 1) := by decide +kernel
theorem dX13_show_11 : decode cX13_show 11 = .ok (.dup, 1) := by decide +kernel
theorem dX13_show_12 : decode cX13_show 12 = .ok (.getfield 562, 3) := by decide +kernel
theorem dX13_show_15 : decode cX13_show 15 = .ok (.iconst 1, 1) := by decide +kernel
theorem dX13_show_16 : decode cX13_show 16 = .ok (.iadd, 1) := by decide +kernel
theorem dX13_show_17 : decode cX13_show 17 = .ok (.putfield 562, 3) := by decide +kernel
theorem dX13_show_20 : decode cX13_show 20 = .ok (.return_, 1) := by decide +kernel
theorem dX13_give_0 : decode cX13_give 0 = .ok (.aload_n 0, 1) := by decide +kernel
theorem dX13_give_1 : decode cX13_give 1 = .ok (.iload_n 1, 1) := by decide +kernel
theorem dX13_give_2 : decode cX13_give 2 = .ok (.putfield 580, 3) := by decide +kernel
theorem dX13_give_5 : decode cX13_give 5 = .ok (.aload_n 0, 1) := by decide +kernel
theorem dX13_give_6 : decode cX13_give 6 = .ok (.getfield 150, 3) := by decide +kernel
theorem dX13_give_9 : decode cX13_give 9 = .ok (.aload_n 0, 1) := by decide +kernel
theorem dX13_give_10 : decode cX13_give 10 = .ok (.getfield 574, 3) := by decide +kernel
theorem dX13_give_13 : decode cX13_give 13 = .ok (.iconst 1, 1) := by decide +kernel
theorem dX13_give_14 : decode cX13_give 14 = .ok (.isub, 1) := by decide +kernel
theorem dX13_give_15 : decode cX13_give 15 = .ok (.iaload, 1) := by decide +kernel
theorem dX13_give_16 : decode cX13_give 16 = .ok (.iconst 5, 1) := by decide +kernel
theorem dX13_give_17 : decode cX13_give 17 = .ok (.if_icmp .eq 16, 3) := by decide +kernel
theorem dX13_give_20 : decode cX13_give 20 = .ok (.aload_n 0, 1) := by decide +kernel
theorem dX13_give_21 : decode cX13_give 21 = .ok (.dup, 1) := by decide +kernel
theorem dX13_give_22 : decode cX13_give 22 = .ok (.getfield 574, 3) := by decide +kernel
theorem dX13_give_25 : decode cX13_give 25 = .ok (.iconst 1, 1) := by decide +kernel
theorem dX13_give_26 : decode cX13_give 26 = .ok (.isub, 1) := by decide +kernel
theorem dX13_give_27 : decode cX13_give 27 = .ok (.putfield 574, 3) := by decide +kernel
theorem dX13_give_30 : decode cX13_give 30 = .ok (.goto (-25), 3) := by decide +kernel
theorem dX13_give_33 : decode cX13_give 33 = .ok (.return_, 1) := by decide +kernel
theorem dX13_endDeed_0 : decode cX13_endDeed 0 = .ok (.aload_n 0, 1) := by decide +kernel
theorem dX13_endDeed_1 : decode cX13_endDeed 1 = .ok (.getfield 159, 3) := by decide +kernel
theorem dX13_endDeed_4 : decode cX13_endDeed 4 = .ok (.aload_n 0, 1) := by decide +kernel
theorem dX13_endDeed_5 : decode cX13_endDeed 5 = .ok (.getfield 577, 3) := by decide +kernel
theorem dX13_endDeed_8 : decode cX13_endDeed 8 = .ok (.iaload, 1) := by decide +kernel
theorem dX13_endDeed_9 : decode cX13_endDeed 9 = .ok (.istore_n 2, 1) := by decide +kernel
theorem dX13_endDeed_10 : decode cX13_endDeed 10 = .ok (.aload_n 0, 1) := by decide +kernel
theorem dX13_endDeed_11 : decode cX13_endDeed 11 = .ok (.getfield 23, 3) := by decide +kernel
theorem dX13_endDeed_14 : decode cX13_endDeed 14 = .ok (.iload_n 1, 1) := by decide +kernel
theorem dX13_endDeed_15 : decode cX13_endDeed 15 = .ok (.iaload, 1) := by decide +kernel
theorem dX13_endDeed_16 : decode cX13_endDeed 16 = .ok (.tableswitch 131 0 6 #[44, 67, 131, 131, 131, 87, 123], 44) := by decide +kernel
theorem dX13_endDeed_60 : decode cX13_endDeed 60 = .ok (.aload_n 0, 1) := by decide +kernel
theorem dX13_endDeed_61 : decode cX13_endDeed 61 = .ok (.getfield 147, 3) := by decide +kernel
theorem dX13_endDeed_64 : decode cX13_endDeed 64 = .ok (.bipush 20, 2) := by decide +kernel
theorem dX13_endDeed_66 : decode cX13_endDeed 66 = .ok (.aload_n 0, 1) := by decide +kernel
theorem dX13_endDeed_67 : decode cX13_endDeed 67 = .ok (.getfield 565, 3) := by decide +kernel
theorem dX13_endDeed_70 : decode cX13_endDeed 70 = .ok (.imul, 1) := by decide +kernel
theorem dX13_endDeed_71 : decode cX13_endDeed 71 = .ok (.aload_n 0, 1) := by decide +kernel
theorem dX13_endDeed_72 : decode cX13_endDeed 72 = .ok (.getfield 27, 3) := by decide +kernel
theorem dX13_endDeed_75 : decode cX13_endDeed 75 = .ok (.iload_n 1, 1) := by decide +kernel
theorem dX13_endDeed_76 : decode cX13_endDeed 76 = .ok (.iaload, 1) := by decide +kernel
theorem dX13_endDeed_77 : decode cX13_endDeed 77 = .ok (.iadd, 1) := by decide +kernel
theorem dX13_endDeed_78 : decode cX13_endDeed 78 = .ok (.iload_n 2, 1) := by decide +kernel
theorem dX13_endDeed_79 : decode cX13_endDeed 79 = .ok (.iastore, 1) := by decide +kernel
theorem dX13_endDeed_80 : decode cX13_endDeed 80 = .ok (.goto 73, 3) := by decide +kernel
theorem dX13_endDeed_83 : decode cX13_endDeed 83 = .ok (.aload_n 0, 1) := by decide +kernel
theorem dX13_endDeed_84 : decode cX13_endDeed 84 = .ok (.iload_n 1, 1) := by decide +kernel
theorem dX13_endDeed_85 : decode cX13_endDeed 85 = .ok (.iload_n 2, 1) := by decide +kernel
theorem dX13_endDeed_86 : decode cX13_endDeed 86 = .ok (.aload_n 0, 1) := by decide +kernel
theorem dX13_endDeed_87 : decode cX13_endDeed 87 = .ok (.getfield 159, 3) := by decide +kernel
theorem dX13_endDeed_90 : decode cX13_endDeed 90 = .ok (.aload_n 0, 1) := by decide +kernel
theorem dX13_endDeed_91 : decode cX13_endDeed 91 = .ok (.getfield 577, 3) := by decide +kernel
theorem dX13_endDeed_94 : decode cX13_endDeed 94 = .ok (.iconst 1, 1) := by decide +kernel
theorem dX13_endDeed_95 : decode cX13_endDeed 95 = .ok (.iadd, 1) := by decide +kernel
theorem dX13_endDeed_96 : decode cX13_endDeed 96 = .ok (.iaload, 1) := by decide +kernel
theorem dX13_endDeed_97 : decode cX13_endDeed 97 = .ok (.invokevirtual 734, 3) := by decide +kernel
theorem dX13_endDeed_100 : decode cX13_endDeed 100 = .ok (.goto 53, 3) := by decide +kernel
theorem dX13_endDeed_103 : decode cX13_endDeed 103 = .ok (.iload_n 2, 1) := by decide +kernel
theorem dX13_endDeed_104 : decode cX13_endDeed 104 = .ok (.ifCond .ge 12, 3) := by decide +kernel
theorem dX13_endDeed_107 : decode cX13_endDeed 107 = .ok (.aload_n 0, 1) := by decide +kernel
theorem dX13_endDeed_108 : decode cX13_endDeed 108 = .ok (.iconst 1, 1) := by decide +kernel
theorem dX13_endDeed_109 : decode cX13_endDeed 109 = .ok (.iload_n 1, 1) := by decide +kernel
theorem dX13_endDeed_110 : decode cX13_endDeed 110 = .ok (.invokevirtual 737, 3) := by decide +kernel
theorem dX13_endDeed_113 : decode cX13_endDeed 113 = .ok (.goto 40, 3) := by decide +kernel
theorem dX13_endDeed_116 : decode cX13_endDeed 116 = .ok (.aload_n 0, 1) := by decide +kernel
theorem dX13_endDeed_117 : decode cX13_endDeed 117 = .ok (.getfield 141, 3) := by decide +kernel
theorem dX13_endDeed_120 : decode cX13_endDeed 120 = .ok (.aload_n 0, 1) := by decide +kernel
theorem dX13_endDeed_121 : decode cX13_endDeed 121 = .ok (.getfield 559, 3) := by decide +kernel
theorem dX13_endDeed_124 : decode cX13_endDeed 124 = .ok (.iload_n 2, 1) := by decide +kernel
theorem dX13_endDeed_125 : decode cX13_endDeed 125 = .ok (.iastore, 1) := by decide +kernel
theorem dX13_endDeed_126 : decode cX13_endDeed 126 = .ok (.aload_n 0, 1) := by decide +kernel
theorem dX13_endDeed_127 : decode cX13_endDeed 127 = .ok (.dup, 1) := by decide +kernel
theorem dX13_endDeed_128 : decode cX13_endDeed 128 = .ok (.getfield 559, 3) := by decide +kernel
theorem dX13_endDeed_131 : decode cX13_endDeed 131 = .ok (.iconst 1, 1) := by decide +kernel
theorem dX13_endDeed_132 : decode cX13_endDeed 132 = .ok (.iadd, 1) := by decide +kernel
theorem dX13_endDeed_133 : decode cX13_endDeed 133 = .ok (.putfield 559, 3) := by decide +kernel
theorem dX13_endDeed_136 : decode cX13_endDeed 136 = .ok (.goto 17, 3) := by decide +kernel
theorem dX13_endDeed_139 : decode cX13_endDeed 139 = .ok (.aload_n 0, 1) := by decide +kernel
theorem dX13_endDeed_140 : decode cX13_endDeed 140 = .ok (.iload_n 2, 1) := by decide +kernel
theorem dX13_endDeed_141 : decode cX13_endDeed 141 = .ok (.invokevirtual 731, 3) := by decide +kernel
theorem dX13_endDeed_144 : decode cX13_endDeed 144 = .ok (.goto 9, 3) := by decide +kernel
theorem dX13_endDeed_147 : decode cX13_endDeed 147 = .ok (.aload_n 0, 1) := by decide +kernel
theorem dX13_endDeed_148 : decode cX13_endDeed 148 = .ok (.iload_n 1, 1) := by decide +kernel
theorem dX13_endDeed_149 : decode cX13_endDeed 149 = .ok (.iload_n 2, 1) := by decide +kernel
theorem dX13_endDeed_150 : decode cX13_endDeed 150 = .ok (.invokevirtual 739, 3) := by decide +kernel
theorem dX13_endDeed_153 : decode cX13_endDeed 153 = .ok (.return_, 1) := by decide +kernel
theorem dX13_endPut_0 : decode cX13_endPut 0 = .ok (.aload_n 0, 1) := by decide +kernel
theorem dX13_endPut_1 : decode cX13_endPut 1 = .ok (.getfield 147, 3) := by decide +kernel
theorem dX13_endPut_4 : decode cX13_endPut 4 = .ok (.bipush 20, 2) := by decide +kernel
theorem dX13_endPut_6 : decode cX13_endPut 6 = .ok (.aload_n 0, 1) := by decide +kernel
theorem dX13_endPut_7 : decode cX13_endPut 7 = .ok (.getfield 565, 3) := by decide +kernel
theorem dX13_endPut_10 : decode cX13_endPut 10 = .ok (.imul, 1) := by decide +kernel
theorem dX13_endPut_11 : decode cX13_endPut 11 = .ok (.aload_n 0, 1) := by decide +kernel
theorem dX13_endPut_12 : decode cX13_endPut 12 = .ok (.getfield 27, 3) := by decide +kernel
theorem dX13_endPut_15 : decode cX13_endPut 15 = .ok (.iload_n 1, 1) := by decide +kernel
theorem dX13_endPut_16 : decode cX13_endPut 16 = .ok (.iaload, 1) := by decide +kernel
theorem dX13_endPut_17 : decode cX13_endPut 17 = .ok (.iadd, 1) := by decide +kernel
theorem dX13_endPut_18 : decode cX13_endPut 18 = .ok (.iaload, 1) := by decide +kernel
theorem dX13_endPut_19 : decode cX13_endPut 19 = .ok (.istore 4, 2) := by decide +kernel
theorem dX13_endPut_21 : decode cX13_endPut 21 = .ok (.iload 4, 2) := by decide +kernel
theorem dX13_endPut_23 : decode cX13_endPut 23 = .ok (.ifCond .ge 7, 3) := by decide +kernel
theorem dX13_endPut_26 : decode cX13_endPut 26 = .ok (.iconst 1, 1) := by decide +kernel
theorem dX13_endPut_27 : decode cX13_endPut 27 = .ok (.goto 75, 3) := by decide +kernel
theorem dX13_endPut_30 : decode cX13_endPut 30 = .ok (.aload_n 0, 1) := by decide +kernel
theorem dX13_endPut_31 : decode cX13_endPut 31 = .ok (.getfield 99, 3) := by decide +kernel
theorem dX13_endPut_34 : decode cX13_endPut 34 = .ok (.iload 4, 2) := by decide +kernel
theorem dX13_endPut_36 : decode cX13_endPut 36 = .ok (.iaload, 1) := by decide +kernel
theorem dX13_endPut_37 : decode cX13_endPut 37 = .ok (.bipush 6, 2) := by decide +kernel
theorem dX13_endPut_39 : decode cX13_endPut 39 = .ok (.if_icmp .eq 7, 3) := by decide +kernel
theorem dX13_endPut_42 : decode cX13_endPut 42 = .ok (.iconst 2, 1) := by decide +kernel
theorem dX13_endPut_43 : decode cX13_endPut 43 = .ok (.goto 59, 3) := by decide +kernel
theorem dX13_endPut_46 : decode cX13_endPut 46 = .ok (.iload_n 2, 1) := by decide +kernel
theorem dX13_endPut_47 : decode cX13_endPut 47 = .ok (.ifCond .ge 7, 3) := by decide +kernel
theorem dX13_endPut_50 : decode cX13_endPut 50 = .ok (.iconst 1, 1) := by decide +kernel
theorem dX13_endPut_51 : decode cX13_endPut 51 = .ok (.goto 51, 3) := by decide +kernel
theorem dX13_endPut_54 : decode cX13_endPut 54 = .ok (.aload_n 0, 1) := by decide +kernel
theorem dX13_endPut_55 : decode cX13_endPut 55 = .ok (.iload_n 2, 1) := by decide +kernel
theorem dX13_endPut_56 : decode cX13_endPut 56 = .ok (.invokevirtual 639, 3) := by decide +kernel
theorem dX13_endPut_59 : decode cX13_endPut 59 = .ok (.ifCond .ne 7, 3) := by decide +kernel
theorem dX13_endPut_62 : decode cX13_endPut 62 = .ok (.iconst 2, 1) := by decide +kernel
theorem dX13_endPut_63 : decode cX13_endPut 63 = .ok (.goto 39, 3) := by decide +kernel
theorem dX13_endPut_66 : decode cX13_endPut 66 = .ok (.aload_n 0, 1) := by decide +kernel
theorem dX13_endPut_67 : decode cX13_endPut 67 = .ok (.getfield 108, 3) := by decide +kernel
theorem dX13_endPut_70 : decode cX13_endPut 70 = .ok (.bipush 7, 2) := by decide +kernel
theorem dX13_endPut_72 : decode cX13_endPut 72 = .ok (.iload_n 2, 1) := by decide +kernel
theorem dX13_endPut_73 : decode cX13_endPut 73 = .ok (.imul, 1) := by decide +kernel
theorem dX13_endPut_74 : decode cX13_endPut 74 = .ok (.laload, 1) := by decide +kernel
theorem dX13_endPut_75 : decode cX13_endPut 75 = .ok (.lconst 0, 1) := by decide +kernel
theorem dX13_endPut_76 : decode cX13_endPut 76 = .ok (.aload_n 0, 1) := by decide +kernel
theorem dX13_endPut_77 : decode cX13_endPut 77 = .ok (.getfield 117, 3) := by decide +kernel
theorem dX13_endPut_80 : decode cX13_endPut 80 = .ok (.aload_n 0, 1) := by decide +kernel
theorem dX13_endPut_81 : decode cX13_endPut 81 = .ok (.getfield 105, 3) := by decide +kernel
theorem dX13_endPut_84 : decode cX13_endPut 84 = .ok (.iload 4, 2) := by decide +kernel
theorem dX13_endPut_86 : decode cX13_endPut 86 = .ok (.iaload, 1) := by decide +kernel
theorem dX13_endPut_87 : decode cX13_endPut 87 = .ok (.iaload, 1) := by decide +kernel
theorem dX13_endPut_88 : decode cX13_endPut 88 = .ok (.iconst 1, 1) := by decide +kernel
theorem dX13_endPut_89 : decode cX13_endPut 89 = .ok (.isub, 1) := by decide +kernel
theorem dX13_endPut_90 : decode cX13_endPut 90 = .ok (.i2l, 1) := by decide +kernel
theorem dX13_endPut_91 : decode cX13_endPut 91 = .ok (.invokestatic 204, 3) := by decide +kernel
theorem dX13_endPut_94 : decode cX13_endPut 94 = .ok (.ifCond .ne 7, 3) := by decide +kernel
theorem dX13_endPut_97 : decode cX13_endPut 97 = .ok (.iconst 3, 1) := by decide +kernel
theorem dX13_endPut_98 : decode cX13_endPut 98 = .ok (.goto 4, 3) := by decide +kernel
theorem dX13_endPut_101 : decode cX13_endPut 101 = .ok (.iconst 0, 1) := by decide +kernel
theorem dX13_endPut_102 : decode cX13_endPut 102 = .ok (.istore 5, 2) := by decide +kernel
theorem dX13_endPut_104 : decode cX13_endPut 104 = .ok (.iload 5, 2) := by decide +kernel
theorem dX13_endPut_106 : decode cX13_endPut 106 = .ok (.ifCond .le 7, 3) := by decide +kernel
theorem dX13_endPut_109 : decode cX13_endPut 109 = .ok (.iconst 0, 1) := by decide +kernel
theorem dX13_endPut_110 : decode cX13_endPut 110 = .ok (.goto 15, 3) := by decide +kernel
theorem dX13_endPut_113 : decode cX13_endPut 113 = .ok (.aload_n 0, 1) := by decide +kernel
theorem dX13_endPut_114 : decode cX13_endPut 114 = .ok (.getfield 114, 3) := by decide +kernel
theorem dX13_endPut_117 : decode cX13_endPut 117 = .ok (.aload_n 0, 1) := by decide +kernel
theorem dX13_endPut_118 : decode cX13_endPut 118 = .ok (.getfield 105, 3) := by decide +kernel
theorem dX13_endPut_121 : decode cX13_endPut 121 = .ok (.iload 4, 2) := by decide +kernel
theorem dX13_endPut_123 : decode cX13_endPut 123 = .ok (.iaload, 1) := by decide +kernel
theorem dX13_endPut_124 : decode cX13_endPut 124 = .ok (.iaload, 1) := by decide +kernel
theorem dX13_endPut_125 : decode cX13_endPut 125 = .ok (.istore 6, 2) := by decide +kernel
theorem dX13_endPut_127 : decode cX13_endPut 127 = .ok (.iload_n 3, 1) := by decide +kernel
theorem dX13_endPut_128 : decode cX13_endPut 128 = .ok (.ifCond .lt 72, 3) := by decide +kernel
theorem dX13_endPut_131 : decode cX13_endPut 131 = .ok (.iload 6, 2) := by decide +kernel
theorem dX13_endPut_133 : decode cX13_endPut 133 = .ok (.ifCond .le 67, 3) := by decide +kernel
theorem dX13_endPut_136 : decode cX13_endPut 136 = .ok (.iload 6, 2) := by decide +kernel
theorem dX13_endPut_138 : decode cX13_endPut 138 = .ok (.iconst 1, 1) := by decide +kernel
theorem dX13_endPut_139 : decode cX13_endPut 139 = .ok (.if_icmp .ne 15, 3) := by decide +kernel
theorem dX13_endPut_142 : decode cX13_endPut 142 = .ok (.aload_n 0, 1) := by decide +kernel
theorem dX13_endPut_143 : decode cX13_endPut 143 = .ok (.getfield 99, 3) := by decide +kernel
theorem dX13_endPut_146 : decode cX13_endPut 146 = .ok (.iload_n 3, 1) := by decide +kernel
theorem dX13_endPut_147 : decode cX13_endPut 147 = .ok (.iaload, 1) := by decide +kernel
theorem dX13_endPut_148 : decode cX13_endPut 148 = .ok (.invokestatic 642, 3) := by decide +kernel
theorem dX13_endPut_151 : decode cX13_endPut 151 = .ok (.goto 35, 3) := by decide +kernel
theorem dX13_endPut_154 : decode cX13_endPut 154 = .ok (.iload 6, 2) := by decide +kernel
theorem dX13_endPut_156 : decode cX13_endPut 156 = .ok (.iconst 2, 1) := by decide +kernel
theorem dX13_endPut_157 : decode cX13_endPut 157 = .ok (.if_icmp .ne 15, 3) := by decide +kernel
theorem dX13_endPut_160 : decode cX13_endPut 160 = .ok (.aload_n 0, 1) := by decide +kernel
theorem dX13_endPut_161 : decode cX13_endPut 161 = .ok (.getfield 99, 3) := by decide +kernel
theorem dX13_endPut_164 : decode cX13_endPut 164 = .ok (.iload_n 3, 1) := by decide +kernel
theorem dX13_endPut_165 : decode cX13_endPut 165 = .ok (.iaload, 1) := by decide +kernel
theorem dX13_endPut_166 : decode cX13_endPut 166 = .ok (.invokestatic 645, 3) := by decide +kernel
theorem dX13_endPut_169 : decode cX13_endPut 169 = .ok (.goto 17, 3) := by decide +kernel
theorem dX13_endPut_172 : decode cX13_endPut 172 = .ok (.aload_n 0, 1) := by decide +kernel
theorem dX13_endPut_173 : decode cX13_endPut 173 = .ok (.getfield 99, 3) := by decide +kernel
theorem dX13_endPut_176 : decode cX13_endPut 176 = .ok (.iload_n 3, 1) := by decide +kernel
theorem dX13_endPut_177 : decode cX13_endPut 177 = .ok (.iaload, 1) := by decide +kernel
theorem dX13_endPut_178 : decode cX13_endPut 178 = .ok (.ifCond .ne 7, 3) := by decide +kernel
theorem dX13_endPut_181 : decode cX13_endPut 181 = .ok (.iconst 1, 1) := by decide +kernel
theorem dX13_endPut_182 : decode cX13_endPut 182 = .ok (.goto 4, 3) := by decide +kernel
theorem dX13_endPut_185 : decode cX13_endPut 185 = .ok (.iconst 0, 1) := by decide +kernel
theorem dX13_endPut_186 : decode cX13_endPut 186 = .ok (.istore 7, 2) := by decide +kernel
theorem dX13_endPut_188 : decode cX13_endPut 188 = .ok (.iload 7, 2) := by decide +kernel
theorem dX13_endPut_190 : decode cX13_endPut 190 = .ok (.ifCond .eq 7, 3) := by decide +kernel
theorem dX13_endPut_193 : decode cX13_endPut 193 = .ok (.iconst 0, 1) := by decide +kernel
theorem dX13_endPut_194 : decode cX13_endPut 194 = .ok (.goto 4, 3) := by decide +kernel
theorem dX13_endPut_197 : decode cX13_endPut 197 = .ok (.iconst 5, 1) := by decide +kernel
theorem dX13_endPut_198 : decode cX13_endPut 198 = .ok (.istore 5, 2) := by decide +kernel
theorem dX13_endPut_200 : decode cX13_endPut 200 = .ok (.iload 5, 2) := by decide +kernel
theorem dX13_endPut_202 : decode cX13_endPut 202 = .ok (.ifCond .le 13, 3) := by decide +kernel
theorem dX13_endPut_205 : decode cX13_endPut 205 = .ok (.aload_n 0, 1) := by decide +kernel
theorem dX13_endPut_206 : decode cX13_endPut 206 = .ok (.iload 5, 2) := by decide +kernel
theorem dX13_endPut_208 : decode cX13_endPut 208 = .ok (.iload_n 1, 1) := by decide +kernel
theorem dX13_endPut_209 : decode cX13_endPut 209 = .ok (.invokevirtual 737, 3) := by decide +kernel
theorem dX13_endPut_212 : decode cX13_endPut 212 = .ok (.goto 30, 3) := by decide +kernel
theorem dX13_endPut_215 : decode cX13_endPut 215 = .ok (.aload_n 0, 1) := by decide +kernel
theorem dX13_endPut_216 : decode cX13_endPut 216 = .ok (.getfield 120, 3) := by decide +kernel
theorem dX13_endPut_219 : decode cX13_endPut 219 = .ok (.bipush 20, 2) := by decide +kernel
theorem dX13_endPut_221 : decode cX13_endPut 221 = .ok (.aload_n 0, 1) := by decide +kernel
theorem dX13_endPut_222 : decode cX13_endPut 222 = .ok (.getfield 105, 3) := by decide +kernel
theorem dX13_endPut_225 : decode cX13_endPut 225 = .ok (.iload 4, 2) := by decide +kernel
theorem dX13_endPut_227 : decode cX13_endPut 227 = .ok (.iaload, 1) := by decide +kernel
theorem dX13_endPut_228 : decode cX13_endPut 228 = .ok (.imul, 1) := by decide +kernel
theorem dX13_endPut_229 : decode cX13_endPut 229 = .ok (.aload_n 0, 1) := by decide +kernel
theorem dX13_endPut_230 : decode cX13_endPut 230 = .ok (.getfield 108, 3) := by decide +kernel
theorem dX13_endPut_233 : decode cX13_endPut 233 = .ok (.bipush 7, 2) := by decide +kernel
theorem dX13_endPut_235 : decode cX13_endPut 235 = .ok (.iload_n 2, 1) := by decide +kernel
theorem dX13_endPut_236 : decode cX13_endPut 236 = .ok (.imul, 1) := by decide +kernel
theorem dX13_endPut_237 : decode cX13_endPut 237 = .ok (.laload, 1) := by decide +kernel
theorem dX13_endPut_238 : decode cX13_endPut 238 = .ok (.l2i, 1) := by decide +kernel
theorem dX13_endPut_239 : decode cX13_endPut 239 = .ok (.iadd, 1) := by decide +kernel
theorem dX13_endPut_240 : decode cX13_endPut 240 = .ok (.iload_n 3, 1) := by decide +kernel
theorem dX13_endPut_241 : decode cX13_endPut 241 = .ok (.iastore, 1) := by decide +kernel
theorem dX13_endPut_242 : decode cX13_endPut 242 = .ok (.return_, 1) := by decide +kernel
theorem dX13_endNumber_0 : decode cX13_endNumber 0 = .ok (.iload_n 2, 1) := by decide +kernel
theorem dX13_endNumber_1 : decode cX13_endNumber 1 = .ok (.ifCond .ge 7, 3) := by decide +kernel
theorem dX13_endNumber_4 : decode cX13_endNumber 4 = .ok (.iconst 1, 1) := by decide +kernel
theorem dX13_endNumber_5 : decode cX13_endNumber 5 = .ok (.goto 17, 3) := by decide +kernel
theorem dX13_endNumber_8 : decode cX13_endNumber 8 = .ok (.aload_n 0, 1) := by decide +kernel
theorem dX13_endNumber_9 : decode cX13_endNumber 9 = .ok (.getfield 99, 3) := by decide +kernel
theorem dX13_endNumber_12 : decode cX13_endNumber 12 = .ok (.iload_n 2, 1) := by decide +kernel
theorem dX13_endNumber_13 : decode cX13_endNumber 13 = .ok (.iaload, 1) := by decide +kernel
theorem dX13_endNumber_14 : decode cX13_endNumber 14 = .ok (.ifCond .eq 7, 3) := by decide +kernel
theorem dX13_endNumber_17 : decode cX13_endNumber 17 = .ok (.iconst 2, 1) := by decide +kernel
theorem dX13_endNumber_18 : decode cX13_endNumber 18 = .ok (.goto 4, 3) := by decide +kernel
theorem dX13_endNumber_21 : decode cX13_endNumber 21 = .ok (.iconst 0, 1) := by decide +kernel
theorem dX13_endNumber_22 : decode cX13_endNumber 22 = .ok (.istore_n 3, 1) := by decide +kernel
theorem dX13_endNumber_23 : decode cX13_endNumber 23 = .ok (.iload_n 3, 1) := by decide +kernel
theorem dX13_endNumber_24 : decode cX13_endNumber 24 = .ok (.ifCond .ne 51, 3) := by decide +kernel
theorem dX13_endNumber_27 : decode cX13_endNumber 27 = .ok (.aload_n 0, 1) := by decide +kernel
theorem dX13_endNumber_28 : decode cX13_endNumber 28 = .ok (.getfield 23, 3) := by decide +kernel
theorem dX13_endNumber_31 : decode cX13_endNumber 31 = .ok (.iload_n 1, 1) := by decide +kernel
theorem dX13_endNumber_32 : decode cX13_endNumber 32 = .ok (.iaload, 1) := by decide +kernel
theorem dX13_endNumber_33 : decode cX13_endNumber 33 = .ok (.iconst 3, 1) := by decide +kernel
theorem dX13_endNumber_34 : decode cX13_endNumber 34 = .ok (.if_icmp .ne 41, 3) := by decide +kernel
theorem dX13_endNumber_37 : decode cX13_endNumber 37 = .ok (.aload_n 0, 1) := by decide +kernel
theorem dX13_endNumber_38 : decode cX13_endNumber 38 = .ok (.getfield 111, 3) := by decide +kernel
theorem dX13_endNumber_41 : decode cX13_endNumber 41 = .ok (.bipush 7, 2) := by decide +kernel
theorem dX13_endNumber_43 : decode cX13_endNumber 43 = .ok (.iload_n 2, 1) := by decide +kernel
theorem dX13_endNumber_44 : decode cX13_endNumber 44 = .ok (.imul, 1) := by decide +kernel
theorem dX13_endNumber_45 : decode cX13_endNumber 45 = .ok (.laload, 1) := by decide +kernel
theorem dX13_endNumber_46 : decode cX13_endNumber 46 = .ok (.lconst 1, 1) := by decide +kernel
theorem dX13_endNumber_47 : decode cX13_endNumber 47 = .ok (.lcmp, 1) := by decide +kernel
theorem dX13_endNumber_48 : decode cX13_endNumber 48 = .ok (.ifCond .eq 7, 3) := by decide +kernel
theorem dX13_endNumber_51 : decode cX13_endNumber 51 = .ok (.iconst 2, 1) := by decide +kernel
theorem dX13_endNumber_52 : decode cX13_endNumber 52 = .ok (.goto 22, 3) := by decide +kernel
theorem dX13_endNumber_55 : decode cX13_endNumber 55 = .ok (.aload_n 0, 1) := by decide +kernel
theorem dX13_endNumber_56 : decode cX13_endNumber 56 = .ok (.getfield 108, 3) := by decide +kernel
theorem dX13_endNumber_59 : decode cX13_endNumber 59 = .ok (.bipush 7, 2) := by decide +kernel
theorem dX13_endNumber_61 : decode cX13_endNumber 61 = .ok (.iload_n 2, 1) := by decide +kernel
theorem dX13_endNumber_62 : decode cX13_endNumber 62 = .ok (.imul, 1) := by decide +kernel
theorem dX13_endNumber_63 : decode cX13_endNumber 63 = .ok (.laload, 1) := by decide +kernel
theorem dX13_endNumber_64 : decode cX13_endNumber 64 = .ok (.lconst 0, 1) := by decide +kernel
theorem dX13_endNumber_65 : decode cX13_endNumber 65 = .ok (.lcmp, 1) := by decide +kernel
theorem dX13_endNumber_66 : decode cX13_endNumber 66 = .ok (.ifCond .ge 7, 3) := by decide +kernel
theorem dX13_endNumber_69 : decode cX13_endNumber 69 = .ok (.iconst 4, 1) := by decide +kernel
theorem dX13_endNumber_70 : decode cX13_endNumber 70 = .ok (.goto 4, 3) := by decide +kernel
theorem dX13_endNumber_73 : decode cX13_endNumber 73 = .ok (.iconst 0, 1) := by decide +kernel
theorem dX13_endNumber_74 : decode cX13_endNumber 74 = .ok (.istore_n 3, 1) := by decide +kernel
theorem dX13_endNumber_75 : decode cX13_endNumber 75 = .ok (.iload_n 3, 1) := by decide +kernel
theorem dX13_endNumber_76 : decode cX13_endNumber 76 = .ok (.ifCond .le 12, 3) := by decide +kernel
theorem dX13_endNumber_79 : decode cX13_endNumber 79 = .ok (.aload_n 0, 1) := by decide +kernel
theorem dX13_endNumber_80 : decode cX13_endNumber 80 = .ok (.iload_n 3, 1) := by decide +kernel
theorem dX13_endNumber_81 : decode cX13_endNumber 81 = .ok (.iload_n 1, 1) := by decide +kernel
theorem dX13_endNumber_82 : decode cX13_endNumber 82 = .ok (.invokevirtual 737, 3) := by decide +kernel
theorem dX13_endNumber_85 : decode cX13_endNumber 85 = .ok (.goto 102, 3) := by decide +kernel
theorem dX13_endNumber_88 : decode cX13_endNumber 88 = .ok (.aload_n 0, 1) := by decide +kernel
theorem dX13_endNumber_89 : decode cX13_endNumber 89 = .ok (.getfield 23, 3) := by decide +kernel
theorem dX13_endNumber_92 : decode cX13_endNumber 92 = .ok (.iload_n 1, 1) := by decide +kernel
theorem dX13_endNumber_93 : decode cX13_endNumber 93 = .ok (.iaload, 1) := by decide +kernel
theorem dX13_endNumber_94 : decode cX13_endNumber 94 = .ok (.iconst 4, 1) := by decide +kernel
theorem dX13_endNumber_95 : decode cX13_endNumber 95 = .ok (.if_icmp .ne 29, 3) := by decide +kernel
theorem dX13_endNumber_98 : decode cX13_endNumber 98 = .ok (.aload_n 0, 1) := by decide +kernel
theorem dX13_endNumber_99 : decode cX13_endNumber 99 = .ok (.aload_n 0, 1) := by decide +kernel
theorem dX13_endNumber_100 : decode cX13_endNumber 100 = .ok (.getfield 108, 3) := by decide +kernel
theorem dX13_endNumber_103 : decode cX13_endNumber 103 = .ok (.bipush 7, 2) := by decide +kernel
theorem dX13_endNumber_105 : decode cX13_endNumber 105 = .ok (.iload_n 2, 1) := by decide +kernel
theorem dX13_endNumber_106 : decode cX13_endNumber 106 = .ok (.imul, 1) := by decide +kernel
theorem dX13_endNumber_107 : decode cX13_endNumber 107 = .ok (.laload, 1) := by decide +kernel
theorem dX13_endNumber_108 : decode cX13_endNumber 108 = .ok (.lconst 0, 1) := by decide +kernel
theorem dX13_endNumber_109 : decode cX13_endNumber 109 = .ok (.lcmp, 1) := by decide +kernel
theorem dX13_endNumber_110 : decode cX13_endNumber 110 = .ok (.ifCond .eq 7, 3) := by decide +kernel
theorem dX13_endNumber_113 : decode cX13_endNumber 113 = .ok (.iconst 1, 1) := by decide +kernel
theorem dX13_endNumber_114 : decode cX13_endNumber 114 = .ok (.goto 4, 3) := by decide +kernel
theorem dX13_endNumber_117 : decode cX13_endNumber 117 = .ok (.iconst 0, 1) := by decide +kernel
theorem dX13_endNumber_118 : decode cX13_endNumber 118 = .ok (.invokevirtual 728, 3) := by decide +kernel
theorem dX13_endNumber_121 : decode cX13_endNumber 121 = .ok (.goto 66, 3) := by decide +kernel
theorem dX13_endNumber_124 : decode cX13_endNumber 124 = .ok (.aload_n 0, 1) := by decide +kernel
theorem dX13_endNumber_125 : decode cX13_endNumber 125 = .ok (.getfield 23, 3) := by decide +kernel
theorem dX13_endNumber_128 : decode cX13_endNumber 128 = .ok (.iload_n 1, 1) := by decide +kernel
theorem dX13_endNumber_129 : decode cX13_endNumber 129 = .ok (.iaload, 1) := by decide +kernel
theorem dX13_endNumber_130 : decode cX13_endNumber 130 = .ok (.iconst 2, 1) := by decide +kernel
theorem dX13_endNumber_131 : decode cX13_endNumber 131 = .ok (.if_icmp .ne 41, 3) := by decide +kernel
theorem dX13_endNumber_134 : decode cX13_endNumber 134 = .ok (.aload_n 0, 1) := by decide +kernel
theorem dX13_endNumber_135 : decode cX13_endNumber 135 = .ok (.iconst 0, 1) := by decide +kernel
theorem dX13_endNumber_136 : decode cX13_endNumber 136 = .ok (.aload_n 0, 1) := by decide +kernel
theorem dX13_endNumber_137 : decode cX13_endNumber 137 = .ok (.getfield 108, 3) := by decide +kernel
theorem dX13_endNumber_140 : decode cX13_endNumber 140 = .ok (.bipush 7, 2) := by decide +kernel
theorem dX13_endNumber_142 : decode cX13_endNumber 142 = .ok (.iload_n 2, 1) := by decide +kernel
theorem dX13_endNumber_143 : decode cX13_endNumber 143 = .ok (.imul, 1) := by decide +kernel
theorem dX13_endNumber_144 : decode cX13_endNumber 144 = .ok (.laload, 1) := by decide +kernel
theorem dX13_endNumber_145 : decode cX13_endNumber 145 = .ok (.lconst 0, 1) := by decide +kernel
theorem dX13_endNumber_146 : decode cX13_endNumber 146 = .ok (.lcmp, 1) := by decide +kernel
theorem dX13_endNumber_147 : decode cX13_endNumber 147 = .ok (.ifCond .eq 12, 3) := by decide +kernel
theorem dX13_endNumber_150 : decode cX13_endNumber 150 = .ok (.aload_n 0, 1) := by decide +kernel
theorem dX13_endNumber_151 : decode cX13_endNumber 151 = .ok (.getfield 30, 3) := by decide +kernel
theorem dX13_endNumber_154 : decode cX13_endNumber 154 = .ok (.iload_n 1, 1) := by decide +kernel
theorem dX13_endNumber_155 : decode cX13_endNumber 155 = .ok (.iaload, 1) := by decide +kernel
theorem dX13_endNumber_156 : decode cX13_endNumber 156 = .ok (.goto 9, 3) := by decide +kernel
theorem dX13_endNumber_159 : decode cX13_endNumber 159 = .ok (.aload_n 0, 1) := by decide +kernel
theorem dX13_endNumber_160 : decode cX13_endNumber 160 = .ok (.getfield 33, 3) := by decide +kernel
theorem dX13_endNumber_163 : decode cX13_endNumber 163 = .ok (.iload_n 1, 1) := by decide +kernel
theorem dX13_endNumber_164 : decode cX13_endNumber 164 = .ok (.iaload, 1) := by decide +kernel
theorem dX13_endNumber_165 : decode cX13_endNumber 165 = .ok (.lconst 0, 1) := by decide +kernel
theorem dX13_endNumber_166 : decode cX13_endNumber 166 = .ok (.invokevirtual 583, 3) := by decide +kernel
theorem dX13_endNumber_169 : decode cX13_endNumber 169 = .ok (.goto 18, 3) := by decide +kernel
theorem dX13_endNumber_172 : decode cX13_endNumber 172 = .ok (.aload_n 0, 1) := by decide +kernel
theorem dX13_endNumber_173 : decode cX13_endNumber 173 = .ok (.iconst 4, 1) := by decide +kernel
theorem dX13_endNumber_174 : decode cX13_endNumber 174 = .ok (.iload_n 1, 1) := by decide +kernel
theorem dX13_endNumber_175 : decode cX13_endNumber 175 = .ok (.aload_n 0, 1) := by decide +kernel
theorem dX13_endNumber_176 : decode cX13_endNumber 176 = .ok (.getfield 108, 3) := by decide +kernel
theorem dX13_endNumber_179 : decode cX13_endNumber 179 = .ok (.bipush 7, 2) := by decide +kernel
theorem dX13_endNumber_181 : decode cX13_endNumber 181 = .ok (.iload_n 2, 1) := by decide +kernel
theorem dX13_endNumber_182 : decode cX13_endNumber 182 = .ok (.imul, 1) := by decide +kernel
theorem dX13_endNumber_183 : decode cX13_endNumber 183 = .ok (.laload, 1) := by decide +kernel
theorem dX13_endNumber_184 : decode cX13_endNumber 184 = .ok (.invokevirtual 583, 3) := by decide +kernel
theorem dX13_endNumber_187 : decode cX13_endNumber 187 = .ok (.return_, 1) := by decide +kernel
theorem dX13_turnAgain_0 : decode cX13_turnAgain 0 = .ok (.lload_n 2, 1) := by decide +kernel
theorem dX13_turnAgain_1 : decode cX13_turnAgain 1 = .ok (.lconst 0, 1) := by decide +kernel
theorem dX13_turnAgain_2 : decode cX13_turnAgain 2 = .ok (.lcmp, 1) := by decide +kernel
theorem dX13_turnAgain_3 : decode cX13_turnAgain 3 = .ok (.ifCond .le 31, 3) := by decide +kernel
theorem dX13_turnAgain_6 : decode cX13_turnAgain 6 = .ok (.aload_n 0, 1) := by decide +kernel
theorem dX13_turnAgain_7 : decode cX13_turnAgain 7 = .ok (.invokevirtual 587, 3) := by decide +kernel
theorem dX13_turnAgain_10 : decode cX13_turnAgain 10 = .ok (.ifCond .eq 24, 3) := by decide +kernel
theorem dX13_turnAgain_13 : decode cX13_turnAgain 13 = .ok (.aload_n 0, 1) := by decide +kernel
theorem dX13_turnAgain_14 : decode cX13_turnAgain 14 = .ok (.iconst 4, 1) := by decide +kernel
theorem dX13_turnAgain_15 : decode cX13_turnAgain 15 = .ok (.iload_n 1, 1) := by decide +kernel
theorem dX13_turnAgain_16 : decode cX13_turnAgain 16 = .ok (.lload_n 2, 1) := by decide +kernel
theorem dX13_turnAgain_17 : decode cX13_turnAgain 17 = .ok (.lconst 1, 1) := by decide +kernel
theorem dX13_turnAgain_18 : decode cX13_turnAgain 18 = .ok (.lsub, 1) := by decide +kernel
theorem dX13_turnAgain_19 : decode cX13_turnAgain 19 = .ok (.invokevirtual 583, 3) := by decide +kernel
theorem dX13_turnAgain_22 : decode cX13_turnAgain 22 = .ok (.aload_n 0, 1) := by decide +kernel
theorem dX13_turnAgain_23 : decode cX13_turnAgain 23 = .ok (.iconst 0, 1) := by decide +kernel
theorem dX13_turnAgain_24 : decode cX13_turnAgain 24 = .ok (.aload_n 0, 1) := by decide +kernel
theorem dX13_turnAgain_25 : decode cX13_turnAgain 25 = .ok (.getfield 30, 3) := by decide +kernel
theorem dX13_turnAgain_28 : decode cX13_turnAgain 28 = .ok (.iload_n 1, 1) := by decide +kernel
theorem dX13_turnAgain_29 : decode cX13_turnAgain 29 = .ok (.iaload, 1) := by decide +kernel
theorem dX13_turnAgain_30 : decode cX13_turnAgain 30 = .ok (.lconst 0, 1) := by decide +kernel
theorem dX13_turnAgain_31 : decode cX13_turnAgain 31 = .ok (.invokevirtual 583, 3) := by decide +kernel
theorem dX13_turnAgain_34 : decode cX13_turnAgain 34 = .ok (.return_, 1) := by decide +kernel
theorem dX13_about_0 : decode cX13_about 0 = .ok (.aload_n 0, 1) := by decide +kernel
theorem dX13_about_1 : decode cX13_about 1 = .ok (.iconst 0, 1) := by decide +kernel
theorem dX13_about_2 : decode cX13_about 2 = .ok (.putfield 193, 3) := by decide +kernel
theorem dX13_about_5 : decode cX13_about 5 = .ok (.iload_n 1, 1) := by decide +kernel
theorem dX13_about_6 : decode cX13_about 6 = .ok (.i2l, 1) := by decide +kernel
theorem dX13_about_7 : decode cX13_about 7 = .ok (.lconst 0, 1) := by decide +kernel
theorem dX13_about_8 : decode cX13_about 8 = .ok (.ldc2_w 742, 3) := by decide +kernel
theorem dX13_about_11 : decode cX13_about 11 = .ok (.invokestatic 204, 3) := by decide +kernel
theorem dX13_about_14 : decode cX13_about 14 = .ok (.ifCond .ne 6, 3) := by decide +kernel
theorem dX13_about_17 : decode cX13_about 17 = .ok (.ldc 208, 2) := by decide +kernel
theorem dX13_about_19 : decode cX13_about 19 = .ok (.ireturn, 1) := by decide +kernel
theorem dX13_about_20 : decode cX13_about 20 = .ok (.aload_n 0, 1) := by decide +kernel
theorem dX13_about_21 : decode cX13_about 21 = .ok (.getfield 325, 3) := by decide +kernel
theorem dX13_about_24 : decode cX13_about 24 = .ok (.ifCond .ne 6, 3) := by decide +kernel
theorem dX13_about_27 : decode cX13_about 27 = .ok (.ldc 199, 2) := by decide +kernel
theorem dX13_about_29 : decode cX13_about 29 = .ok (.ireturn, 1) := by decide +kernel
theorem dX13_about_30 : decode cX13_about 30 = .ok (.iload_n 1, 1) := by decide +kernel
theorem dX13_about_31 : decode cX13_about 31 = .ok (.ifCond .ne 10, 3) := by decide +kernel
theorem dX13_about_34 : decode cX13_about 34 = .ok (.aload_n 0, 1) := by decide +kernel
theorem dX13_about_35 : decode cX13_about 35 = .ok (.getfield 319, 3) := by decide +kernel
theorem dX13_about_38 : decode cX13_about 38 = .ok (.goto 34, 3) := by decide +kernel
theorem dX13_about_41 : decode cX13_about 41 = .ok (.iload_n 1, 1) := by decide +kernel
theorem dX13_about_42 : decode cX13_about 42 = .ok (.iconst 1, 1) := by decide +kernel
theorem dX13_about_43 : decode cX13_about 43 = .ok (.if_icmp .ne 10, 3) := by decide +kernel
theorem dX13_about_46 : decode cX13_about 46 = .ok (.aload_n 0, 1) := by decide +kernel
theorem dX13_about_47 : decode cX13_about 47 = .ok (.getfield 309, 3) := by decide +kernel
theorem dX13_about_50 : decode cX13_about 50 = .ok (.goto 22, 3) := by decide +kernel
theorem dX13_about_53 : decode cX13_about 53 = .ok (.iload_n 1, 1) := by decide +kernel
theorem dX13_about_54 : decode cX13_about 54 = .ok (.iconst 2, 1) := by decide +kernel
theorem dX13_about_55 : decode cX13_about 55 = .ok (.if_icmp .ne 10, 3) := by decide +kernel
theorem dX13_about_58 : decode cX13_about 58 = .ok (.aload_n 0, 1) := by decide +kernel
theorem dX13_about_59 : decode cX13_about 59 = .ok (.getfield 316, 3) := by decide +kernel
theorem dX13_about_62 : decode cX13_about 62 = .ok (.goto 10, 3) := by decide +kernel
theorem dX13_about_65 : decode cX13_about 65 = .ok (.aload_n 0, 1) := by decide +kernel
theorem dX13_about_66 : decode cX13_about 66 = .ok (.getfield 52, 3) := by decide +kernel
theorem dX13_about_69 : decode cX13_about 69 = .ok (.bipush 12, 2) := by decide +kernel
theorem dX13_about_71 : decode cX13_about 71 = .ok (.iaload, 1) := by decide +kernel
theorem dX13_about_72 : decode cX13_about 72 = .ok (.ireturn, 1) := by decide +kernel
theorem dX13_move_0 : decode cX13_move 0 = .ok (.aload_n 0, 1) := by decide +kernel
theorem dX13_move_1 : decode cX13_move 1 = .ok (.iconst 0, 1) := by decide +kernel
theorem dX13_move_2 : decode cX13_move 2 = .ok (.putfield 193, 3) := by decide +kernel
theorem dX13_move_5 : decode cX13_move 5 = .ok (.iload_n 1, 1) := by decide +kernel
theorem dX13_move_6 : decode cX13_move 6 = .ok (.i2l, 1) := by decide +kernel
theorem dX13_move_7 : decode cX13_move 7 = .ok (.lconst 0, 1) := by decide +kernel
theorem dX13_move_8 : decode cX13_move 8 = .ok (.ldc2_w 744, 3) := by decide +kernel
theorem dX13_move_11 : decode cX13_move 11 = .ok (.invokestatic 204, 3) := by decide +kernel
theorem dX13_move_14 : decode cX13_move 14 = .ok (.ifCond .eq 8, 3) := by decide +kernel
theorem dX13_move_17 : decode cX13_move 17 = .ok (.iload 4, 2) := by decide +kernel
theorem dX13_move_19 : decode cX13_move 19 = .ok (.ifCond .ne 6, 3) := by decide +kernel
theorem dX13_move_22 : decode cX13_move 22 = .ok (.ldc 208, 2) := by decide +kernel
theorem dX13_move_24 : decode cX13_move 24 = .ok (.ireturn, 1) := by decide +kernel
theorem dX13_move_25 : decode cX13_move 25 = .ok (.aload_n 0, 1) := by decide +kernel
theorem dX13_move_26 : decode cX13_move 26 = .ok (.iconst 0, 1) := by decide +kernel
theorem dX13_move_27 : decode cX13_move 27 = .ok (.putfield 434, 3) := by decide +kernel
theorem dX13_move_30 : decode cX13_move 30 = .ok (.aload_n 0, 1) := by decide +kernel
theorem dX13_move_31 : decode cX13_move 31 = .ok (.iconst 0, 1) := by decide +kernel
theorem dX13_move_32 : decode cX13_move 32 = .ok (.putfield 437, 3) := by decide +kernel
theorem dX13_move_35 : decode cX13_move 35 = .ok (.aload_n 0, 1) := by decide +kernel
theorem dX13_move_36 : decode cX13_move 36 = .ok (.iload_n 2, 1) := by decide +kernel
theorem dX13_move_37 : decode cX13_move 37 = .ok (.i2l, 1) := by decide +kernel
theorem dX13_move_38 : decode cX13_move 38 = .ok (.invokevirtual 486, 3) := by decide +kernel
theorem dX13_move_41 : decode cX13_move 41 = .ok (.aload_n 0, 1) := by decide +kernel
theorem dX13_move_42 : decode cX13_move 42 = .ok (.iload 4, 2) := by decide +kernel
theorem dX13_move_44 : decode cX13_move 44 = .ok (.i2l, 1) := by decide +kernel
theorem dX13_move_45 : decode cX13_move 45 = .ok (.invokevirtual 486, 3) := by decide +kernel
theorem dX13_move_48 : decode cX13_move 48 = .ok (.aload_n 0, 1) := by decide +kernel
theorem dX13_move_49 : decode cX13_move 49 = .ok (.invokevirtual 463, 3) := by decide +kernel
theorem dX13_move_52 : decode cX13_move 52 = .ok (.aload_n 0, 1) := by decide +kernel
theorem dX13_move_53 : decode cX13_move 53 = .ok (.iload_n 3, 1) := by decide +kernel
theorem dX13_move_54 : decode cX13_move 54 = .ok (.i2l, 1) := by decide +kernel
theorem dX13_move_55 : decode cX13_move 55 = .ok (.invokevirtual 486, 3) := by decide +kernel
theorem dX13_move_58 : decode cX13_move 58 = .ok (.aload_n 0, 1) := by decide +kernel
theorem dX13_move_59 : decode cX13_move 59 = .ok (.iload 4, 2) := by decide +kernel
theorem dX13_move_61 : decode cX13_move 61 = .ok (.i2l, 1) := by decide +kernel
theorem dX13_move_62 : decode cX13_move 62 = .ok (.invokevirtual 486, 3) := by decide +kernel
theorem dX13_move_65 : decode cX13_move 65 = .ok (.aload_n 0, 1) := by decide +kernel
theorem dX13_move_66 : decode cX13_move 66 = .ok (.invokevirtual 463, 3) := by decide +kernel
theorem dX13_move_69 : decode cX13_move 69 = .ok (.aload_n 0, 1) := by decide +kernel
theorem dX13_move_70 : decode cX13_move 70 = .ok (.getfield 434, 3) := by decide +kernel
theorem dX13_move_73 : decode cX13_move 73 = .ok (.ifCond .le 7, 3) := by decide +kernel
theorem dX13_move_76 : decode cX13_move 76 = .ok (.iconst 1, 1) := by decide +kernel
theorem dX13_move_77 : decode cX13_move 77 = .ok (.goto 4, 3) := by decide +kernel
theorem dX13_move_80 : decode cX13_move 80 = .ok (.iconst 0, 1) := by decide +kernel
theorem dX13_move_81 : decode cX13_move 81 = .ok (.istore 5, 2) := by decide +kernel
theorem dX13_move_83 : decode cX13_move 83 = .ok (.aload_n 0, 1) := by decide +kernel
theorem dX13_move_84 : decode cX13_move 84 = .ok (.iconst 0, 1) := by decide +kernel
theorem dX13_move_85 : decode cX13_move 85 = .ok (.putfield 434, 3) := by decide +kernel
theorem dX13_move_88 : decode cX13_move 88 = .ok (.aload_n 0, 1) := by decide +kernel
theorem dX13_move_89 : decode cX13_move 89 = .ok (.iconst 0, 1) := by decide +kernel
theorem dX13_move_90 : decode cX13_move 90 = .ok (.putfield 437, 3) := by decide +kernel
theorem dX13_move_93 : decode cX13_move 93 = .ok (.iload 5, 2) := by decide +kernel
theorem dX13_move_95 : decode cX13_move 95 = .ok (.ifCond .eq 6, 3) := by decide +kernel
theorem dX13_move_98 : decode cX13_move 98 = .ok (.ldc 208, 2) := by decide +kernel
theorem dX13_move_100 : decode cX13_move 100 = .ok (.ireturn, 1) := by decide +kernel
theorem dX13_move_101 : decode cX13_move 101 = .ok (.aload_n 0, 1) := by decide +kernel
theorem dX13_move_102 : decode cX13_move 102 = .ok (.getfield 325, 3) := by decide +kernel
theorem dX13_move_105 : decode cX13_move 105 = .ok (.ifCond .ne 6, 3) := by decide +kernel
theorem dX13_move_108 : decode cX13_move 108 = .ok (.ldc 199, 2) := by decide +kernel
theorem dX13_move_110 : decode cX13_move 110 = .ok (.ireturn, 1) := by decide +kernel
theorem dX13_move_111 : decode cX13_move 111 = .ok (.aload_n 0, 1) := by decide +kernel
theorem dX13_move_112 : decode cX13_move 112 = .ok (.iload_n 1, 1) := by decide +kernel
theorem dX13_move_113 : decode cX13_move 113 = .ok (.aload_n 0, 1) := by decide +kernel
theorem dX13_move_114 : decode cX13_move 114 = .ok (.getfield 93, 3) := by decide +kernel
theorem dX13_move_117 : decode cX13_move 117 = .ok (.iconst 0, 1) := by decide +kernel
theorem dX13_move_118 : decode cX13_move 118 = .ok (.laload, 1) := by decide +kernel
theorem dX13_move_119 : decode cX13_move 119 = .ok (.aload_n 0, 1) := by decide +kernel
theorem dX13_move_120 : decode cX13_move 120 = .ok (.getfield 96, 3) := by decide +kernel
theorem dX13_move_123 : decode cX13_move 123 = .ok (.iconst 0, 1) := by decide +kernel
theorem dX13_move_124 : decode cX13_move 124 = .ok (.laload, 1) := by decide +kernel
theorem dX13_move_125 : decode cX13_move 125 = .ok (.aload_n 0, 1) := by decide +kernel
theorem dX13_move_126 : decode cX13_move 126 = .ok (.getfield 93, 3) := by decide +kernel
theorem dX13_move_129 : decode cX13_move 129 = .ok (.iconst 1, 1) := by decide +kernel
theorem dX13_move_130 : decode cX13_move 130 = .ok (.laload, 1) := by decide +kernel
theorem dX13_move_131 : decode cX13_move 131 = .ok (.aload_n 0, 1) := by decide +kernel
theorem dX13_move_132 : decode cX13_move 132 = .ok (.getfield 96, 3) := by decide +kernel
theorem dX13_move_135 : decode cX13_move 135 = .ok (.iconst 1, 1) := by decide +kernel
theorem dX13_move_136 : decode cX13_move 136 = .ok (.laload, 1) := by decide +kernel
theorem dX13_move_137 : decode cX13_move 137 = .ok (.invokevirtual 746, 3) := by decide +kernel
theorem dX13_move_140 : decode cX13_move 140 = .ok (.iconst 1, 1) := by decide +kernel
theorem dX13_move_141 : decode cX13_move 141 = .ok (.ireturn, 1) := by decide +kernel
theorem dX13_place__0 : decode cX13_place_ 0 = .ok (.aload_n 0, 1) := by decide +kernel
theorem dX13_place__1 : decode cX13_place_ 1 = .ok (.getfield 126, 3) := by decide +kernel
theorem dX13_place__4 : decode cX13_place_ 4 = .ok (.iload_n 1, 1) := by decide +kernel
theorem dX13_place__5 : decode cX13_place_ 5 = .ok (.iconst 1, 1) := by decide +kernel
theorem dX13_place__6 : decode cX13_place_ 6 = .ok (.bastore, 1) := by decide +kernel
theorem dX13_place__7 : decode cX13_place_ 7 = .ok (.aload_n 0, 1) := by decide +kernel
theorem dX13_place__8 : decode cX13_place_ 8 = .ok (.getfield 129, 3) := by decide +kernel
theorem dX13_place__11 : decode cX13_place_ 11 = .ok (.iconst 2, 1) := by decide +kernel
theorem dX13_place__12 : decode cX13_place_ 12 = .ok (.iload_n 1, 1) := by decide +kernel
theorem dX13_place__13 : decode cX13_place_ 13 = .ok (.imul, 1) := by decide +kernel
theorem dX13_place__14 : decode cX13_place_ 14 = .ok (.lload_n 2, 1) := by decide +kernel
theorem dX13_place__15 : decode cX13_place_ 15 = .ok (.lastore, 1) := by decide +kernel
theorem dX13_place__16 : decode cX13_place_ 16 = .ok (.aload_n 0, 1) := by decide +kernel
theorem dX13_place__17 : decode cX13_place_ 17 = .ok (.getfield 132, 3) := by decide +kernel
theorem dX13_place__20 : decode cX13_place_ 20 = .ok (.iconst 2, 1) := by decide +kernel
theorem dX13_place__21 : decode cX13_place_ 21 = .ok (.iload_n 1, 1) := by decide +kernel
theorem dX13_place__22 : decode cX13_place_ 22 = .ok (.imul, 1) := by decide +kernel
theorem dX13_place__23 : decode cX13_place_ 23 = .ok (.lload 4, 2) := by decide +kernel
theorem dX13_place__25 : decode cX13_place_ 25 = .ok (.lastore, 1) := by decide +kernel
theorem dX13_place__26 : decode cX13_place_ 26 = .ok (.aload_n 0, 1) := by decide +kernel
theorem dX13_place__27 : decode cX13_place_ 27 = .ok (.getfield 129, 3) := by decide +kernel
theorem dX13_place__30 : decode cX13_place_ 30 = .ok (.iconst 2, 1) := by decide +kernel
theorem dX13_place__31 : decode cX13_place_ 31 = .ok (.iload_n 1, 1) := by decide +kernel
theorem dX13_place__32 : decode cX13_place_ 32 = .ok (.imul, 1) := by decide +kernel
theorem dX13_place__33 : decode cX13_place_ 33 = .ok (.iconst 1, 1) := by decide +kernel
theorem dX13_place__34 : decode cX13_place_ 34 = .ok (.iadd, 1) := by decide +kernel
theorem dX13_place__35 : decode cX13_place_ 35 = .ok (.lload 6, 2) := by decide +kernel
theorem dX13_place__37 : decode cX13_place_ 37 = .ok (.lastore, 1) := by decide +kernel
theorem dX13_place__38 : decode cX13_place_ 38 = .ok (.aload_n 0, 1) := by decide +kernel
theorem dX13_place__39 : decode cX13_place_ 39 = .ok (.getfield 132, 3) := by decide +kernel
theorem dX13_place__42 : decode cX13_place_ 42 = .ok (.iconst 2, 1) := by decide +kernel
theorem dX13_place__43 : decode cX13_place_ 43 = .ok (.iload_n 1, 1) := by decide +kernel
theorem dX13_place__44 : decode cX13_place_ 44 = .ok (.imul, 1) := by decide +kernel
theorem dX13_place__45 : decode cX13_place_ 45 = .ok (.iconst 1, 1) := by decide +kernel
theorem dX13_place__46 : decode cX13_place_ 46 = .ok (.iadd, 1) := by decide +kernel
theorem dX13_place__47 : decode cX13_place_ 47 = .ok (.lload 8, 2) := by decide +kernel
theorem dX13_place__49 : decode cX13_place_ 49 = .ok (.lastore, 1) := by decide +kernel
theorem dX13_place__50 : decode cX13_place_ 50 = .ok (.return_, 1) := by decide +kernel
theorem dX13_loose_0 : decode cX13_loose 0 = .ok (.aload_n 0, 1) := by decide +kernel
theorem dX13_loose_1 : decode cX13_loose 1 = .ok (.iconst 0, 1) := by decide +kernel
theorem dX13_loose_2 : decode cX13_loose 2 = .ok (.putfield 193, 3) := by decide +kernel
theorem dX13_loose_5 : decode cX13_loose 5 = .ok (.iload_n 1, 1) := by decide +kernel
theorem dX13_loose_6 : decode cX13_loose 6 = .ok (.i2l, 1) := by decide +kernel
theorem dX13_loose_7 : decode cX13_loose 7 = .ok (.lconst 0, 1) := by decide +kernel
theorem dX13_loose_8 : decode cX13_loose 8 = .ok (.ldc2_w 744, 3) := by decide +kernel
theorem dX13_loose_11 : decode cX13_loose 11 = .ok (.invokestatic 204, 3) := by decide +kernel
theorem dX13_loose_14 : decode cX13_loose 14 = .ok (.ifCond .ne 6, 3) := by decide +kernel
theorem dX13_loose_17 : decode cX13_loose 17 = .ok (.ldc 208, 2) := by decide +kernel
theorem dX13_loose_19 : decode cX13_loose 19 = .ok (.ireturn, 1) := by decide +kernel
theorem dX13_loose_20 : decode cX13_loose 20 = .ok (.aload_n 0, 1) := by decide +kernel
theorem dX13_loose_21 : decode cX13_loose 21 = .ok (.getfield 325, 3) := by decide +kernel
theorem dX13_loose_24 : decode cX13_loose 24 = .ok (.ifCond .ne 6, 3) := by decide +kernel
theorem dX13_loose_27 : decode cX13_loose 27 = .ok (.ldc 199, 2) := by decide +kernel
theorem dX13_loose_29 : decode cX13_loose 29 = .ok (.ireturn, 1) := by decide +kernel
theorem dX13_loose_30 : decode cX13_loose 30 = .ok (.aload_n 0, 1) := by decide +kernel
theorem dX13_loose_31 : decode cX13_loose 31 = .ok (.getfield 126, 3) := by decide +kernel
theorem dX13_loose_34 : decode cX13_loose 34 = .ok (.iload_n 1, 1) := by decide +kernel
theorem dX13_loose_35 : decode cX13_loose 35 = .ok (.baload, 1) := by decide +kernel
theorem dX13_loose_36 : decode cX13_loose 36 = .ok (.ifCond .eq 7, 3) := by decide +kernel
theorem dX13_loose_39 : decode cX13_loose 39 = .ok (.iconst 1, 1) := by decide +kernel
theorem dX13_loose_40 : decode cX13_loose 40 = .ok (.goto 4, 3) := by decide +kernel
theorem dX13_loose_43 : decode cX13_loose 43 = .ok (.iconst 0, 1) := by decide +kernel
theorem dX13_loose_44 : decode cX13_loose 44 = .ok (.istore_n 2, 1) := by decide +kernel
theorem dX13_loose_45 : decode cX13_loose 45 = .ok (.aload_n 0, 1) := by decide +kernel
theorem dX13_loose_46 : decode cX13_loose 46 = .ok (.getfield 126, 3) := by decide +kernel
theorem dX13_loose_49 : decode cX13_loose 49 = .ok (.iload_n 1, 1) := by decide +kernel
theorem dX13_loose_50 : decode cX13_loose 50 = .ok (.iconst 0, 1) := by decide +kernel
theorem dX13_loose_51 : decode cX13_loose 51 = .ok (.bastore, 1) := by decide +kernel
theorem dX13_loose_52 : decode cX13_loose 52 = .ok (.iload_n 2, 1) := by decide +kernel
theorem dX13_loose_53 : decode cX13_loose 53 = .ok (.ireturn, 1) := by decide +kernel
theorem dX13_run_0 : decode cX13_run 0 = .ok (.aload_n 0, 1) := by decide +kernel
theorem dX13_run_1 : decode cX13_run 1 = .ok (.iconst 0, 1) := by decide +kernel
theorem dX13_run_2 : decode cX13_run 2 = .ok (.putfield 193, 3) := by decide +kernel
theorem dX13_run_5 : decode cX13_run 5 = .ok (.aload_n 0, 1) := by decide +kernel
theorem dX13_run_6 : decode cX13_run 6 = .ok (.getfield 325, 3) := by decide +kernel
theorem dX13_run_9 : decode cX13_run 9 = .ok (.ifCond .ne 6, 3) := by decide +kernel
theorem dX13_run_12 : decode cX13_run 12 = .ok (.ldc 199, 2) := by decide +kernel
theorem dX13_run_14 : decode cX13_run 14 = .ok (.ireturn, 1) := by decide +kernel
theorem dX13_run_15 : decode cX13_run 15 = .ok (.aload_n 0, 1) := by decide +kernel
theorem dX13_run_16 : decode cX13_run 16 = .ok (.getfield 568, 3) := by decide +kernel
theorem dX13_run_19 : decode cX13_run 19 = .ok (.sipush 600, 3) := by decide +kernel
theorem dX13_run_22 : decode cX13_run 22 = .ok (.if_icmp .ne 7, 3) := by decide +kernel
theorem dX13_run_25 : decode cX13_run 25 = .ok (.ldc_w 750, 3) := by decide +kernel
theorem dX13_run_28 : decode cX13_run 28 = .ok (.ireturn, 1) := by decide +kernel
theorem dX13_run_29 : decode cX13_run 29 = .ok (.aload_n 0, 1) := by decide +kernel
theorem dX13_run_30 : decode cX13_run 30 = .ok (.invokevirtual 751, 3) := by decide +kernel
theorem dX13_run_33 : decode cX13_run 33 = .ok (.aload_n 0, 1) := by decide +kernel
theorem dX13_run_34 : decode cX13_run 34 = .ok (.getfield 550, 3) := by decide +kernel
theorem dX13_run_37 : decode cX13_run 37 = .ok (.ifCond .eq 7, 3) := by decide +kernel
theorem dX13_run_40 : decode cX13_run 40 = .ok (.iconst (-1), 1) := by decide +kernel
theorem dX13_run_41 : decode cX13_run 41 = .ok (.goto 7, 3) := by decide +kernel
theorem dX13_run_44 : decode cX13_run 44 = .ok (.aload_n 0, 1) := by decide +kernel
theorem dX13_run_45 : decode cX13_run 45 = .ok (.getfield 559, 3) := by decide +kernel
theorem dX13_run_48 : decode cX13_run 48 = .ok (.ireturn, 1) := by decide +kernel
theorem dX13_count_0 : decode cX13_count 0 = .ok (.aload_n 0, 1) := by decide +kernel
theorem dX13_count_1 : decode cX13_count 1 = .ok (.iconst 0, 1) := by decide +kernel
theorem dX13_count_2 : decode cX13_count 2 = .ok (.putfield 193, 3) := by decide +kernel
theorem dX13_count_5 : decode cX13_count 5 = .ok (.iload_n 1, 1) := by decide +kernel
theorem dX13_count_6 : decode cX13_count 6 = .ok (.tableswitch 103 0 8 #[50, 55, 60, 65, 70, 75, 88, 93, 98], 50) := by decide +kernel
theorem dX13_count_56 : decode cX13_count 56 = .ok (.aload_n 0, 1) := by decide +kernel
theorem dX13_count_57 : decode cX13_count 57 = .ok (.getfield 559, 3) := by decide +kernel
theorem dX13_count_60 : decode cX13_count 60 = .ok (.ireturn, 1) := by decide +kernel
theorem dX13_count_61 : decode cX13_count 61 = .ok (.aload_n 0, 1) := by decide +kernel
theorem dX13_count_62 : decode cX13_count 62 = .ok (.getfield 562, 3) := by decide +kernel
theorem dX13_count_65 : decode cX13_count 65 = .ok (.ireturn, 1) := by decide +kernel
theorem dX13_count_66 : decode cX13_count 66 = .ok (.aload_n 0, 1) := by decide +kernel
theorem dX13_count_67 : decode cX13_count 67 = .ok (.getfield 556, 3) := by decide +kernel
theorem dX13_count_70 : decode cX13_count 70 = .ok (.ireturn, 1) := by decide +kernel
theorem dX13_count_71 : decode cX13_count 71 = .ok (.aload_n 0, 1) := by decide +kernel
theorem dX13_count_72 : decode cX13_count 72 = .ok (.getfield 553, 3) := by decide +kernel
theorem dX13_count_75 : decode cX13_count 75 = .ok (.ireturn, 1) := by decide +kernel
theorem dX13_count_76 : decode cX13_count 76 = .ok (.aload_n 0, 1) := by decide +kernel
theorem dX13_count_77 : decode cX13_count 77 = .ok (.getfield 547, 3) := by decide +kernel
theorem dX13_count_80 : decode cX13_count 80 = .ok (.ireturn, 1) := by decide +kernel
theorem dX13_count_81 : decode cX13_count 81 = .ok (.aload_n 0, 1) := by decide +kernel
theorem dX13_count_82 : decode cX13_count 82 = .ok (.getfield 550, 3) := by decide +kernel
theorem dX13_count_85 : decode cX13_count 85 = .ok (.ifCond .eq 7, 3) := by decide +kernel
theorem dX13_count_88 : decode cX13_count 88 = .ok (.iconst 1, 1) := by decide +kernel
theorem dX13_count_89 : decode cX13_count 89 = .ok (.goto 4, 3) := by decide +kernel
theorem dX13_count_92 : decode cX13_count 92 = .ok (.iconst 0, 1) := by decide +kernel
theorem dX13_count_93 : decode cX13_count 93 = .ok (.ireturn, 1) := by decide +kernel
theorem dX13_count_94 : decode cX13_count 94 = .ok (.aload_n 0, 1) := by decide +kernel
theorem dX13_count_95 : decode cX13_count 95 = .ok (.getfield 568, 3) := by decide +kernel
theorem dX13_count_98 : decode cX13_count 98 = .ok (.ireturn, 1) := by decide +kernel
theorem dX13_count_99 : decode cX13_count 99 = .ok (.aload_n 0, 1) := by decide +kernel
theorem dX13_count_100 : decode cX13_count 100 = .ok (.getfield 196, 3) := by decide +kernel
theorem dX13_count_103 : decode cX13_count 103 = .ok (.ireturn, 1) := by decide +kernel
theorem dX13_count_104 : decode cX13_count 104 = .ok (.aload_n 0, 1) := by decide +kernel
theorem dX13_count_105 : decode cX13_count 105 = .ok (.getfield 754, 3) := by decide +kernel
theorem dX13_count_108 : decode cX13_count 108 = .ok (.ireturn, 1) := by decide +kernel
theorem dX13_count_109 : decode cX13_count 109 = .ok (.ldc 208, 2) := by decide +kernel
theorem dX13_count_111 : decode cX13_count 111 = .ok (.ireturn, 1) := by decide +kernel
theorem dX13_noDrawn_0 : decode cX13_noDrawn 0 = .ok (.aload_n 0, 1) := by decide +kernel
theorem dX13_noDrawn_1 : decode cX13_noDrawn 1 = .ok (.iload_n 1, 1) := by decide +kernel
theorem dX13_noDrawn_2 : decode cX13_noDrawn 2 = .ok (.i2l, 1) := by decide +kernel
theorem dX13_noDrawn_3 : decode cX13_noDrawn 3 = .ok (.lconst 0, 1) := by decide +kernel
theorem dX13_noDrawn_4 : decode cX13_noDrawn 4 = .ok (.aload_n 0, 1) := by decide +kernel
theorem dX13_noDrawn_5 : decode cX13_noDrawn 5 = .ok (.getfield 559, 3) := by decide +kernel
theorem dX13_noDrawn_8 : decode cX13_noDrawn 8 = .ok (.iconst 1, 1) := by decide +kernel
theorem dX13_noDrawn_9 : decode cX13_noDrawn 9 = .ok (.isub, 1) := by decide +kernel
theorem dX13_noDrawn_10 : decode cX13_noDrawn 10 = .ok (.i2l, 1) := by decide +kernel
theorem dX13_noDrawn_11 : decode cX13_noDrawn 11 = .ok (.invokestatic 204, 3) := by decide +kernel
theorem dX13_noDrawn_14 : decode cX13_noDrawn 14 = .ok (.ifCond .eq 7, 3) := by decide +kernel
theorem dX13_noDrawn_17 : decode cX13_noDrawn 17 = .ok (.iconst 0, 1) := by decide +kernel
theorem dX13_noDrawn_18 : decode cX13_noDrawn 18 = .ok (.goto 4, 3) := by decide +kernel
theorem dX13_noDrawn_21 : decode cX13_noDrawn 21 = .ok (.iconst 1, 1) := by decide +kernel
theorem dX13_noDrawn_22 : decode cX13_noDrawn 22 = .ok (.putfield 193, 3) := by decide +kernel
theorem dX13_noDrawn_25 : decode cX13_noDrawn 25 = .ok (.aload_n 0, 1) := by decide +kernel
theorem dX13_noDrawn_26 : decode cX13_noDrawn 26 = .ok (.getfield 193, 3) := by decide +kernel
theorem dX13_noDrawn_29 : decode cX13_noDrawn 29 = .ok (.ifCond .le 7, 3) := by decide +kernel
theorem dX13_noDrawn_32 : decode cX13_noDrawn 32 = .ok (.iconst 1, 1) := by decide +kernel
theorem dX13_noDrawn_33 : decode cX13_noDrawn 33 = .ok (.goto 4, 3) := by decide +kernel
theorem dX13_noDrawn_36 : decode cX13_noDrawn 36 = .ok (.iconst 0, 1) := by decide +kernel
theorem dX13_noDrawn_37 : decode cX13_noDrawn 37 = .ok (.ireturn, 1) := by decide +kernel
theorem dX13_kind_0 : decode cX13_kind 0 = .ok (.aload_n 0, 1) := by decide +kernel
theorem dX13_kind_1 : decode cX13_kind 1 = .ok (.iload_n 1, 1) := by decide +kernel
theorem dX13_kind_2 : decode cX13_kind 2 = .ok (.invokevirtual 757, 3) := by decide +kernel
theorem dX13_kind_5 : decode cX13_kind 5 = .ok (.ifCond .eq 7, 3) := by decide +kernel
theorem dX13_kind_8 : decode cX13_kind 8 = .ok (.iconst 0, 1) := by decide +kernel
theorem dX13_kind_9 : decode cX13_kind 9 = .ok (.goto 14, 3) := by decide +kernel
theorem dX13_kind_12 : decode cX13_kind 12 = .ok (.aload_n 0, 1) := by decide +kernel
theorem dX13_kind_13 : decode cX13_kind 13 = .ok (.getfield 99, 3) := by decide +kernel
theorem dX13_kind_16 : decode cX13_kind 16 = .ok (.aload_n 0, 1) := by decide +kernel
theorem dX13_kind_17 : decode cX13_kind 17 = .ok (.getfield 141, 3) := by decide +kernel
theorem dX13_kind_20 : decode cX13_kind 20 = .ok (.iload_n 1, 1) := by decide +kernel
theorem dX13_kind_21 : decode cX13_kind 21 = .ok (.iaload, 1) := by decide +kernel
theorem dX13_kind_22 : decode cX13_kind 22 = .ok (.iaload, 1) := by decide +kernel
theorem dX13_kind_23 : decode cX13_kind 23 = .ok (.ireturn, 1) := by decide +kernel
theorem dX13_number__0 : decode cX13_number_ 0 = .ok (.aload_n 0, 1) := by decide +kernel
theorem dX13_number__1 : decode cX13_number_ 1 = .ok (.iload_n 1, 1) := by decide +kernel
theorem dX13_number__2 : decode cX13_number_ 2 = .ok (.invokevirtual 757, 3) := by decide +kernel
theorem dX13_number__5 : decode cX13_number_ 5 = .ok (.ifCond .eq 5, 3) := by decide +kernel
theorem dX13_number__8 : decode cX13_number_ 8 = .ok (.lconst 0, 1) := by decide +kernel
theorem dX13_number__9 : decode cX13_number_ 9 = .ok (.lreturn, 1) := by decide +kernel
theorem dX13_number__10 : decode cX13_number_ 10 = .ok (.aload_n 0, 1) := by decide +kernel
theorem dX13_number__11 : decode cX13_number_ 11 = .ok (.getfield 141, 3) := by decide +kernel
theorem dX13_number__14 : decode cX13_number_ 14 = .ok (.iload_n 1, 1) := by decide +kernel
theorem dX13_number__15 : decode cX13_number_ 15 = .ok (.iaload, 1) := by decide +kernel
theorem dX13_number__16 : decode cX13_number_ 16 = .ok (.istore 4, 2) := by decide +kernel
theorem dX13_number__18 : decode cX13_number_ 18 = .ok (.aload_n 0, 1) := by decide +kernel
theorem dX13_number__19 : decode cX13_number_ 19 = .ok (.getfield 99, 3) := by decide +kernel
theorem dX13_number__22 : decode cX13_number_ 22 = .ok (.iload 4, 2) := by decide +kernel
theorem dX13_number__24 : decode cX13_number_ 24 = .ok (.iaload, 1) := by decide +kernel
theorem dX13_number__25 : decode cX13_number_ 25 = .ok (.ifCond .ne 7, 3) := by decide +kernel
theorem dX13_number__28 : decode cX13_number_ 28 = .ok (.iconst 1, 1) := by decide +kernel
theorem dX13_number__29 : decode cX13_number_ 29 = .ok (.goto 49, 3) := by decide +kernel
theorem dX13_number__32 : decode cX13_number_ 32 = .ok (.aload_n 0, 1) := by decide +kernel
theorem dX13_number__33 : decode cX13_number_ 33 = .ok (.getfield 99, 3) := by decide +kernel
theorem dX13_number__36 : decode cX13_number_ 36 = .ok (.iload 4, 2) := by decide +kernel
theorem dX13_number__38 : decode cX13_number_ 38 = .ok (.iaload, 1) := by decide +kernel
theorem dX13_number__39 : decode cX13_number_ 39 = .ok (.invokestatic 642, 3) := by decide +kernel
theorem dX13_number__42 : decode cX13_number_ 42 = .ok (.ifCond .ne 15, 3) := by decide +kernel
theorem dX13_number__45 : decode cX13_number_ 45 = .ok (.aload_n 0, 1) := by decide +kernel
theorem dX13_number__46 : decode cX13_number_ 46 = .ok (.getfield 99, 3) := by decide +kernel
theorem dX13_number__49 : decode cX13_number_ 49 = .ok (.iload 4, 2) := by decide +kernel
theorem dX13_number__51 : decode cX13_number_ 51 = .ok (.iaload, 1) := by decide +kernel
theorem dX13_number__52 : decode cX13_number_ 52 = .ok (.bipush 6, 2) := by decide +kernel
theorem dX13_number__54 : decode cX13_number_ 54 = .ok (.if_icmp .ne 7, 3) := by decide +kernel
theorem dX13_number__57 : decode cX13_number_ 57 = .ok (.iconst 2, 1) := by decide +kernel
theorem dX13_number__58 : decode cX13_number_ 58 = .ok (.goto 20, 3) := by decide +kernel
theorem dX13_number__61 : decode cX13_number_ 61 = .ok (.aload_n 0, 1) := by decide +kernel
theorem dX13_number__62 : decode cX13_number_ 62 = .ok (.getfield 99, 3) := by decide +kernel
theorem dX13_number__65 : decode cX13_number_ 65 = .ok (.iload 4, 2) := by decide +kernel
theorem dX13_number__67 : decode cX13_number_ 67 = .ok (.iaload, 1) := by decide +kernel
theorem dX13_number__68 : decode cX13_number_ 68 = .ok (.iconst 4, 1) := by decide +kernel
theorem dX13_number__69 : decode cX13_number_ 69 = .ok (.if_icmp .ne 8, 3) := by decide +kernel
theorem dX13_number__72 : decode cX13_number_ 72 = .ok (.bipush 7, 2) := by decide +kernel
theorem dX13_number__74 : decode cX13_number_ 74 = .ok (.goto 4, 3) := by decide +kernel
theorem dX13_number__77 : decode cX13_number_ 77 = .ok (.iconst 3, 1) := by decide +kernel
theorem dX13_number__78 : decode cX13_number_ 78 = .ok (.istore 5, 2) := by decide +kernel
theorem dX13_number__80 : decode cX13_number_ 80 = .ok (.aload_n 0, 1) := by decide +kernel
theorem dX13_number__81 : decode cX13_number_ 81 = .ok (.iload_n 3, 1) := by decide +kernel
theorem dX13_number__82 : decode cX13_number_ 82 = .ok (.i2l, 1) := by decide +kernel
theorem dX13_number__83 : decode cX13_number_ 83 = .ok (.lconst 0, 1) := by decide +kernel
theorem dX13_number__84 : decode cX13_number_ 84 = .ok (.lconst 1, 1) := by decide +kernel
theorem dX13_number__85 : decode cX13_number_ 85 = .ok (.invokestatic 204, 3) := by decide +kernel
theorem dX13_number__88 : decode cX13_number_ 88 = .ok (.ifCond .eq 21, 3) := by decide +kernel
theorem dX13_number__91 : decode cX13_number_ 91 = .ok (.iload_n 2, 1) := by decide +kernel
theorem dX13_number__92 : decode cX13_number_ 92 = .ok (.i2l, 1) := by decide +kernel
theorem dX13_number__93 : decode cX13_number_ 93 = .ok (.lconst 0, 1) := by decide +kernel
theorem dX13_number__94 : decode cX13_number_ 94 = .ok (.iload 5, 2) := by decide +kernel
theorem dX13_number__96 : decode cX13_number_ 96 = .ok (.iconst 1, 1) := by decide +kernel
theorem dX13_number__97 : decode cX13_number_ 97 = .ok (.isub, 1) := by decide +kernel
theorem dX13_number__98 : decode cX13_number_ 98 = .ok (.i2l, 1) := by decide +kernel
theorem dX13_number__99 : decode cX13_number_ 99 = .ok (.invokestatic 204, 3) := by decide +kernel
theorem dX13_number__102 : decode cX13_number_ 102 = .ok (.ifCond .eq 7, 3) := by decide +kernel
theorem dX13_number__105 : decode cX13_number_ 105 = .ok (.iconst 0, 1) := by decide +kernel
theorem dX13_number__106 : decode cX13_number_ 106 = .ok (.goto 4, 3) := by decide +kernel
theorem dX13_number__109 : decode cX13_number_ 109 = .ok (.iconst 1, 1) := by decide +kernel
theorem dX13_number__110 : decode cX13_number_ 110 = .ok (.putfield 193, 3) := by decide +kernel
theorem dX13_number__113 : decode cX13_number_ 113 = .ok (.aload_n 0, 1) := by decide +kernel
theorem dX13_number__114 : decode cX13_number_ 114 = .ok (.getfield 193, 3) := by decide +kernel
theorem dX13_number__117 : decode cX13_number_ 117 = .ok (.ifCond .le 5, 3) := by decide +kernel
theorem dX13_number__120 : decode cX13_number_ 120 = .ok (.lconst 0, 1) := by decide +kernel
theorem dX13_number__121 : decode cX13_number_ 121 = .ok (.lreturn, 1) := by decide +kernel
theorem dX13_number__122 : decode cX13_number_ 122 = .ok (.aload_n 0, 1) := by decide +kernel
theorem dX13_number__123 : decode cX13_number_ 123 = .ok (.getfield 99, 3) := by decide +kernel
theorem dX13_number__126 : decode cX13_number_ 126 = .ok (.iload 4, 2) := by decide +kernel
theorem dX13_number__128 : decode cX13_number_ 128 = .ok (.iaload, 1) := by decide +kernel
theorem dX13_number__129 : decode cX13_number_ 129 = .ok (.bipush 6, 2) := by decide +kernel
theorem dX13_number__131 : decode cX13_number_ 131 = .ok (.if_icmp .ne 46, 3) := by decide +kernel
theorem dX13_number__134 : decode cX13_number_ 134 = .ok (.iload_n 3, 1) := by decide +kernel
theorem dX13_number__135 : decode cX13_number_ 135 = .ok (.iconst 1, 1) := by decide +kernel
theorem dX13_number__136 : decode cX13_number_ 136 = .ok (.if_icmp .ne 7, 3) := by decide +kernel
theorem dX13_number__139 : decode cX13_number_ 139 = .ok (.lconst 1, 1) := by decide +kernel
theorem dX13_number__140 : decode cX13_number_ 140 = .ok (.goto 36, 3) := by decide +kernel
theorem dX13_number__143 : decode cX13_number_ 143 = .ok (.iload_n 2, 1) := by decide +kernel
theorem dX13_number__144 : decode cX13_number_ 144 = .ok (.ifCond .ne 19, 3) := by decide +kernel
theorem dX13_number__147 : decode cX13_number_ 147 = .ok (.aload_n 0, 1) := by decide +kernel
theorem dX13_number__148 : decode cX13_number_ 148 = .ok (.getfield 114, 3) := by decide +kernel
theorem dX13_number__151 : decode cX13_number_ 151 = .ok (.aload_n 0, 1) := by decide +kernel
theorem dX13_number__152 : decode cX13_number_ 152 = .ok (.getfield 105, 3) := by decide +kernel
theorem dX13_number__155 : decode cX13_number_ 155 = .ok (.iload 4, 2) := by decide +kernel
theorem dX13_number__157 : decode cX13_number_ 157 = .ok (.iaload, 1) := by decide +kernel
theorem dX13_number__158 : decode cX13_number_ 158 = .ok (.iaload, 1) := by decide +kernel
theorem dX13_number__159 : decode cX13_number_ 159 = .ok (.i2l, 1) := by decide +kernel
theorem dX13_number__160 : decode cX13_number_ 160 = .ok (.goto 16, 3) := by decide +kernel
theorem dX13_number__163 : decode cX13_number_ 163 = .ok (.aload_n 0, 1) := by decide +kernel
theorem dX13_number__164 : decode cX13_number_ 164 = .ok (.getfield 117, 3) := by decide +kernel
theorem dX13_number__167 : decode cX13_number_ 167 = .ok (.aload_n 0, 1) := by decide +kernel
theorem dX13_number__168 : decode cX13_number_ 168 = .ok (.getfield 105, 3) := by decide +kernel
theorem dX13_number__171 : decode cX13_number_ 171 = .ok (.iload 4, 2) := by decide +kernel
theorem dX13_number__173 : decode cX13_number_ 173 = .ok (.iaload, 1) := by decide +kernel
theorem dX13_number__174 : decode cX13_number_ 174 = .ok (.iaload, 1) := by decide +kernel
theorem dX13_number__175 : decode cX13_number_ 175 = .ok (.i2l, 1) := by decide +kernel
theorem dX13_number__176 : decode cX13_number_ 176 = .ok (.lreturn, 1) := by decide +kernel
theorem dX13_number__177 : decode cX13_number_ 177 = .ok (.iload_n 3, 1) := by decide +kernel
theorem dX13_number__178 : decode cX13_number_ 178 = .ok (.ifCond .ne 18, 3) := by decide +kernel
theorem dX13_number__181 : decode cX13_number_ 181 = .ok (.aload_n 0, 1) := by decide +kernel
theorem dX13_number__182 : decode cX13_number_ 182 = .ok (.getfield 108, 3) := by decide +kernel
theorem dX13_number__185 : decode cX13_number_ 185 = .ok (.bipush 7, 2) := by decide +kernel
theorem dX13_number__187 : decode cX13_number_ 187 = .ok (.iload 4, 2) := by decide +kernel
theorem dX13_number__189 : decode cX13_number_ 189 = .ok (.imul, 1) := by decide +kernel
theorem dX13_number__190 : decode cX13_number_ 190 = .ok (.iload_n 2, 1) := by decide +kernel
theorem dX13_number__191 : decode cX13_number_ 191 = .ok (.iadd, 1) := by decide +kernel
theorem dX13_number__192 : decode cX13_number_ 192 = .ok (.laload, 1) := by decide +kernel
theorem dX13_number__193 : decode cX13_number_ 193 = .ok (.goto 15, 3) := by decide +kernel
theorem dX13_number__196 : decode cX13_number_ 196 = .ok (.aload_n 0, 1) := by decide +kernel
theorem dX13_number__197 : decode cX13_number_ 197 = .ok (.getfield 111, 3) := by decide +kernel
theorem dX13_number__200 : decode cX13_number_ 200 = .ok (.bipush 7, 2) := by decide +kernel
theorem dX13_number__202 : decode cX13_number_ 202 = .ok (.iload 4, 2) := by decide +kernel
theorem dX13_number__204 : decode cX13_number_ 204 = .ok (.imul, 1) := by decide +kernel
theorem dX13_number__205 : decode cX13_number_ 205 = .ok (.iload_n 2, 1) := by decide +kernel
theorem dX13_number__206 : decode cX13_number_ 206 = .ok (.iadd, 1) := by decide +kernel
theorem dX13_number__207 : decode cX13_number_ 207 = .ok (.laload, 1) := by decide +kernel
theorem dX13_number__208 : decode cX13_number_ 208 = .ok (.lreturn, 1) := by decide +kernel
theorem dX13_leans_0 : decode cX13_leans 0 = .ok (.aload_n 0, 1) := by decide +kernel
theorem dX13_leans_1 : decode cX13_leans 1 = .ok (.iload_n 1, 1) := by decide +kernel
theorem dX13_leans_2 : decode cX13_leans 2 = .ok (.invokevirtual 757, 3) := by decide +kernel
theorem dX13_leans_5 : decode cX13_leans 5 = .ok (.ifCond .eq 7, 3) := by decide +kernel
theorem dX13_leans_8 : decode cX13_leans 8 = .ok (.iconst 0, 1) := by decide +kernel
theorem dX13_leans_9 : decode cX13_leans 9 = .ok (.goto 14, 3) := by decide +kernel
theorem dX13_leans_12 : decode cX13_leans 12 = .ok (.aload_n 0, 1) := by decide +kernel
theorem dX13_leans_13 : decode cX13_leans 13 = .ok (.getfield 102, 3) := by decide +kernel
theorem dX13_leans_16 : decode cX13_leans 16 = .ok (.aload_n 0, 1) := by decide +kernel
theorem dX13_leans_17 : decode cX13_leans 17 = .ok (.getfield 141, 3) := by decide +kernel
theorem dX13_leans_20 : decode cX13_leans 20 = .ok (.iload_n 1, 1) := by decide +kernel
theorem dX13_leans_21 : decode cX13_leans 21 = .ok (.iaload, 1) := by decide +kernel
theorem dX13_leans_22 : decode cX13_leans 22 = .ok (.iaload, 1) := by decide +kernel
theorem dX13_leans_23 : decode cX13_leans 23 = .ok (.ireturn, 1) := by decide +kernel
theorem dX13_stated_0 : decode cX13_stated 0 = .ok (.aload_n 0, 1) := by decide +kernel
theorem dX13_stated_1 : decode cX13_stated 1 = .ok (.iload_n 1, 1) := by decide +kernel
theorem dX13_stated_2 : decode cX13_stated 2 = .ok (.i2l, 1) := by decide +kernel
theorem dX13_stated_3 : decode cX13_stated 3 = .ok (.lconst 0, 1) := by decide +kernel
theorem dX13_stated_4 : decode cX13_stated 4 = .ok (.aload_n 0, 1) := by decide +kernel
theorem dX13_stated_5 : decode cX13_stated 5 = .ok (.getfield 562, 3) := by decide +kernel
theorem dX13_stated_8 : decode cX13_stated 8 = .ok (.iconst 1, 1) := by decide +kernel
theorem dX13_stated_9 : decode cX13_stated 9 = .ok (.isub, 1) := by decide +kernel
theorem dX13_stated_10 : decode cX13_stated 10 = .ok (.i2l, 1) := by decide +kernel
theorem dX13_stated_11 : decode cX13_stated 11 = .ok (.invokestatic 204, 3) := by decide +kernel
theorem dX13_stated_14 : decode cX13_stated 14 = .ok (.ifCond .eq 7, 3) := by decide +kernel
theorem dX13_stated_17 : decode cX13_stated 17 = .ok (.iconst 0, 1) := by decide +kernel
theorem dX13_stated_18 : decode cX13_stated 18 = .ok (.goto 4, 3) := by decide +kernel
theorem dX13_stated_21 : decode cX13_stated 21 = .ok (.iconst 1, 1) := by decide +kernel
theorem dX13_stated_22 : decode cX13_stated 22 = .ok (.putfield 193, 3) := by decide +kernel
theorem dX13_stated_25 : decode cX13_stated 25 = .ok (.aload_n 0, 1) := by decide +kernel
theorem dX13_stated_26 : decode cX13_stated 26 = .ok (.getfield 193, 3) := by decide +kernel
theorem dX13_stated_29 : decode cX13_stated 29 = .ok (.ifCond .le 7, 3) := by decide +kernel
theorem dX13_stated_32 : decode cX13_stated 32 = .ok (.iconst 0, 1) := by decide +kernel
theorem dX13_stated_33 : decode cX13_stated 33 = .ok (.goto 9, 3) := by decide +kernel
theorem dX13_stated_36 : decode cX13_stated 36 = .ok (.aload_n 0, 1) := by decide +kernel
theorem dX13_stated_37 : decode cX13_stated 37 = .ok (.getfield 144, 3) := by decide +kernel
theorem dX13_stated_40 : decode cX13_stated 40 = .ok (.iload_n 1, 1) := by decide +kernel
theorem dX13_stated_41 : decode cX13_stated 41 = .ok (.iaload, 1) := by decide +kernel
theorem dX13_stated_42 : decode cX13_stated 42 = .ok (.ireturn, 1) := by decide +kernel
theorem dX13_fall_0 : decode cX13_fall 0 = .ok (.aload_n 0, 1) := by decide +kernel
theorem dX13_fall_1 : decode cX13_fall 1 = .ok (.iconst 0, 1) := by decide +kernel
theorem dX13_fall_2 : decode cX13_fall 2 = .ok (.putfield 193, 3) := by decide +kernel
theorem dX13_fall_5 : decode cX13_fall 5 = .ok (.iload_n 2, 1) := by decide +kernel
theorem dX13_fall_6 : decode cX13_fall 6 = .ok (.i2l, 1) := by decide +kernel
theorem dX13_fall_7 : decode cX13_fall 7 = .ok (.lconst 0, 1) := by decide +kernel
theorem dX13_fall_8 : decode cX13_fall 8 = .ok (.lconst 1, 1) := by decide +kernel
theorem dX13_fall_9 : decode cX13_fall 9 = .ok (.invokestatic 204, 3) := by decide +kernel
theorem dX13_fall_12 : decode cX13_fall 12 = .ok (.ifCond .ne 6, 3) := by decide +kernel
theorem dX13_fall_15 : decode cX13_fall 15 = .ok (.ldc 208, 2) := by decide +kernel
theorem dX13_fall_17 : decode cX13_fall 17 = .ok (.ireturn, 1) := by decide +kernel
theorem dX13_fall_18 : decode cX13_fall 18 = .ok (.iload_n 1, 1) := by decide +kernel
theorem dX13_fall_19 : decode cX13_fall 19 = .ok (.i2l, 1) := by decide +kernel
theorem dX13_fall_20 : decode cX13_fall 20 = .ok (.lconst 0, 1) := by decide +kernel
theorem dX13_fall_21 : decode cX13_fall 21 = .ok (.aload_n 0, 1) := by decide +kernel
theorem dX13_fall_22 : decode cX13_fall 22 = .ok (.getfield 556, 3) := by decide +kernel
theorem dX13_fall_25 : decode cX13_fall 25 = .ok (.iconst 1, 1) := by decide +kernel
theorem dX13_fall_26 : decode cX13_fall 26 = .ok (.isub, 1) := by decide +kernel
theorem dX13_fall_27 : decode cX13_fall 27 = .ok (.i2l, 1) := by decide +kernel
theorem dX13_fall_28 : decode cX13_fall 28 = .ok (.invokestatic 204, 3) := by decide +kernel
theorem dX13_fall_31 : decode cX13_fall 31 = .ok (.ifCond .ne 7, 3) := by decide +kernel
theorem dX13_fall_34 : decode cX13_fall 34 = .ok (.iconst (-1), 1) := by decide +kernel
theorem dX13_fall_35 : decode cX13_fall 35 = .ok (.goto 22, 3) := by decide +kernel
theorem dX13_fall_38 : decode cX13_fall 38 = .ok (.iload_n 2, 1) := by decide +kernel
theorem dX13_fall_39 : decode cX13_fall 39 = .ok (.ifCond .ne 12, 3) := by decide +kernel
theorem dX13_fall_42 : decode cX13_fall 42 = .ok (.aload_n 0, 1) := by decide +kernel
theorem dX13_fall_43 : decode cX13_fall 43 = .ok (.getfield 135, 3) := by decide +kernel
theorem dX13_fall_46 : decode cX13_fall 46 = .ok (.iload_n 1, 1) := by decide +kernel
theorem dX13_fall_47 : decode cX13_fall 47 = .ok (.iaload, 1) := by decide +kernel
theorem dX13_fall_48 : decode cX13_fall 48 = .ok (.goto 9, 3) := by decide +kernel
theorem dX13_fall_51 : decode cX13_fall 51 = .ok (.aload_n 0, 1) := by decide +kernel
theorem dX13_fall_52 : decode cX13_fall 52 = .ok (.getfield 138, 3) := by decide +kernel
theorem dX13_fall_55 : decode cX13_fall 55 = .ok (.iload_n 1, 1) := by decide +kernel
theorem dX13_fall_56 : decode cX13_fall 56 = .ok (.iaload, 1) := by decide +kernel
theorem dX13_fall_57 : decode cX13_fall 57 = .ok (.ireturn, 1) := by decide +kernel
theorem dX13_same_0 : decode cX13_same 0 = .ok (.aload_n 0, 1) := by decide +kernel
theorem dX13_same_1 : decode cX13_same 1 = .ok (.iload_n 1, 1) := by decide +kernel
theorem dX13_same_2 : decode cX13_same 2 = .ok (.invokevirtual 757, 3) := by decide +kernel
theorem dX13_same_5 : decode cX13_same 5 = .ok (.ifCond .ne 34, 3) := by decide +kernel
theorem dX13_same_8 : decode cX13_same 8 = .ok (.aload_n 0, 1) := by decide +kernel
theorem dX13_same_9 : decode cX13_same 9 = .ok (.iload_n 2, 1) := by decide +kernel
theorem dX13_same_10 : decode cX13_same 10 = .ok (.invokevirtual 757, 3) := by decide +kernel
theorem dX13_same_13 : decode cX13_same 13 = .ok (.ifCond .ne 26, 3) := by decide +kernel
theorem dX13_same_16 : decode cX13_same 16 = .ok (.aload_n 0, 1) := by decide +kernel
theorem dX13_same_17 : decode cX13_same 17 = .ok (.aload_n 0, 1) := by decide +kernel
theorem dX13_same_18 : decode cX13_same 18 = .ok (.getfield 141, 3) := by decide +kernel
theorem dX13_same_21 : decode cX13_same 21 = .ok (.iload_n 1, 1) := by decide +kernel
theorem dX13_same_22 : decode cX13_same 22 = .ok (.iaload, 1) := by decide +kernel
theorem dX13_same_23 : decode cX13_same 23 = .ok (.aload_n 0, 1) := by decide +kernel
theorem dX13_same_24 : decode cX13_same 24 = .ok (.getfield 141, 3) := by decide +kernel
theorem dX13_same_27 : decode cX13_same 27 = .ok (.iload_n 2, 1) := by decide +kernel
theorem dX13_same_28 : decode cX13_same 28 = .ok (.iaload, 1) := by decide +kernel
theorem dX13_same_29 : decode cX13_same 29 = .ok (.invokevirtual 709, 3) := by decide +kernel
theorem dX13_same_32 : decode cX13_same 32 = .ok (.ifCond .eq 7, 3) := by decide +kernel
theorem dX13_same_35 : decode cX13_same 35 = .ok (.iconst 1, 1) := by decide +kernel
theorem dX13_same_36 : decode cX13_same 36 = .ok (.goto 4, 3) := by decide +kernel
theorem dX13_same_39 : decode cX13_same 39 = .ok (.iconst 0, 1) := by decide +kernel
theorem dX13_same_40 : decode cX13_same 40 = .ok (.ireturn, 1) := by decide +kernel
theorem dX13_put_0 : decode cX13_put 0 = .ok (.aload_n 0, 1) := by decide +kernel
theorem dX13_put_1 : decode cX13_put 1 = .ok (.getfield 163, 3) := by decide +kernel
theorem dX13_put_4 : decode cX13_put 4 = .ok (.aload_n 0, 1) := by decide +kernel
theorem dX13_put_5 : decode cX13_put 5 = .ok (.getfield 754, 3) := by decide +kernel
theorem dX13_put_8 : decode cX13_put 8 = .ok (.iload_n 1, 1) := by decide +kernel
theorem dX13_put_9 : decode cX13_put 9 = .ok (.i2b, 1) := by decide +kernel
theorem dX13_put_10 : decode cX13_put 10 = .ok (.bastore, 1) := by decide +kernel
theorem dX13_put_11 : decode cX13_put 11 = .ok (.aload_n 0, 1) := by decide +kernel
theorem dX13_put_12 : decode cX13_put 12 = .ok (.dup, 1) := by decide +kernel
theorem dX13_put_13 : decode cX13_put 13 = .ok (.getfield 754, 3) := by decide +kernel
theorem dX13_put_16 : decode cX13_put 16 = .ok (.iconst 1, 1) := by decide +kernel
theorem dX13_put_17 : decode cX13_put 17 = .ok (.iadd, 1) := by decide +kernel
theorem dX13_put_18 : decode cX13_put 18 = .ok (.putfield 754, 3) := by decide +kernel
theorem dX13_put_21 : decode cX13_put 21 = .ok (.return_, 1) := by decide +kernel
theorem dX13_word_0 : decode cX13_word 0 = .ok (.aload_n 1, 1) := by decide +kernel
theorem dX13_word_1 : decode cX13_word 1 = .ok (.iload_n 2, 1) := by decide +kernel
theorem dX13_word_2 : decode cX13_word 2 = .ok (.invokestatic 648, 3) := by decide +kernel
theorem dX13_word_5 : decode cX13_word 5 = .ok (.istore_n 3, 1) := by decide +kernel
theorem dX13_word_6 : decode cX13_word 6 = .ok (.iconst 0, 1) := by decide +kernel
theorem dX13_word_7 : decode cX13_word 7 = .ok (.istore 4, 2) := by decide +kernel
theorem dX13_word_9 : decode cX13_word 9 = .ok (.iload 4, 2) := by decide +kernel
theorem dX13_word_11 : decode cX13_word 11 = .ok (.aload_n 1, 1) := by decide +kernel
theorem dX13_word_12 : decode cX13_word 12 = .ok (.iload_n 3, 1) := by decide +kernel
theorem dX13_word_13 : decode cX13_word 13 = .ok (.invokestatic 760, 3) := by decide +kernel
theorem dX13_word_16 : decode cX13_word 16 = .ok (.if_icmp .ge 19, 3) := by decide +kernel
theorem dX13_word_19 : decode cX13_word 19 = .ok (.aload_n 0, 1) := by decide +kernel
theorem dX13_word_20 : decode cX13_word 20 = .ok (.aload_n 1, 1) := by decide +kernel
theorem dX13_word_21 : decode cX13_word 21 = .ok (.iload_n 3, 1) := by decide +kernel
theorem dX13_word_22 : decode cX13_word 22 = .ok (.iload 4, 2) := by decide +kernel
theorem dX13_word_24 : decode cX13_word 24 = .ok (.iadd, 1) := by decide +kernel
theorem dX13_word_25 : decode cX13_word 25 = .ok (.caload, 1) := by decide +kernel
theorem dX13_word_26 : decode cX13_word 26 = .ok (.invokevirtual 763, 3) := by decide +kernel
theorem dX13_word_29 : decode cX13_word 29 = .ok (.iinc 4 1, 3) := by decide +kernel
theorem dX13_word_32 : decode cX13_word 32 = .ok (.goto (-23), 3) := by decide +kernel
theorem dX13_word_35 : decode cX13_word 35 = .ok (.return_, 1) := by decide +kernel
theorem dX13_figures_0 : decode cX13_figures 0 = .ok (.lconst 1, 1) := by decide +kernel
theorem dX13_figures_1 : decode cX13_figures 1 = .ok (.lstore_n 3, 1) := by decide +kernel
theorem dX13_figures_2 : decode cX13_figures 2 = .ok (.lload_n 1, 1) := by decide +kernel
theorem dX13_figures_3 : decode cX13_figures 3 = .ok (.lload_n 3, 1) := by decide +kernel
theorem dX13_figures_4 : decode cX13_figures 4 = .ok (.ldiv, 1) := by decide +kernel
theorem dX13_figures_5 : decode cX13_figures 5 = .ok (.ldc2_w 766, 3) := by decide +kernel
theorem dX13_figures_8 : decode cX13_figures 8 = .ok (.lcmp, 1) := by decide +kernel
theorem dX13_figures_9 : decode cX13_figures 9 = .ok (.ifCond .le 12, 3) := by decide +kernel
theorem dX13_figures_12 : decode cX13_figures 12 = .ok (.lload_n 3, 1) := by decide +kernel
theorem dX13_figures_13 : decode cX13_figures 13 = .ok (.ldc2_w 240, 3) := by decide +kernel
theorem dX13_figures_16 : decode cX13_figures 16 = .ok (.lmul, 1) := by decide +kernel
theorem dX13_figures_17 : decode cX13_figures 17 = .ok (.lstore_n 3, 1) := by decide +kernel
theorem dX13_figures_18 : decode cX13_figures 18 = .ok (.goto (-16), 3) := by decide +kernel
theorem dX13_figures_21 : decode cX13_figures 21 = .ok (.lload_n 3, 1) := by decide +kernel
theorem dX13_figures_22 : decode cX13_figures 22 = .ok (.lconst 0, 1) := by decide +kernel
theorem dX13_figures_23 : decode cX13_figures 23 = .ok (.lcmp, 1) := by decide +kernel
theorem dX13_figures_24 : decode cX13_figures 24 = .ok (.ifCond .le 28, 3) := by decide +kernel
theorem dX13_figures_27 : decode cX13_figures 27 = .ok (.aload_n 0, 1) := by decide +kernel
theorem dX13_figures_28 : decode cX13_figures 28 = .ok (.ldc2_w 213, 3) := by decide +kernel
theorem dX13_figures_31 : decode cX13_figures 31 = .ok (.lload_n 1, 1) := by decide +kernel
theorem dX13_figures_32 : decode cX13_figures 32 = .ok (.lload_n 3, 1) := by decide +kernel
theorem dX13_figures_33 : decode cX13_figures 33 = .ok (.ldiv, 1) := by decide +kernel
theorem dX13_figures_34 : decode cX13_figures 34 = .ok (.ldc2_w 240, 3) := by decide +kernel
theorem dX13_figures_37 : decode cX13_figures 37 = .ok (.lrem, 1) := by decide +kernel
theorem dX13_figures_38 : decode cX13_figures 38 = .ok (.ladd, 1) := by decide +kernel
theorem dX13_figures_39 : decode cX13_figures 39 = .ok (.l2i, 1) := by decide +kernel
theorem dX13_figures_40 : decode cX13_figures 40 = .ok (.invokevirtual 763, 3) := by decide +kernel
theorem dX13_figures_43 : decode cX13_figures 43 = .ok (.lload_n 3, 1) := by decide +kernel
theorem dX13_figures_44 : decode cX13_figures 44 = .ok (.ldc2_w 240, 3) := by decide +kernel
theorem dX13_figures_47 : decode cX13_figures 47 = .ok (.ldiv, 1) := by decide +kernel
theorem dX13_figures_48 : decode cX13_figures 48 = .ok (.lstore_n 3, 1) := by decide +kernel
theorem dX13_figures_49 : decode cX13_figures 49 = .ok (.goto (-28), 3) := by decide +kernel
theorem dX13_figures_52 : decode cX13_figures 52 = .ok (.return_, 1) := by decide +kernel
theorem dX13_printName_0 : decode cX13_printName 0 = .ok (.bipush 20, 2) := by decide +kernel
theorem dX13_printName_2 : decode cX13_printName 2 = .ok (.iload_n 1, 1) := by decide +kernel
theorem dX13_printName_3 : decode cX13_printName 3 = .ok (.imul, 1) := by decide +kernel
theorem dX13_printName_4 : decode cX13_printName 4 = .ok (.iload_n 2, 1) := by decide +kernel
theorem dX13_printName_5 : decode cX13_printName 5 = .ok (.iadd, 1) := by decide +kernel
theorem dX13_printName_6 : decode cX13_printName 6 = .ok (.istore_n 3, 1) := by decide +kernel
theorem dX13_printName_7 : decode cX13_printName 7 = .ok (.iconst 0, 1) := by decide +kernel
theorem dX13_printName_8 : decode cX13_printName 8 = .ok (.istore 4, 2) := by decide +kernel
theorem dX13_printName_10 : decode cX13_printName 10 = .ok (.iload 4, 2) := by decide +kernel
theorem dX13_printName_12 : decode cX13_printName 12 = .ok (.aload_n 0, 1) := by decide +kernel
theorem dX13_printName_13 : decode cX13_printName 13 = .ok (.getfield 49, 3) := by decide +kernel
theorem dX13_printName_16 : decode cX13_printName 16 = .ok (.iload_n 3, 1) := by decide +kernel
theorem dX13_printName_17 : decode cX13_printName 17 = .ok (.iaload, 1) := by decide +kernel
theorem dX13_printName_18 : decode cX13_printName 18 = .ok (.if_icmp .ge 25, 3) := by decide +kernel
theorem dX13_printName_21 : decode cX13_printName 21 = .ok (.aload_n 0, 1) := by decide +kernel
theorem dX13_printName_22 : decode cX13_printName 22 = .ok (.aload_n 0, 1) := by decide +kernel
theorem dX13_printName_23 : decode cX13_printName 23 = .ok (.getfield 46, 3) := by decide +kernel
theorem dX13_printName_26 : decode cX13_printName 26 = .ok (.bipush 10, 2) := by decide +kernel
theorem dX13_printName_28 : decode cX13_printName 28 = .ok (.iload_n 3, 1) := by decide +kernel
theorem dX13_printName_29 : decode cX13_printName 29 = .ok (.imul, 1) := by decide +kernel
theorem dX13_printName_30 : decode cX13_printName 30 = .ok (.iload 4, 2) := by decide +kernel
theorem dX13_printName_32 : decode cX13_printName 32 = .ok (.iadd, 1) := by decide +kernel
theorem dX13_printName_33 : decode cX13_printName 33 = .ok (.baload, 1) := by decide +kernel
theorem dX13_printName_34 : decode cX13_printName 34 = .ok (.invokevirtual 763, 3) := by decide +kernel
theorem dX13_printName_37 : decode cX13_printName 37 = .ok (.iinc 4 1, 3) := by decide +kernel
theorem dX13_printName_40 : decode cX13_printName 40 = .ok (.goto (-30), 3) := by decide +kernel
theorem dX13_printName_43 : decode cX13_printName 43 = .ok (.return_, 1) := by decide +kernel
theorem dX13_printMacro_0 : decode cX13_printMacro 0 = .ok (.iconst 0, 1) := by decide +kernel
theorem dX13_printMacro_1 : decode cX13_printMacro 1 = .ok (.istore_n 2, 1) := by decide +kernel
theorem dX13_printMacro_2 : decode cX13_printMacro 2 = .ok (.iload_n 2, 1) := by decide +kernel
theorem dX13_printMacro_3 : decode cX13_printMacro 3 = .ok (.aload_n 0, 1) := by decide +kernel
theorem dX13_printMacro_4 : decode cX13_printMacro 4 = .ok (.getfield 64, 3) := by decide +kernel
theorem dX13_printMacro_7 : decode cX13_printMacro 7 = .ok (.iload_n 1, 1) := by decide +kernel
theorem dX13_printMacro_8 : decode cX13_printMacro 8 = .ok (.iaload, 1) := by decide +kernel
theorem dX13_printMacro_9 : decode cX13_printMacro 9 = .ok (.if_icmp .ge 24, 3) := by decide +kernel
theorem dX13_printMacro_12 : decode cX13_printMacro 12 = .ok (.aload_n 0, 1) := by decide +kernel
theorem dX13_printMacro_13 : decode cX13_printMacro 13 = .ok (.aload_n 0, 1) := by decide +kernel
theorem dX13_printMacro_14 : decode cX13_printMacro 14 = .ok (.getfield 61, 3) := by decide +kernel
theorem dX13_printMacro_17 : decode cX13_printMacro 17 = .ok (.bipush 10, 2) := by decide +kernel
theorem dX13_printMacro_19 : decode cX13_printMacro 19 = .ok (.iload_n 1, 1) := by decide +kernel
theorem dX13_printMacro_20 : decode cX13_printMacro 20 = .ok (.imul, 1) := by decide +kernel
theorem dX13_printMacro_21 : decode cX13_printMacro 21 = .ok (.iload_n 2, 1) := by decide +kernel
theorem dX13_printMacro_22 : decode cX13_printMacro 22 = .ok (.iadd, 1) := by decide +kernel
theorem dX13_printMacro_23 : decode cX13_printMacro 23 = .ok (.baload, 1) := by decide +kernel
theorem dX13_printMacro_24 : decode cX13_printMacro 24 = .ok (.invokevirtual 763, 3) := by decide +kernel
theorem dX13_printMacro_27 : decode cX13_printMacro 27 = .ok (.iinc 2 1, 3) := by decide +kernel
theorem dX13_printMacro_30 : decode cX13_printMacro 30 = .ok (.goto (-28), 3) := by decide +kernel
theorem dX13_printMacro_33 : decode cX13_printMacro 33 = .ok (.return_, 1) := by decide +kernel
theorem dX13_rank_0 : decode cX13_rank 0 = .ok (.aload_n 0, 1) := by decide +kernel
theorem dX13_rank_1 : decode cX13_rank 1 = .ok (.getfield 23, 3) := by decide +kernel
theorem dX13_rank_4 : decode cX13_rank 4 = .ok (.iload_n 1, 1) := by decide +kernel
theorem dX13_rank_5 : decode cX13_rank 5 = .ok (.iaload, 1) := by decide +kernel
theorem dX13_rank_6 : decode cX13_rank 6 = .ok (.bipush 12, 2) := by decide +kernel
theorem dX13_rank_8 : decode cX13_rank 8 = .ok (.if_icmp .eq 20, 3) := by decide +kernel
theorem dX13_rank_11 : decode cX13_rank 11 = .ok (.aload_n 0, 1) := by decide +kernel
theorem dX13_rank_12 : decode cX13_rank 12 = .ok (.getfield 23, 3) := by decide +kernel
theorem dX13_rank_15 : decode cX13_rank 15 = .ok (.iload_n 1, 1) := by decide +kernel
theorem dX13_rank_16 : decode cX13_rank 16 = .ok (.iaload, 1) := by decide +kernel
theorem dX13_rank_17 : decode cX13_rank 17 = .ok (.bipush 11, 2) := by decide +kernel
theorem dX13_rank_19 : decode cX13_rank 19 = .ok (.if_icmp .ne 7, 3) := by decide +kernel
theorem dX13_rank_22 : decode cX13_rank 22 = .ok (.iconst 4, 1) := by decide +kernel
theorem dX13_rank_23 : decode cX13_rank 23 = .ok (.goto 4, 3) := by decide +kernel
theorem dX13_rank_26 : decode cX13_rank 26 = .ok (.iconst 5, 1) := by decide +kernel
theorem dX13_rank_27 : decode cX13_rank 27 = .ok (.ireturn, 1) := by decide +kernel
theorem dX13_rank_28 : decode cX13_rank 28 = .ok (.aload_n 0, 1) := by decide +kernel
theorem dX13_rank_29 : decode cX13_rank 29 = .ok (.getfield 27, 3) := by decide +kernel
theorem dX13_rank_32 : decode cX13_rank 32 = .ok (.iload_n 1, 1) := by decide +kernel
theorem dX13_rank_33 : decode cX13_rank 33 = .ok (.iaload, 1) := by decide +kernel
theorem dX13_rank_34 : decode cX13_rank 34 = .ok (.bipush 61, 2) := by decide +kernel
theorem dX13_rank_36 : decode cX13_rank 36 = .ok (.if_icmp .eq 14, 3) := by decide +kernel
theorem dX13_rank_39 : decode cX13_rank 39 = .ok (.aload_n 0, 1) := by decide +kernel
theorem dX13_rank_40 : decode cX13_rank 40 = .ok (.getfield 27, 3) := by decide +kernel
theorem dX13_rank_43 : decode cX13_rank 43 = .ok (.iload_n 1, 1) := by decide +kernel
theorem dX13_rank_44 : decode cX13_rank 44 = .ok (.iaload, 1) := by decide +kernel
theorem dX13_rank_45 : decode cX13_rank 45 = .ok (.bipush 60, 2) := by decide +kernel
theorem dX13_rank_47 : decode cX13_rank 47 = .ok (.if_icmp .ne 7, 3) := by decide +kernel
theorem dX13_rank_50 : decode cX13_rank 50 = .ok (.iconst 1, 1) := by decide +kernel
theorem dX13_rank_51 : decode cX13_rank 51 = .ok (.goto 30, 3) := by decide +kernel
theorem dX13_rank_54 : decode cX13_rank 54 = .ok (.aload_n 0, 1) := by decide +kernel
theorem dX13_rank_55 : decode cX13_rank 55 = .ok (.getfield 27, 3) := by decide +kernel
theorem dX13_rank_58 : decode cX13_rank 58 = .ok (.iload_n 1, 1) := by decide +kernel
theorem dX13_rank_59 : decode cX13_rank 59 = .ok (.iaload, 1) := by decide +kernel
theorem dX13_rank_60 : decode cX13_rank 60 = .ok (.bipush 43, 2) := by decide +kernel
theorem dX13_rank_62 : decode cX13_rank 62 = .ok (.if_icmp .eq 14, 3) := by decide +kernel
theorem dX13_rank_65 : decode cX13_rank 65 = .ok (.aload_n 0, 1) := by decide +kernel
theorem dX13_rank_66 : decode cX13_rank 66 = .ok (.getfield 27, 3) := by decide +kernel
theorem dX13_rank_69 : decode cX13_rank 69 = .ok (.iload_n 1, 1) := by decide +kernel
theorem dX13_rank_70 : decode cX13_rank 70 = .ok (.iaload, 1) := by decide +kernel
theorem dX13_rank_71 : decode cX13_rank 71 = .ok (.bipush 45, 2) := by decide +kernel
theorem dX13_rank_73 : decode cX13_rank 73 = .ok (.if_icmp .ne 7, 3) := by decide +kernel
theorem dX13_rank_76 : decode cX13_rank 76 = .ok (.iconst 2, 1) := by decide +kernel
theorem dX13_rank_77 : decode cX13_rank 77 = .ok (.goto 4, 3) := by decide +kernel
theorem dX13_rank_80 : decode cX13_rank 80 = .ok (.iconst 3, 1) := by decide +kernel
theorem dX13_rank_81 : decode cX13_rank 81 = .ok (.ireturn, 1) := by decide +kernel
theorem dX13_behind__0 : decode cX13_behind_ 0 = .ok (.aload_n 0, 1) := by decide +kernel
theorem dX13_behind__1 : decode cX13_behind_ 1 = .ok (.getfield 166, 3) := by decide +kernel
theorem dX13_behind__4 : decode cX13_behind_ 4 = .ok (.aload_n 0, 1) := by decide +kernel
theorem dX13_behind__5 : decode cX13_behind_ 5 = .ok (.getfield 768, 3) := by decide +kernel
theorem dX13_behind__8 : decode cX13_behind_ 8 = .ok (.iload_n 1, 1) := by decide +kernel
theorem dX13_behind__9 : decode cX13_behind_ 9 = .ok (.iastore, 1) := by decide +kernel
theorem dX13_behind__10 : decode cX13_behind_ 10 = .ok (.aload_n 0, 1) := by decide +kernel
theorem dX13_behind__11 : decode cX13_behind_ 11 = .ok (.getfield 169, 3) := by decide +kernel
theorem dX13_behind__14 : decode cX13_behind_ 14 = .ok (.aload_n 0, 1) := by decide +kernel
theorem dX13_behind__15 : decode cX13_behind_ 15 = .ok (.getfield 768, 3) := by decide +kernel
theorem dX13_behind__18 : decode cX13_behind_ 18 = .ok (.iload_n 2, 1) := by decide +kernel
theorem dX13_behind__19 : decode cX13_behind_ 19 = .ok (.iastore, 1) := by decide +kernel
theorem dX13_behind__20 : decode cX13_behind_ 20 = .ok (.aload_n 0, 1) := by decide +kernel
theorem dX13_behind__21 : decode cX13_behind_ 21 = .ok (.getfield 172, 3) := by decide +kernel
theorem dX13_behind__24 : decode cX13_behind_ 24 = .ok (.aload_n 0, 1) := by decide +kernel
theorem dX13_behind__25 : decode cX13_behind_ 25 = .ok (.getfield 768, 3) := by decide +kernel
theorem dX13_behind__28 : decode cX13_behind_ 28 = .ok (.iload_n 3, 1) := by decide +kernel
theorem dX13_behind__29 : decode cX13_behind_ 29 = .ok (.iastore, 1) := by decide +kernel
theorem dX13_behind__30 : decode cX13_behind_ 30 = .ok (.aload_n 0, 1) := by decide +kernel
theorem dX13_behind__31 : decode cX13_behind_ 31 = .ok (.dup, 1) := by decide +kernel
theorem dX13_behind__32 : decode cX13_behind_ 32 = .ok (.getfield 768, 3) := by decide +kernel
theorem dX13_behind__35 : decode cX13_behind_ 35 = .ok (.iconst 1, 1) := by decide +kernel
theorem dX13_behind__36 : decode cX13_behind_ 36 = .ok (.iadd, 1) := by decide +kernel
theorem dX13_behind__37 : decode cX13_behind_ 37 = .ok (.putfield 768, 3) := by decide +kernel
theorem dX13_behind__40 : decode cX13_behind_ 40 = .ok (.return_, 1) := by decide +kernel
theorem dX13_printExp_0 : decode cX13_printExp 0 = .ok (.aload_n 0, 1) := by decide +kernel
theorem dX13_printExp_1 : decode cX13_printExp 1 = .ok (.iload_n 1, 1) := by decide +kernel
theorem dX13_printExp_2 : decode cX13_printExp 2 = .ok (.invokevirtual 771, 3) := by decide +kernel
theorem dX13_printExp_5 : decode cX13_printExp 5 = .ok (.istore_n 3, 1) := by decide +kernel
theorem dX13_printExp_6 : decode cX13_printExp 6 = .ok (.iload_n 3, 1) := by decide +kernel
theorem dX13_printExp_7 : decode cX13_printExp 7 = .ok (.iload_n 2, 1) := by decide +kernel
theorem dX13_printExp_8 : decode cX13_printExp 8 = .ok (.if_icmp .ge 17, 3) := by decide +kernel
theorem dX13_printExp_11 : decode cX13_printExp 11 = .ok (.aload_n 0, 1) := by decide +kernel
theorem dX13_printExp_12 : decode cX13_printExp 12 = .ok (.bipush 40, 2) := by decide +kernel
theorem dX13_printExp_14 : decode cX13_printExp 14 = .ok (.invokevirtual 763, 3) := by decide +kernel
theorem dX13_printExp_17 : decode cX13_printExp 17 = .ok (.aload_n 0, 1) := by decide +kernel
theorem dX13_printExp_18 : decode cX13_printExp 18 = .ok (.iconst 4, 1) := by decide +kernel
theorem dX13_printExp_19 : decode cX13_printExp 19 = .ok (.bipush 41, 2) := by decide +kernel
theorem dX13_printExp_21 : decode cX13_printExp 21 = .ok (.iconst 0, 1) := by decide +kernel
theorem dX13_printExp_22 : decode cX13_printExp 22 = .ok (.invokevirtual 774, 3) := by decide +kernel
theorem dX13_printExp_25 : decode cX13_printExp 25 = .ok (.aload_n 0, 1) := by decide +kernel
theorem dX13_printExp_26 : decode cX13_printExp 26 = .ok (.getfield 23, 3) := by decide +kernel
theorem dX13_printExp_29 : decode cX13_printExp 29 = .ok (.iload_n 1, 1) := by decide +kernel
theorem dX13_printExp_30 : decode cX13_printExp 30 = .ok (.iaload, 1) := by decide +kernel
theorem dX13_printExp_31 : decode cX13_printExp 31 = .ok (.bipush 7, 2) := by decide +kernel
theorem dX13_printExp_33 : decode cX13_printExp 33 = .ok (.if_icmp .ne 16, 3) := by decide +kernel
theorem dX13_printExp_36 : decode cX13_printExp 36 = .ok (.aload_n 0, 1) := by decide +kernel
theorem dX13_printExp_37 : decode cX13_printExp 37 = .ok (.aload_n 0, 1) := by decide +kernel
theorem dX13_printExp_38 : decode cX13_printExp 38 = .ok (.getfield 42, 3) := by decide +kernel
theorem dX13_printExp_41 : decode cX13_printExp 41 = .ok (.iload_n 1, 1) := by decide +kernel
theorem dX13_printExp_42 : decode cX13_printExp 42 = .ok (.laload, 1) := by decide +kernel
theorem dX13_printExp_43 : decode cX13_printExp 43 = .ok (.invokevirtual 776, 3) := by decide +kernel
theorem dX13_printExp_46 : decode cX13_printExp 46 = .ok (.goto 178, 3) := by decide +kernel
theorem dX13_printExp_49 : decode cX13_printExp 49 = .ok (.aload_n 0, 1) := by decide +kernel
theorem dX13_printExp_50 : decode cX13_printExp 50 = .ok (.getfield 23, 3) := by decide +kernel
theorem dX13_printExp_53 : decode cX13_printExp 53 = .ok (.iload_n 1, 1) := by decide +kernel
theorem dX13_printExp_54 : decode cX13_printExp 54 = .ok (.iaload, 1) := by decide +kernel
theorem dX13_printExp_55 : decode cX13_printExp 55 = .ok (.bipush 8, 2) := by decide +kernel
theorem dX13_printExp_57 : decode cX13_printExp 57 = .ok (.if_icmp .ne 20, 3) := by decide +kernel
theorem dX13_printExp_60 : decode cX13_printExp 60 = .ok (.aload_n 0, 1) := by decide +kernel
theorem dX13_printExp_61 : decode cX13_printExp 61 = .ok (.aload_n 0, 1) := by decide +kernel
theorem dX13_printExp_62 : decode cX13_printExp 62 = .ok (.getfield 779, 3) := by decide +kernel
theorem dX13_printExp_65 : decode cX13_printExp 65 = .ok (.aload_n 0, 1) := by decide +kernel
theorem dX13_printExp_66 : decode cX13_printExp 66 = .ok (.getfield 27, 3) := by decide +kernel
theorem dX13_printExp_69 : decode cX13_printExp 69 = .ok (.iload_n 1, 1) := by decide +kernel
theorem dX13_printExp_70 : decode cX13_printExp 70 = .ok (.iaload, 1) := by decide +kernel
theorem dX13_printExp_71 : decode cX13_printExp 71 = .ok (.invokevirtual 782, 3) := by decide +kernel
theorem dX13_printExp_74 : decode cX13_printExp 74 = .ok (.goto 150, 3) := by decide +kernel
theorem dX13_printExp_77 : decode cX13_printExp 77 = .ok (.aload_n 0, 1) := by decide +kernel
theorem dX13_printExp_78 : decode cX13_printExp 78 = .ok (.getfield 23, 3) := by decide +kernel
theorem dX13_printExp_81 : decode cX13_printExp 81 = .ok (.iload_n 1, 1) := by decide +kernel
theorem dX13_printExp_82 : decode cX13_printExp 82 = .ok (.iaload, 1) := by decide +kernel
theorem dX13_printExp_83 : decode cX13_printExp 83 = .ok (.bipush 9, 2) := by decide +kernel
theorem dX13_printExp_85 : decode cX13_printExp 85 = .ok (.if_icmp .ne 46, 3) := by decide +kernel
theorem dX13_printExp_88 : decode cX13_printExp 88 = .ok (.aload_n 0, 1) := by decide +kernel
theorem dX13_printExp_89 : decode cX13_printExp 89 = .ok (.aload_n 0, 1) := by decide +kernel
theorem dX13_printExp_90 : decode cX13_printExp 90 = .ok (.getfield 779, 3) := by decide +kernel
theorem dX13_printExp_93 : decode cX13_printExp 93 = .ok (.aload_n 0, 1) := by decide +kernel
theorem dX13_printExp_94 : decode cX13_printExp 94 = .ok (.getfield 27, 3) := by decide +kernel
theorem dX13_printExp_97 : decode cX13_printExp 97 = .ok (.iload_n 1, 1) := by decide +kernel
theorem dX13_printExp_98 : decode cX13_printExp 98 = .ok (.iaload, 1) := by decide +kernel
theorem dX13_printExp_99 : decode cX13_printExp 99 = .ok (.invokevirtual 782, 3) := by decide +kernel
theorem dX13_printExp_102 : decode cX13_printExp 102 = .ok (.aload_n 0, 1) := by decide +kernel
theorem dX13_printExp_103 : decode cX13_printExp 103 = .ok (.bipush 91, 2) := by decide +kernel
theorem dX13_printExp_105 : decode cX13_printExp 105 = .ok (.invokevirtual 763, 3) := by decide +kernel
theorem dX13_printExp_108 : decode cX13_printExp 108 = .ok (.aload_n 0, 1) := by decide +kernel
theorem dX13_printExp_109 : decode cX13_printExp 109 = .ok (.iconst 4, 1) := by decide +kernel
theorem dX13_printExp_110 : decode cX13_printExp 110 = .ok (.bipush 93, 2) := by decide +kernel
theorem dX13_printExp_112 : decode cX13_printExp 112 = .ok (.iconst 0, 1) := by decide +kernel
theorem dX13_printExp_113 : decode cX13_printExp 113 = .ok (.invokevirtual 774, 3) := by decide +kernel
theorem dX13_printExp_116 : decode cX13_printExp 116 = .ok (.aload_n 0, 1) := by decide +kernel
theorem dX13_printExp_117 : decode cX13_printExp 117 = .ok (.iconst 0, 1) := by decide +kernel
theorem dX13_printExp_118 : decode cX13_printExp 118 = .ok (.aload_n 0, 1) := by decide +kernel
theorem dX13_printExp_119 : decode cX13_printExp 119 = .ok (.getfield 30, 3) := by decide +kernel
theorem dX13_printExp_122 : decode cX13_printExp 122 = .ok (.iload_n 1, 1) := by decide +kernel
theorem dX13_printExp_123 : decode cX13_printExp 123 = .ok (.iaload, 1) := by decide +kernel
theorem dX13_printExp_124 : decode cX13_printExp 124 = .ok (.iconst 1, 1) := by decide +kernel
theorem dX13_printExp_125 : decode cX13_printExp 125 = .ok (.invokevirtual 774, 3) := by decide +kernel
theorem dX13_printExp_128 : decode cX13_printExp 128 = .ok (.goto 96, 3) := by decide +kernel
theorem dX13_printExp_131 : decode cX13_printExp 131 = .ok (.aload_n 0, 1) := by decide +kernel
theorem dX13_printExp_132 : decode cX13_printExp 132 = .ok (.getfield 23, 3) := by decide +kernel
theorem dX13_printExp_135 : decode cX13_printExp 135 = .ok (.iload_n 1, 1) := by decide +kernel
theorem dX13_printExp_136 : decode cX13_printExp 136 = .ok (.iaload, 1) := by decide +kernel
theorem dX13_printExp_137 : decode cX13_printExp 137 = .ok (.bipush 11, 2) := by decide +kernel
theorem dX13_printExp_139 : decode cX13_printExp 139 = .ok (.if_icmp .ne 24, 3) := by decide +kernel
theorem dX13_printExp_142 : decode cX13_printExp 142 = .ok (.aload_n 0, 1) := by decide +kernel
theorem dX13_printExp_143 : decode cX13_printExp 143 = .ok (.bipush 45, 2) := by decide +kernel
theorem dX13_printExp_145 : decode cX13_printExp 145 = .ok (.invokevirtual 763, 3) := by decide +kernel
theorem dX13_printExp_148 : decode cX13_printExp 148 = .ok (.aload_n 0, 1) := by decide +kernel
theorem dX13_printExp_149 : decode cX13_printExp 149 = .ok (.iconst 0, 1) := by decide +kernel
theorem dX13_printExp_150 : decode cX13_printExp 150 = .ok (.aload_n 0, 1) := by decide +kernel
theorem dX13_printExp_151 : decode cX13_printExp 151 = .ok (.getfield 27, 3) := by decide +kernel
theorem dX13_printExp_154 : decode cX13_printExp 154 = .ok (.iload_n 1, 1) := by decide +kernel
theorem dX13_printExp_155 : decode cX13_printExp 155 = .ok (.iaload, 1) := by decide +kernel
theorem dX13_printExp_156 : decode cX13_printExp 156 = .ok (.iconst 4, 1) := by decide +kernel
theorem dX13_printExp_157 : decode cX13_printExp 157 = .ok (.invokevirtual 774, 3) := by decide +kernel
theorem dX13_printExp_160 : decode cX13_printExp 160 = .ok (.goto 64, 3) := by decide +kernel
theorem dX13_printExp_163 : decode cX13_printExp 163 = .ok (.aload_n 0, 1) := by decide +kernel
theorem dX13_printExp_164 : decode cX13_printExp 164 = .ok (.getfield 23, 3) := by decide +kernel
theorem dX13_printExp_167 : decode cX13_printExp 167 = .ok (.iload_n 1, 1) := by decide +kernel
theorem dX13_printExp_168 : decode cX13_printExp 168 = .ok (.iaload, 1) := by decide +kernel
theorem dX13_printExp_169 : decode cX13_printExp 169 = .ok (.bipush 12, 2) := by decide +kernel
theorem dX13_printExp_171 : decode cX13_printExp 171 = .ok (.if_icmp .ne 48, 3) := by decide +kernel
theorem dX13_printExp_174 : decode cX13_printExp 174 = .ok (.aload_n 0, 1) := by decide +kernel
theorem dX13_printExp_175 : decode cX13_printExp 175 = .ok (.iconst 0, 1) := by decide +kernel
theorem dX13_printExp_176 : decode cX13_printExp 176 = .ok (.aload_n 0, 1) := by decide +kernel
theorem dX13_printExp_177 : decode cX13_printExp 177 = .ok (.getfield 33, 3) := by decide +kernel
theorem dX13_printExp_180 : decode cX13_printExp 180 = .ok (.iload_n 1, 1) := by decide +kernel
theorem dX13_printExp_181 : decode cX13_printExp 181 = .ok (.iaload, 1) := by decide +kernel
theorem dX13_printExp_182 : decode cX13_printExp 182 = .ok (.iload_n 3, 1) := by decide +kernel
theorem dX13_printExp_183 : decode cX13_printExp 183 = .ok (.iconst 1, 1) := by decide +kernel
theorem dX13_printExp_184 : decode cX13_printExp 184 = .ok (.iadd, 1) := by decide +kernel
theorem dX13_printExp_185 : decode cX13_printExp 185 = .ok (.invokevirtual 774, 3) := by decide +kernel
theorem dX13_printExp_188 : decode cX13_printExp 188 = .ok (.aload_n 0, 1) := by decide +kernel
theorem dX13_printExp_189 : decode cX13_printExp 189 = .ok (.iconst 5, 1) := by decide +kernel
theorem dX13_printExp_190 : decode cX13_printExp 190 = .ok (.iload_n 1, 1) := by decide +kernel
theorem dX13_printExp_191 : decode cX13_printExp 191 = .ok (.iconst 0, 1) := by decide +kernel
theorem dX13_printExp_192 : decode cX13_printExp 192 = .ok (.invokevirtual 774, 3) := by decide +kernel
theorem dX13_printExp_195 : decode cX13_printExp 195 = .ok (.aload_n 0, 1) := by decide +kernel
theorem dX13_printExp_196 : decode cX13_printExp 196 = .ok (.iconst 0, 1) := by decide +kernel
theorem dX13_printExp_197 : decode cX13_printExp 197 = .ok (.aload_n 0, 1) := by decide +kernel
theorem dX13_printExp_198 : decode cX13_printExp 198 = .ok (.getfield 30, 3) := by decide +kernel
theorem dX13_printExp_201 : decode cX13_printExp 201 = .ok (.iload_n 1, 1) := by decide +kernel
theorem dX13_printExp_202 : decode cX13_printExp 202 = .ok (.iaload, 1) := by decide +kernel
theorem dX13_printExp_203 : decode cX13_printExp 203 = .ok (.iload_n 3, 1) := by decide +kernel
theorem dX13_printExp_204 : decode cX13_printExp 204 = .ok (.iconst 1, 1) := by decide +kernel
theorem dX13_printExp_205 : decode cX13_printExp 205 = .ok (.if_icmp .ne 7, 3) := by decide +kernel
theorem dX13_printExp_208 : decode cX13_printExp 208 = .ok (.iconst 2, 1) := by decide +kernel
theorem dX13_printExp_209 : decode cX13_printExp 209 = .ok (.goto 4, 3) := by decide +kernel
theorem dX13_printExp_212 : decode cX13_printExp 212 = .ok (.iload_n 3, 1) := by decide +kernel
theorem dX13_printExp_213 : decode cX13_printExp 213 = .ok (.invokevirtual 774, 3) := by decide +kernel
theorem dX13_printExp_216 : decode cX13_printExp 216 = .ok (.goto 8, 3) := by decide +kernel
theorem dX13_printExp_219 : decode cX13_printExp 219 = .ok (.aload_n 0, 1) := by decide +kernel
theorem dX13_printExp_220 : decode cX13_printExp 220 = .ok (.iload_n 1, 1) := by decide +kernel
theorem dX13_printExp_221 : decode cX13_printExp 221 = .ok (.invokevirtual 785, 3) := by decide +kernel
theorem dX13_printExp_224 : decode cX13_printExp 224 = .ok (.return_, 1) := by decide +kernel
theorem dX13_printCall_0 : decode cX13_printCall 0 = .ok (.aload_n 0, 1) := by decide +kernel
theorem dX13_printCall_1 : decode cX13_printCall 1 = .ok (.getfield 27, 3) := by decide +kernel
theorem dX13_printCall_4 : decode cX13_printCall 4 = .ok (.iload_n 1, 1) := by decide +kernel
theorem dX13_printCall_5 : decode cX13_printCall 5 = .ok (.iaload, 1) := by decide +kernel
theorem dX13_printCall_6 : decode cX13_printCall 6 = .ok (.bipush 100, 2) := by decide +kernel
theorem dX13_printCall_8 : decode cX13_printCall 8 = .ok (.if_icmp .lt 19, 3) := by decide +kernel
theorem dX13_printCall_11 : decode cX13_printCall 11 = .ok (.aload_n 0, 1) := by decide +kernel
theorem dX13_printCall_12 : decode cX13_printCall 12 = .ok (.aload_n 0, 1) := by decide +kernel
theorem dX13_printCall_13 : decode cX13_printCall 13 = .ok (.getfield 27, 3) := by decide +kernel
theorem dX13_printCall_16 : decode cX13_printCall 16 = .ok (.iload_n 1, 1) := by decide +kernel
theorem dX13_printCall_17 : decode cX13_printCall 17 = .ok (.iaload, 1) := by decide +kernel
theorem dX13_printCall_18 : decode cX13_printCall 18 = .ok (.bipush 100, 2) := by decide +kernel
theorem dX13_printCall_20 : decode cX13_printCall 20 = .ok (.isub, 1) := by decide +kernel
theorem dX13_printCall_21 : decode cX13_printCall 21 = .ok (.invokevirtual 788, 3) := by decide +kernel
theorem dX13_printCall_24 : decode cX13_printCall 24 = .ok (.goto 17, 3) := by decide +kernel
theorem dX13_printCall_27 : decode cX13_printCall 27 = .ok (.aload_n 0, 1) := by decide +kernel
theorem dX13_printCall_28 : decode cX13_printCall 28 = .ok (.aload_n 0, 1) := by decide +kernel
theorem dX13_printCall_29 : decode cX13_printCall 29 = .ok (.getfield 17, 3) := by decide +kernel
theorem dX13_printCall_32 : decode cX13_printCall 32 = .ok (.aload_n 0, 1) := by decide +kernel
theorem dX13_printCall_33 : decode cX13_printCall 33 = .ok (.getfield 27, 3) := by decide +kernel
theorem dX13_printCall_36 : decode cX13_printCall 36 = .ok (.iload_n 1, 1) := by decide +kernel
theorem dX13_printCall_37 : decode cX13_printCall 37 = .ok (.iaload, 1) := by decide +kernel
theorem dX13_printCall_38 : decode cX13_printCall 38 = .ok (.invokevirtual 791, 3) := by decide +kernel
theorem dX13_printCall_41 : decode cX13_printCall 41 = .ok (.aload_n 0, 1) := by decide +kernel
theorem dX13_printCall_42 : decode cX13_printCall 42 = .ok (.bipush 40, 2) := by decide +kernel
theorem dX13_printCall_44 : decode cX13_printCall 44 = .ok (.invokevirtual 763, 3) := by decide +kernel
theorem dX13_printCall_47 : decode cX13_printCall 47 = .ok (.aload_n 0, 1) := by decide +kernel
theorem dX13_printCall_48 : decode cX13_printCall 48 = .ok (.iconst 4, 1) := by decide +kernel
theorem dX13_printCall_49 : decode cX13_printCall 49 = .ok (.bipush 41, 2) := by decide +kernel
theorem dX13_printCall_51 : decode cX13_printCall 51 = .ok (.iconst 0, 1) := by decide +kernel
theorem dX13_printCall_52 : decode cX13_printCall 52 = .ok (.invokevirtual 774, 3) := by decide +kernel
theorem dX13_printCall_55 : decode cX13_printCall 55 = .ok (.iconst 3, 1) := by decide +kernel
theorem dX13_printCall_56 : decode cX13_printCall 56 = .ok (.istore_n 2, 1) := by decide +kernel
theorem dX13_printCall_57 : decode cX13_printCall 57 = .ok (.iload_n 2, 1) := by decide +kernel
theorem dX13_printCall_58 : decode cX13_printCall 58 = .ok (.ifCond .lt 42, 3) := by decide +kernel
theorem dX13_printCall_61 : decode cX13_printCall 61 = .ok (.aload_n 0, 1) := by decide +kernel
theorem dX13_printCall_62 : decode cX13_printCall 62 = .ok (.iload_n 1, 1) := by decide +kernel
theorem dX13_printCall_63 : decode cX13_printCall 63 = .ok (.iload_n 2, 1) := by decide +kernel
theorem dX13_printCall_64 : decode cX13_printCall 64 = .ok (.invokevirtual 618, 3) := by decide +kernel
theorem dX13_printCall_67 : decode cX13_printCall 67 = .ok (.ifCond .lt 27, 3) := by decide +kernel
theorem dX13_printCall_70 : decode cX13_printCall 70 = .ok (.aload_n 0, 1) := by decide +kernel
theorem dX13_printCall_71 : decode cX13_printCall 71 = .ok (.iconst 0, 1) := by decide +kernel
theorem dX13_printCall_72 : decode cX13_printCall 72 = .ok (.aload_n 0, 1) := by decide +kernel
theorem dX13_printCall_73 : decode cX13_printCall 73 = .ok (.iload_n 1, 1) := by decide +kernel
theorem dX13_printCall_74 : decode cX13_printCall 74 = .ok (.iload_n 2, 1) := by decide +kernel
theorem dX13_printCall_75 : decode cX13_printCall 75 = .ok (.invokevirtual 618, 3) := by decide +kernel
theorem dX13_printCall_78 : decode cX13_printCall 78 = .ok (.iconst 1, 1) := by decide +kernel
theorem dX13_printCall_79 : decode cX13_printCall 79 = .ok (.invokevirtual 774, 3) := by decide +kernel
theorem dX13_printCall_82 : decode cX13_printCall 82 = .ok (.iload_n 2, 1) := by decide +kernel
theorem dX13_printCall_83 : decode cX13_printCall 83 = .ok (.ifCond .le 11, 3) := by decide +kernel
theorem dX13_printCall_86 : decode cX13_printCall 86 = .ok (.aload_n 0, 1) := by decide +kernel
theorem dX13_printCall_87 : decode cX13_printCall 87 = .ok (.bipush 6, 2) := by decide +kernel
theorem dX13_printCall_89 : decode cX13_printCall 89 = .ok (.iconst 0, 1) := by decide +kernel
theorem dX13_printCall_90 : decode cX13_printCall 90 = .ok (.iconst 0, 1) := by decide +kernel
theorem dX13_printCall_91 : decode cX13_printCall 91 = .ok (.invokevirtual 774, 3) := by decide +kernel
theorem dX13_printCall_94 : decode cX13_printCall 94 = .ok (.iinc 2 (-1), 3) := by decide +kernel
theorem dX13_printCall_97 : decode cX13_printCall 97 = .ok (.goto (-40), 3) := by decide +kernel
theorem dX13_printCall_100 : decode cX13_printCall 100 = .ok (.return_, 1) := by decide +kernel
theorem dX13_indent_0 : decode cX13_indent 0 = .ok (.iconst 0, 1) := by decide +kernel
theorem dX13_indent_1 : decode cX13_indent 1 = .ok (.istore_n 2, 1) := by decide +kernel
theorem dX13_indent_2 : decode cX13_indent 2 = .ok (.iload_n 2, 1) := by decide +kernel
theorem dX13_indent_3 : decode cX13_indent 3 = .ok (.iconst 2, 1) := by decide +kernel
theorem dX13_indent_4 : decode cX13_indent 4 = .ok (.iload_n 1, 1) := by decide +kernel
theorem dX13_indent_5 : decode cX13_indent 5 = .ok (.imul, 1) := by decide +kernel
theorem dX13_indent_6 : decode cX13_indent 6 = .ok (.if_icmp .ge 15, 3) := by decide +kernel
theorem dX13_indent_9 : decode cX13_indent 9 = .ok (.aload_n 0, 1) := by decide +kernel
theorem dX13_indent_10 : decode cX13_indent 10 = .ok (.bipush 32, 2) := by decide +kernel
theorem dX13_indent_12 : decode cX13_indent 12 = .ok (.invokevirtual 763, 3) := by decide +kernel
theorem dX13_indent_15 : decode cX13_indent 15 = .ok (.iinc 2 1, 3) := by decide +kernel
theorem dX13_indent_18 : decode cX13_indent 18 = .ok (.goto (-16), 3) := by decide +kernel
theorem dX13_indent_21 : decode cX13_indent 21 = .ok (.return_, 1) := by decide +kernel
theorem dX13_printDeeds_0 : decode cX13_printDeeds 0 = .ok (.iload_n 1, 1) := by decide +kernel
theorem dX13_printDeeds_1 : decode cX13_printDeeds 1 = .ok (.ifCond .ge 4, 3) := by decide +kernel
theorem dX13_printDeeds_4 : decode cX13_printDeeds 4 = .ok (.return_, 1) := by decide +kernel
theorem dX13_printDeeds_5 : decode cX13_printDeeds 5 = .ok (.aload_n 0, 1) := by decide +kernel
theorem dX13_printDeeds_6 : decode cX13_printDeeds 6 = .ok (.iconst 1, 1) := by decide +kernel
theorem dX13_printDeeds_7 : decode cX13_printDeeds 7 = .ok (.aload_n 0, 1) := by decide +kernel
theorem dX13_printDeeds_8 : decode cX13_printDeeds 8 = .ok (.getfield 39, 3) := by decide +kernel
theorem dX13_printDeeds_11 : decode cX13_printDeeds 11 = .ok (.iload_n 1, 1) := by decide +kernel
theorem dX13_printDeeds_12 : decode cX13_printDeeds 12 = .ok (.iaload, 1) := by decide +kernel
theorem dX13_printDeeds_13 : decode cX13_printDeeds 13 = .ok (.iload_n 2, 1) := by decide +kernel
theorem dX13_printDeeds_14 : decode cX13_printDeeds 14 = .ok (.invokevirtual 774, 3) := by decide +kernel
theorem dX13_printDeeds_17 : decode cX13_printDeeds 17 = .ok (.aload_n 0, 1) := by decide +kernel
theorem dX13_printDeeds_18 : decode cX13_printDeeds 18 = .ok (.iload_n 2, 1) := by decide +kernel
theorem dX13_printDeeds_19 : decode cX13_printDeeds 19 = .ok (.invokevirtual 795, 3) := by decide +kernel
theorem dX13_printDeeds_22 : decode cX13_printDeeds 22 = .ok (.aload_n 0, 1) := by decide +kernel
theorem dX13_printDeeds_23 : decode cX13_printDeeds 23 = .ok (.getfield 23, 3) := by decide +kernel
theorem dX13_printDeeds_26 : decode cX13_printDeeds 26 = .ok (.iload_n 1, 1) := by decide +kernel
theorem dX13_printDeeds_27 : decode cX13_printDeeds 27 = .ok (.iaload, 1) := by decide +kernel
theorem dX13_printDeeds_28 : decode cX13_printDeeds 28 = .ok (.ifCond .eq 13, 3) := by decide +kernel
theorem dX13_printDeeds_31 : decode cX13_printDeeds 31 = .ok (.aload_n 0, 1) := by decide +kernel
theorem dX13_printDeeds_32 : decode cX13_printDeeds 32 = .ok (.getfield 23, 3) := by decide +kernel
theorem dX13_printDeeds_35 : decode cX13_printDeeds 35 = .ok (.iload_n 1, 1) := by decide +kernel
theorem dX13_printDeeds_36 : decode cX13_printDeeds 36 = .ok (.iaload, 1) := by decide +kernel
theorem dX13_printDeeds_37 : decode cX13_printDeeds 37 = .ok (.iconst 1, 1) := by decide +kernel
theorem dX13_printDeeds_38 : decode cX13_printDeeds 38 = .ok (.if_icmp .ne 82, 3) := by decide +kernel
theorem dX13_printDeeds_41 : decode cX13_printDeeds 41 = .ok (.aload_n 0, 1) := by decide +kernel
theorem dX13_printDeeds_42 : decode cX13_printDeeds 42 = .ok (.aload_n 0, 1) := by decide +kernel
theorem dX13_printDeeds_43 : decode cX13_printDeeds 43 = .ok (.getfield 779, 3) := by decide +kernel
theorem dX13_printDeeds_46 : decode cX13_printDeeds 46 = .ok (.aload_n 0, 1) := by decide +kernel
theorem dX13_printDeeds_47 : decode cX13_printDeeds 47 = .ok (.getfield 27, 3) := by decide +kernel
theorem dX13_printDeeds_50 : decode cX13_printDeeds 50 = .ok (.iload_n 1, 1) := by decide +kernel
theorem dX13_printDeeds_51 : decode cX13_printDeeds 51 = .ok (.iaload, 1) := by decide +kernel
theorem dX13_printDeeds_52 : decode cX13_printDeeds 52 = .ok (.invokevirtual 782, 3) := by decide +kernel
theorem dX13_printDeeds_55 : decode cX13_printDeeds 55 = .ok (.aload_n 0, 1) := by decide +kernel
theorem dX13_printDeeds_56 : decode cX13_printDeeds 56 = .ok (.bipush 8, 2) := by decide +kernel
theorem dX13_printDeeds_58 : decode cX13_printDeeds 58 = .ok (.iconst 0, 1) := by decide +kernel
theorem dX13_printDeeds_59 : decode cX13_printDeeds 59 = .ok (.iconst 0, 1) := by decide +kernel
theorem dX13_printDeeds_60 : decode cX13_printDeeds 60 = .ok (.invokevirtual 774, 3) := by decide +kernel
theorem dX13_printDeeds_63 : decode cX13_printDeeds 63 = .ok (.aload_n 0, 1) := by decide +kernel
theorem dX13_printDeeds_64 : decode cX13_printDeeds 64 = .ok (.iconst 0, 1) := by decide +kernel
theorem dX13_printDeeds_65 : decode cX13_printDeeds 65 = .ok (.aload_n 0, 1) := by decide +kernel
theorem dX13_printDeeds_66 : decode cX13_printDeeds 66 = .ok (.getfield 33, 3) := by decide +kernel
theorem dX13_printDeeds_69 : decode cX13_printDeeds 69 = .ok (.iload_n 1, 1) := by decide +kernel
theorem dX13_printDeeds_70 : decode cX13_printDeeds 70 = .ok (.iaload, 1) := by decide +kernel
theorem dX13_printDeeds_71 : decode cX13_printDeeds 71 = .ok (.iconst 1, 1) := by decide +kernel
theorem dX13_printDeeds_72 : decode cX13_printDeeds 72 = .ok (.invokevirtual 774, 3) := by decide +kernel
theorem dX13_printDeeds_75 : decode cX13_printDeeds 75 = .ok (.aload_n 0, 1) := by decide +kernel
theorem dX13_printDeeds_76 : decode cX13_printDeeds 76 = .ok (.bipush 9, 2) := by decide +kernel
theorem dX13_printDeeds_78 : decode cX13_printDeeds 78 = .ok (.iconst 0, 1) := by decide +kernel
theorem dX13_printDeeds_79 : decode cX13_printDeeds 79 = .ok (.iconst 0, 1) := by decide +kernel
theorem dX13_printDeeds_80 : decode cX13_printDeeds 80 = .ok (.invokevirtual 774, 3) := by decide +kernel
theorem dX13_printDeeds_83 : decode cX13_printDeeds 83 = .ok (.aload_n 0, 1) := by decide +kernel
theorem dX13_printDeeds_84 : decode cX13_printDeeds 84 = .ok (.getfield 23, 3) := by decide +kernel
theorem dX13_printDeeds_87 : decode cX13_printDeeds 87 = .ok (.iload_n 1, 1) := by decide +kernel
theorem dX13_printDeeds_88 : decode cX13_printDeeds 88 = .ok (.iaload, 1) := by decide +kernel
theorem dX13_printDeeds_89 : decode cX13_printDeeds 89 = .ok (.iconst 1, 1) := by decide +kernel
theorem dX13_printDeeds_90 : decode cX13_printDeeds 90 = .ok (.if_icmp .ne 29, 3) := by decide +kernel
theorem dX13_printDeeds_93 : decode cX13_printDeeds 93 = .ok (.aload_n 0, 1) := by decide +kernel
theorem dX13_printDeeds_94 : decode cX13_printDeeds 94 = .ok (.bipush 91, 2) := by decide +kernel
theorem dX13_printDeeds_96 : decode cX13_printDeeds 96 = .ok (.invokevirtual 763, 3) := by decide +kernel
theorem dX13_printDeeds_99 : decode cX13_printDeeds 99 = .ok (.aload_n 0, 1) := by decide +kernel
theorem dX13_printDeeds_100 : decode cX13_printDeeds 100 = .ok (.iconst 4, 1) := by decide +kernel
theorem dX13_printDeeds_101 : decode cX13_printDeeds 101 = .ok (.bipush 93, 2) := by decide +kernel
theorem dX13_printDeeds_103 : decode cX13_printDeeds 103 = .ok (.iconst 0, 1) := by decide +kernel
theorem dX13_printDeeds_104 : decode cX13_printDeeds 104 = .ok (.invokevirtual 774, 3) := by decide +kernel
theorem dX13_printDeeds_107 : decode cX13_printDeeds 107 = .ok (.aload_n 0, 1) := by decide +kernel
theorem dX13_printDeeds_108 : decode cX13_printDeeds 108 = .ok (.iconst 0, 1) := by decide +kernel
theorem dX13_printDeeds_109 : decode cX13_printDeeds 109 = .ok (.aload_n 0, 1) := by decide +kernel
theorem dX13_printDeeds_110 : decode cX13_printDeeds 110 = .ok (.getfield 30, 3) := by decide +kernel
theorem dX13_printDeeds_113 : decode cX13_printDeeds 113 = .ok (.iload_n 1, 1) := by decide +kernel
theorem dX13_printDeeds_114 : decode cX13_printDeeds 114 = .ok (.iaload, 1) := by decide +kernel
theorem dX13_printDeeds_115 : decode cX13_printDeeds 115 = .ok (.iconst 1, 1) := by decide +kernel
theorem dX13_printDeeds_116 : decode cX13_printDeeds 116 = .ok (.invokevirtual 774, 3) := by decide +kernel
theorem dX13_printDeeds_119 : decode cX13_printDeeds 119 = .ok (.return_, 1) := by decide +kernel
theorem dX13_printDeeds_120 : decode cX13_printDeeds 120 = .ok (.aload_n 0, 1) := by decide +kernel
theorem dX13_printDeeds_121 : decode cX13_printDeeds 121 = .ok (.aload_n 0, 1) := by decide +kernel
theorem dX13_printDeeds_122 : decode cX13_printDeeds 122 = .ok (.getfield 13, 3) := by decide +kernel
theorem dX13_printDeeds_125 : decode cX13_printDeeds 125 = .ok (.aload_n 0, 1) := by decide +kernel
theorem dX13_printDeeds_126 : decode cX13_printDeeds 126 = .ok (.getfield 23, 3) := by decide +kernel
theorem dX13_printDeeds_129 : decode cX13_printDeeds 129 = .ok (.iload_n 1, 1) := by decide +kernel
theorem dX13_printDeeds_130 : decode cX13_printDeeds 130 = .ok (.iaload, 1) := by decide +kernel
theorem dX13_printDeeds_131 : decode cX13_printDeeds 131 = .ok (.iconst 2, 1) := by decide +kernel
theorem dX13_printDeeds_132 : decode cX13_printDeeds 132 = .ok (.if_icmp .ne 7, 3) := by decide +kernel
theorem dX13_printDeeds_135 : decode cX13_printDeeds 135 = .ok (.iconst 1, 1) := by decide +kernel
theorem dX13_printDeeds_136 : decode cX13_printDeeds 136 = .ok (.goto 9, 3) := by decide +kernel
theorem dX13_printDeeds_139 : decode cX13_printDeeds 139 = .ok (.aload_n 0, 1) := by decide +kernel
theorem dX13_printDeeds_140 : decode cX13_printDeeds 140 = .ok (.getfield 23, 3) := by decide +kernel
theorem dX13_printDeeds_143 : decode cX13_printDeeds 143 = .ok (.iload_n 1, 1) := by decide +kernel
theorem dX13_printDeeds_144 : decode cX13_printDeeds 144 = .ok (.iaload, 1) := by decide +kernel
theorem dX13_printDeeds_145 : decode cX13_printDeeds 145 = .ok (.invokevirtual 791, 3) := by decide +kernel
theorem dX13_printDeeds_148 : decode cX13_printDeeds 148 = .ok (.aload_n 0, 1) := by decide +kernel
theorem dX13_printDeeds_149 : decode cX13_printDeeds 149 = .ok (.bipush 32, 2) := by decide +kernel
theorem dX13_printDeeds_151 : decode cX13_printDeeds 151 = .ok (.invokevirtual 763, 3) := by decide +kernel
theorem dX13_printDeeds_154 : decode cX13_printDeeds 154 = .ok (.aload_n 0, 1) := by decide +kernel
theorem dX13_printDeeds_155 : decode cX13_printDeeds 155 = .ok (.getfield 23, 3) := by decide +kernel
theorem dX13_printDeeds_158 : decode cX13_printDeeds 158 = .ok (.iload_n 1, 1) := by decide +kernel
theorem dX13_printDeeds_159 : decode cX13_printDeeds 159 = .ok (.iaload, 1) := by decide +kernel
theorem dX13_printDeeds_160 : decode cX13_printDeeds 160 = .ok (.iconst 2, 1) := by decide +kernel
theorem dX13_printDeeds_161 : decode cX13_printDeeds 161 = .ok (.if_icmp .eq 13, 3) := by decide +kernel
theorem dX13_printDeeds_164 : decode cX13_printDeeds 164 = .ok (.aload_n 0, 1) := by decide +kernel
theorem dX13_printDeeds_165 : decode cX13_printDeeds 165 = .ok (.getfield 23, 3) := by decide +kernel
theorem dX13_printDeeds_168 : decode cX13_printDeeds 168 = .ok (.iload_n 1, 1) := by decide +kernel
theorem dX13_printDeeds_169 : decode cX13_printDeeds 169 = .ok (.iaload, 1) := by decide +kernel
theorem dX13_printDeeds_170 : decode cX13_printDeeds 170 = .ok (.iconst 3, 1) := by decide +kernel
theorem dX13_printDeeds_171 : decode cX13_printDeeds 171 = .ok (.if_icmp .ne 35, 3) := by decide +kernel
theorem dX13_printDeeds_174 : decode cX13_printDeeds 174 = .ok (.aload_n 0, 1) := by decide +kernel
theorem dX13_printDeeds_175 : decode cX13_printDeeds 175 = .ok (.iconst 2, 1) := by decide +kernel
theorem dX13_printDeeds_176 : decode cX13_printDeeds 176 = .ok (.iload_n 1, 1) := by decide +kernel
theorem dX13_printDeeds_177 : decode cX13_printDeeds 177 = .ok (.iload_n 2, 1) := by decide +kernel
theorem dX13_printDeeds_178 : decode cX13_printDeeds 178 = .ok (.invokevirtual 774, 3) := by decide +kernel
theorem dX13_printDeeds_181 : decode cX13_printDeeds 181 = .ok (.aload_n 0, 1) := by decide +kernel
theorem dX13_printDeeds_182 : decode cX13_printDeeds 182 = .ok (.iconst 1, 1) := by decide +kernel
theorem dX13_printDeeds_183 : decode cX13_printDeeds 183 = .ok (.aload_n 0, 1) := by decide +kernel
theorem dX13_printDeeds_184 : decode cX13_printDeeds 184 = .ok (.getfield 30, 3) := by decide +kernel
theorem dX13_printDeeds_187 : decode cX13_printDeeds 187 = .ok (.iload_n 1, 1) := by decide +kernel
theorem dX13_printDeeds_188 : decode cX13_printDeeds 188 = .ok (.iaload, 1) := by decide +kernel
theorem dX13_printDeeds_189 : decode cX13_printDeeds 189 = .ok (.iload_n 2, 1) := by decide +kernel
theorem dX13_printDeeds_190 : decode cX13_printDeeds 190 = .ok (.iconst 1, 1) := by decide +kernel
theorem dX13_printDeeds_191 : decode cX13_printDeeds 191 = .ok (.iadd, 1) := by decide +kernel
theorem dX13_printDeeds_192 : decode cX13_printDeeds 192 = .ok (.invokevirtual 774, 3) := by decide +kernel
theorem dX13_printDeeds_195 : decode cX13_printDeeds 195 = .ok (.aload_n 0, 1) := by decide +kernel
theorem dX13_printDeeds_196 : decode cX13_printDeeds 196 = .ok (.bipush 7, 2) := by decide +kernel
theorem dX13_printDeeds_198 : decode cX13_printDeeds 198 = .ok (.iconst 0, 1) := by decide +kernel
theorem dX13_printDeeds_199 : decode cX13_printDeeds 199 = .ok (.iconst 0, 1) := by decide +kernel
theorem dX13_printDeeds_200 : decode cX13_printDeeds 200 = .ok (.invokevirtual 774, 3) := by decide +kernel
theorem dX13_printDeeds_203 : decode cX13_printDeeds 203 = .ok (.goto 11, 3) := by decide +kernel
theorem dX13_printDeeds_206 : decode cX13_printDeeds 206 = .ok (.aload_n 0, 1) := by decide +kernel
theorem dX13_printDeeds_207 : decode cX13_printDeeds 207 = .ok (.bipush 8, 2) := by decide +kernel
theorem dX13_printDeeds_209 : decode cX13_printDeeds 209 = .ok (.iconst 0, 1) := by decide +kernel
theorem dX13_printDeeds_210 : decode cX13_printDeeds 210 = .ok (.iconst 0, 1) := by decide +kernel
theorem dX13_printDeeds_211 : decode cX13_printDeeds 211 = .ok (.invokevirtual 774, 3) := by decide +kernel
theorem dX13_printDeeds_214 : decode cX13_printDeeds 214 = .ok (.aload_n 0, 1) := by decide +kernel
theorem dX13_printDeeds_215 : decode cX13_printDeeds 215 = .ok (.iconst 0, 1) := by decide +kernel
theorem dX13_printDeeds_216 : decode cX13_printDeeds 216 = .ok (.aload_n 0, 1) := by decide +kernel
theorem dX13_printDeeds_217 : decode cX13_printDeeds 217 = .ok (.getfield 27, 3) := by decide +kernel
theorem dX13_printDeeds_220 : decode cX13_printDeeds 220 = .ok (.iload_n 1, 1) := by decide +kernel
theorem dX13_printDeeds_221 : decode cX13_printDeeds 221 = .ok (.iaload, 1) := by decide +kernel
theorem dX13_printDeeds_222 : decode cX13_printDeeds 222 = .ok (.iconst 1, 1) := by decide +kernel
theorem dX13_printDeeds_223 : decode cX13_printDeeds 223 = .ok (.invokevirtual 774, 3) := by decide +kernel
theorem dX13_printDeeds_226 : decode cX13_printDeeds 226 = .ok (.return_, 1) := by decide +kernel
theorem dX13_printBehind_0 : decode cX13_printBehind 0 = .ok (.aload_n 0, 1) := by decide +kernel
theorem dX13_printBehind_1 : decode cX13_printBehind 1 = .ok (.iload_n 2, 1) := by decide +kernel
theorem dX13_printBehind_2 : decode cX13_printBehind 2 = .ok (.invokevirtual 795, 3) := by decide +kernel
theorem dX13_printBehind_5 : decode cX13_printBehind 5 = .ok (.aload_n 0, 1) := by decide +kernel
theorem dX13_printBehind_6 : decode cX13_printBehind 6 = .ok (.bipush 125, 2) := by decide +kernel
theorem dX13_printBehind_8 : decode cX13_printBehind 8 = .ok (.invokevirtual 763, 3) := by decide +kernel
theorem dX13_printBehind_11 : decode cX13_printBehind 11 = .ok (.aload_n 0, 1) := by decide +kernel
theorem dX13_printBehind_12 : decode cX13_printBehind 12 = .ok (.getfield 23, 3) := by decide +kernel
theorem dX13_printBehind_15 : decode cX13_printBehind 15 = .ok (.iload_n 1, 1) := by decide +kernel
theorem dX13_printBehind_16 : decode cX13_printBehind 16 = .ok (.iaload, 1) := by decide +kernel
theorem dX13_printBehind_17 : decode cX13_printBehind 17 = .ok (.iconst 2, 1) := by decide +kernel
theorem dX13_printBehind_18 : decode cX13_printBehind 18 = .ok (.if_icmp .ne 61, 3) := by decide +kernel
theorem dX13_printBehind_21 : decode cX13_printBehind 21 = .ok (.aload_n 0, 1) := by decide +kernel
theorem dX13_printBehind_22 : decode cX13_printBehind 22 = .ok (.getfield 42, 3) := by decide +kernel
theorem dX13_printBehind_25 : decode cX13_printBehind 25 = .ok (.iload_n 1, 1) := by decide +kernel
theorem dX13_printBehind_26 : decode cX13_printBehind 26 = .ok (.laload, 1) := by decide +kernel
theorem dX13_printBehind_27 : decode cX13_printBehind 27 = .ok (.lconst 1, 1) := by decide +kernel
theorem dX13_printBehind_28 : decode cX13_printBehind 28 = .ok (.lcmp, 1) := by decide +kernel
theorem dX13_printBehind_29 : decode cX13_printBehind 29 = .ok (.ifCond .ne 50, 3) := by decide +kernel
theorem dX13_printBehind_32 : decode cX13_printBehind 32 = .ok (.aload_n 0, 1) := by decide +kernel
theorem dX13_printBehind_33 : decode cX13_printBehind 33 = .ok (.bipush 32, 2) := by decide +kernel
theorem dX13_printBehind_35 : decode cX13_printBehind 35 = .ok (.invokevirtual 763, 3) := by decide +kernel
theorem dX13_printBehind_38 : decode cX13_printBehind 38 = .ok (.aload_n 0, 1) := by decide +kernel
theorem dX13_printBehind_39 : decode cX13_printBehind 39 = .ok (.aload_n 0, 1) := by decide +kernel
theorem dX13_printBehind_40 : decode cX13_printBehind 40 = .ok (.getfield 13, 3) := by decide +kernel
theorem dX13_printBehind_43 : decode cX13_printBehind 43 = .ok (.iconst 2, 1) := by decide +kernel
theorem dX13_printBehind_44 : decode cX13_printBehind 44 = .ok (.invokevirtual 791, 3) := by decide +kernel
theorem dX13_printBehind_47 : decode cX13_printBehind 47 = .ok (.aload_n 0, 1) := by decide +kernel
theorem dX13_printBehind_48 : decode cX13_printBehind 48 = .ok (.iconst 3, 1) := by decide +kernel
theorem dX13_printBehind_49 : decode cX13_printBehind 49 = .ok (.iload_n 1, 1) := by decide +kernel
theorem dX13_printBehind_50 : decode cX13_printBehind 50 = .ok (.iload_n 2, 1) := by decide +kernel
theorem dX13_printBehind_51 : decode cX13_printBehind 51 = .ok (.invokevirtual 774, 3) := by decide +kernel
theorem dX13_printBehind_54 : decode cX13_printBehind 54 = .ok (.aload_n 0, 1) := by decide +kernel
theorem dX13_printBehind_55 : decode cX13_printBehind 55 = .ok (.iconst 1, 1) := by decide +kernel
theorem dX13_printBehind_56 : decode cX13_printBehind 56 = .ok (.aload_n 0, 1) := by decide +kernel
theorem dX13_printBehind_57 : decode cX13_printBehind 57 = .ok (.getfield 33, 3) := by decide +kernel
theorem dX13_printBehind_60 : decode cX13_printBehind 60 = .ok (.iload_n 1, 1) := by decide +kernel
theorem dX13_printBehind_61 : decode cX13_printBehind 61 = .ok (.iaload, 1) := by decide +kernel
theorem dX13_printBehind_62 : decode cX13_printBehind 62 = .ok (.iload_n 2, 1) := by decide +kernel
theorem dX13_printBehind_63 : decode cX13_printBehind 63 = .ok (.iconst 1, 1) := by decide +kernel
theorem dX13_printBehind_64 : decode cX13_printBehind 64 = .ok (.iadd, 1) := by decide +kernel
theorem dX13_printBehind_65 : decode cX13_printBehind 65 = .ok (.invokevirtual 774, 3) := by decide +kernel
theorem dX13_printBehind_68 : decode cX13_printBehind 68 = .ok (.aload_n 0, 1) := by decide +kernel
theorem dX13_printBehind_69 : decode cX13_printBehind 69 = .ok (.bipush 7, 2) := by decide +kernel
theorem dX13_printBehind_71 : decode cX13_printBehind 71 = .ok (.iconst 1, 1) := by decide +kernel
theorem dX13_printBehind_72 : decode cX13_printBehind 72 = .ok (.iconst 0, 1) := by decide +kernel
theorem dX13_printBehind_73 : decode cX13_printBehind 73 = .ok (.invokevirtual 774, 3) := by decide +kernel
theorem dX13_printBehind_76 : decode cX13_printBehind 76 = .ok (.goto 9, 3) := by decide +kernel
theorem dX13_printBehind_79 : decode cX13_printBehind 79 = .ok (.aload_n 0, 1) := by decide +kernel
theorem dX13_printBehind_80 : decode cX13_printBehind 80 = .ok (.bipush 10, 2) := by decide +kernel
theorem dX13_printBehind_82 : decode cX13_printBehind 82 = .ok (.invokevirtual 763, 3) := by decide +kernel
theorem dX13_printBehind_85 : decode cX13_printBehind 85 = .ok (.return_, 1) := by decide +kernel
theorem dX13_printAll_0 : decode cX13_printAll 0 = .ok (.aload_n 0, 1) := by decide +kernel
theorem dX13_printAll_1 : decode cX13_printAll 1 = .ok (.iload_n 2, 1) := by decide +kernel
theorem dX13_printAll_2 : decode cX13_printAll 2 = .ok (.putfield 779, 3) := by decide +kernel
theorem dX13_printAll_5 : decode cX13_printAll 5 = .ok (.aload_n 0, 1) := by decide +kernel
theorem dX13_printAll_6 : decode cX13_printAll 6 = .ok (.iconst 0, 1) := by decide +kernel
theorem dX13_printAll_7 : decode cX13_printAll 7 = .ok (.putfield 768, 3) := by decide +kernel
theorem dX13_printAll_10 : decode cX13_printAll 10 = .ok (.aload_n 0, 1) := by decide +kernel
theorem dX13_printAll_11 : decode cX13_printAll 11 = .ok (.iconst 1, 1) := by decide +kernel
theorem dX13_printAll_12 : decode cX13_printAll 12 = .ok (.iload_n 1, 1) := by decide +kernel
theorem dX13_printAll_13 : decode cX13_printAll 13 = .ok (.iload_n 3, 1) := by decide +kernel
theorem dX13_printAll_14 : decode cX13_printAll 14 = .ok (.invokevirtual 774, 3) := by decide +kernel
theorem dX13_printAll_17 : decode cX13_printAll 17 = .ok (.aload_n 0, 1) := by decide +kernel
theorem dX13_printAll_18 : decode cX13_printAll 18 = .ok (.getfield 768, 3) := by decide +kernel
theorem dX13_printAll_21 : decode cX13_printAll 21 = .ok (.ifCond .le 256, 3) := by decide +kernel
theorem dX13_printAll_24 : decode cX13_printAll 24 = .ok (.aload_n 0, 1) := by decide +kernel
theorem dX13_printAll_25 : decode cX13_printAll 25 = .ok (.dup, 1) := by decide +kernel
theorem dX13_printAll_26 : decode cX13_printAll 26 = .ok (.getfield 768, 3) := by decide +kernel
theorem dX13_printAll_29 : decode cX13_printAll 29 = .ok (.iconst 1, 1) := by decide +kernel
theorem dX13_printAll_30 : decode cX13_printAll 30 = .ok (.isub, 1) := by decide +kernel
theorem dX13_printAll_31 : decode cX13_printAll 31 = .ok (.putfield 768, 3) := by decide +kernel
theorem dX13_printAll_34 : decode cX13_printAll 34 = .ok (.aload_n 0, 1) := by decide +kernel
theorem dX13_printAll_35 : decode cX13_printAll 35 = .ok (.getfield 169, 3) := by decide +kernel
theorem dX13_printAll_38 : decode cX13_printAll 38 = .ok (.aload_n 0, 1) := by decide +kernel
theorem dX13_printAll_39 : decode cX13_printAll 39 = .ok (.getfield 768, 3) := by decide +kernel
theorem dX13_printAll_42 : decode cX13_printAll 42 = .ok (.iaload, 1) := by decide +kernel
theorem dX13_printAll_43 : decode cX13_printAll 43 = .ok (.istore 4, 2) := by decide +kernel
theorem dX13_printAll_45 : decode cX13_printAll 45 = .ok (.aload_n 0, 1) := by decide +kernel
theorem dX13_printAll_46 : decode cX13_printAll 46 = .ok (.getfield 172, 3) := by decide +kernel
theorem dX13_printAll_49 : decode cX13_printAll 49 = .ok (.aload_n 0, 1) := by decide +kernel
theorem dX13_printAll_50 : decode cX13_printAll 50 = .ok (.getfield 768, 3) := by decide +kernel
theorem dX13_printAll_53 : decode cX13_printAll 53 = .ok (.iaload, 1) := by decide +kernel
theorem dX13_printAll_54 : decode cX13_printAll 54 = .ok (.istore 5, 2) := by decide +kernel
theorem dX13_printAll_56 : decode cX13_printAll 56 = .ok (.aload_n 0, 1) := by decide +kernel
theorem dX13_printAll_57 : decode cX13_printAll 57 = .ok (.getfield 166, 3) := by decide +kernel
theorem dX13_printAll_60 : decode cX13_printAll 60 = .ok (.aload_n 0, 1) := by decide +kernel
theorem dX13_printAll_61 : decode cX13_printAll 61 = .ok (.getfield 768, 3) := by decide +kernel
theorem dX13_printAll_64 : decode cX13_printAll 64 = .ok (.iaload, 1) := by decide +kernel
theorem dX13_printAll_65 : decode cX13_printAll 65 = .ok (.tableswitch 191 0 8 #[51, 62, 73, 84, 105, 114, 140, 155, 176], 51) := by decide +kernel
theorem dX13_printAll_116 : decode cX13_printAll 116 = .ok (.aload_n 0, 1) := by decide +kernel
theorem dX13_printAll_117 : decode cX13_printAll 117 = .ok (.iload 4, 2) := by decide +kernel
theorem dX13_printAll_119 : decode cX13_printAll 119 = .ok (.iload 5, 2) := by decide +kernel
theorem dX13_printAll_121 : decode cX13_printAll 121 = .ok (.invokevirtual 798, 3) := by decide +kernel
theorem dX13_printAll_124 : decode cX13_printAll 124 = .ok (.goto 150, 3) := by decide +kernel
theorem dX13_printAll_127 : decode cX13_printAll 127 = .ok (.aload_n 0, 1) := by decide +kernel
theorem dX13_printAll_128 : decode cX13_printAll 128 = .ok (.iload 4, 2) := by decide +kernel
theorem dX13_printAll_130 : decode cX13_printAll 130 = .ok (.iload 5, 2) := by decide +kernel
theorem dX13_printAll_132 : decode cX13_printAll 132 = .ok (.invokevirtual 801, 3) := by decide +kernel
theorem dX13_printAll_135 : decode cX13_printAll 135 = .ok (.goto 139, 3) := by decide +kernel
theorem dX13_printAll_138 : decode cX13_printAll 138 = .ok (.aload_n 0, 1) := by decide +kernel
theorem dX13_printAll_139 : decode cX13_printAll 139 = .ok (.iload 4, 2) := by decide +kernel
theorem dX13_printAll_141 : decode cX13_printAll 141 = .ok (.iload 5, 2) := by decide +kernel
theorem dX13_printAll_143 : decode cX13_printAll 143 = .ok (.invokevirtual 804, 3) := by decide +kernel
theorem dX13_printAll_146 : decode cX13_printAll 146 = .ok (.goto 128, 3) := by decide +kernel
theorem dX13_printAll_149 : decode cX13_printAll 149 = .ok (.aload_n 0, 1) := by decide +kernel
theorem dX13_printAll_150 : decode cX13_printAll 150 = .ok (.iload 5, 2) := by decide +kernel
theorem dX13_printAll_152 : decode cX13_printAll 152 = .ok (.invokevirtual 795, 3) := by decide +kernel
theorem dX13_printAll_155 : decode cX13_printAll 155 = .ok (.aload_n 0, 1) := by decide +kernel
theorem dX13_printAll_156 : decode cX13_printAll 156 = .ok (.bipush 125, 2) := by decide +kernel
theorem dX13_printAll_158 : decode cX13_printAll 158 = .ok (.invokevirtual 763, 3) := by decide +kernel
theorem dX13_printAll_161 : decode cX13_printAll 161 = .ok (.aload_n 0, 1) := by decide +kernel
theorem dX13_printAll_162 : decode cX13_printAll 162 = .ok (.bipush 10, 2) := by decide +kernel
theorem dX13_printAll_164 : decode cX13_printAll 164 = .ok (.invokevirtual 763, 3) := by decide +kernel
theorem dX13_printAll_167 : decode cX13_printAll 167 = .ok (.goto 107, 3) := by decide +kernel
theorem dX13_printAll_170 : decode cX13_printAll 170 = .ok (.aload_n 0, 1) := by decide +kernel
theorem dX13_printAll_171 : decode cX13_printAll 171 = .ok (.iload 4, 2) := by decide +kernel
theorem dX13_printAll_173 : decode cX13_printAll 173 = .ok (.invokevirtual 763, 3) := by decide +kernel
theorem dX13_printAll_176 : decode cX13_printAll 176 = .ok (.goto 98, 3) := by decide +kernel
theorem dX13_printAll_179 : decode cX13_printAll 179 = .ok (.aload_n 0, 1) := by decide +kernel
theorem dX13_printAll_180 : decode cX13_printAll 180 = .ok (.bipush 32, 2) := by decide +kernel
theorem dX13_printAll_182 : decode cX13_printAll 182 = .ok (.invokevirtual 763, 3) := by decide +kernel
theorem dX13_printAll_185 : decode cX13_printAll 185 = .ok (.aload_n 0, 1) := by decide +kernel
theorem dX13_printAll_186 : decode cX13_printAll 186 = .ok (.aload_n 0, 1) := by decide +kernel
theorem dX13_printAll_187 : decode cX13_printAll 187 = .ok (.getfield 27, 3) := by decide +kernel
theorem dX13_printAll_190 : decode cX13_printAll 190 = .ok (.iload 4, 2) := by decide +kernel
theorem dX13_printAll_192 : decode cX13_printAll 192 = .ok (.iaload, 1) := by decide +kernel
theorem dX13_printAll_193 : decode cX13_printAll 193 = .ok (.invokevirtual 763, 3) := by decide +kernel
theorem dX13_printAll_196 : decode cX13_printAll 196 = .ok (.aload_n 0, 1) := by decide +kernel
theorem dX13_printAll_197 : decode cX13_printAll 197 = .ok (.bipush 32, 2) := by decide +kernel
theorem dX13_printAll_199 : decode cX13_printAll 199 = .ok (.invokevirtual 763, 3) := by decide +kernel
theorem dX13_printAll_202 : decode cX13_printAll 202 = .ok (.goto 72, 3) := by decide +kernel
theorem dX13_printAll_205 : decode cX13_printAll 205 = .ok (.aload_n 0, 1) := by decide +kernel
theorem dX13_printAll_206 : decode cX13_printAll 206 = .ok (.bipush 44, 2) := by decide +kernel
theorem dX13_printAll_208 : decode cX13_printAll 208 = .ok (.invokevirtual 763, 3) := by decide +kernel
theorem dX13_printAll_211 : decode cX13_printAll 211 = .ok (.aload_n 0, 1) := by decide +kernel
theorem dX13_printAll_212 : decode cX13_printAll 212 = .ok (.bipush 32, 2) := by decide +kernel
theorem dX13_printAll_214 : decode cX13_printAll 214 = .ok (.invokevirtual 763, 3) := by decide +kernel
theorem dX13_printAll_217 : decode cX13_printAll 217 = .ok (.goto 57, 3) := by decide +kernel
theorem dX13_printAll_220 : decode cX13_printAll 220 = .ok (.aload_n 0, 1) := by decide +kernel
theorem dX13_printAll_221 : decode cX13_printAll 221 = .ok (.bipush 32, 2) := by decide +kernel
theorem dX13_printAll_223 : decode cX13_printAll 223 = .ok (.invokevirtual 763, 3) := by decide +kernel
theorem dX13_printAll_226 : decode cX13_printAll 226 = .ok (.aload_n 0, 1) := by decide +kernel
theorem dX13_printAll_227 : decode cX13_printAll 227 = .ok (.bipush 123, 2) := by decide +kernel
theorem dX13_printAll_229 : decode cX13_printAll 229 = .ok (.invokevirtual 763, 3) := by decide +kernel
theorem dX13_printAll_232 : decode cX13_printAll 232 = .ok (.aload_n 0, 1) := by decide +kernel
theorem dX13_printAll_233 : decode cX13_printAll 233 = .ok (.bipush 10, 2) := by decide +kernel
theorem dX13_printAll_235 : decode cX13_printAll 235 = .ok (.invokevirtual 763, 3) := by decide +kernel
theorem dX13_printAll_238 : decode cX13_printAll 238 = .ok (.goto 36, 3) := by decide +kernel
theorem dX13_printAll_241 : decode cX13_printAll 241 = .ok (.aload_n 0, 1) := by decide +kernel
theorem dX13_printAll_242 : decode cX13_printAll 242 = .ok (.bipush 59, 2) := by decide +kernel
theorem dX13_printAll_244 : decode cX13_printAll 244 = .ok (.invokevirtual 763, 3) := by decide +kernel
theorem dX13_printAll_247 : decode cX13_printAll 247 = .ok (.aload_n 0, 1) := by decide +kernel
theorem dX13_printAll_248 : decode cX13_printAll 248 = .ok (.bipush 10, 2) := by decide +kernel
theorem dX13_printAll_250 : decode cX13_printAll 250 = .ok (.invokevirtual 763, 3) := by decide +kernel
theorem dX13_printAll_253 : decode cX13_printAll 253 = .ok (.goto 21, 3) := by decide +kernel
theorem dX13_printAll_256 : decode cX13_printAll 256 = .ok (.aload_n 0, 1) := by decide +kernel
theorem dX13_printAll_257 : decode cX13_printAll 257 = .ok (.bipush 32, 2) := by decide +kernel
theorem dX13_printAll_259 : decode cX13_printAll 259 = .ok (.invokevirtual 763, 3) := by decide +kernel
theorem dX13_printAll_262 : decode cX13_printAll 262 = .ok (.aload_n 0, 1) := by decide +kernel
theorem dX13_printAll_263 : decode cX13_printAll 263 = .ok (.bipush 61, 2) := by decide +kernel
theorem dX13_printAll_265 : decode cX13_printAll 265 = .ok (.invokevirtual 763, 3) := by decide +kernel
theorem dX13_printAll_268 : decode cX13_printAll 268 = .ok (.aload_n 0, 1) := by decide +kernel
theorem dX13_printAll_269 : decode cX13_printAll 269 = .ok (.bipush 32, 2) := by decide +kernel
theorem dX13_printAll_271 : decode cX13_printAll 271 = .ok (.invokevirtual 763, 3) := by decide +kernel
theorem dX13_printAll_274 : decode cX13_printAll 274 = .ok (.goto (-257), 3) := by decide +kernel
theorem dX13_printAll_277 : decode cX13_printAll 277 = .ok (.return_, 1) := by decide +kernel
theorem dX13_print_0 : decode cX13_print 0 = .ok (.aload_n 0, 1) := by decide +kernel
theorem dX13_print_1 : decode cX13_print 1 = .ok (.iconst 0, 1) := by decide +kernel
theorem dX13_print_2 : decode cX13_print 2 = .ok (.putfield 193, 3) := by decide +kernel
theorem dX13_print_5 : decode cX13_print 5 = .ok (.aload_n 0, 1) := by decide +kernel
theorem dX13_print_6 : decode cX13_print 6 = .ok (.getfield 325, 3) := by decide +kernel
theorem dX13_print_9 : decode cX13_print 9 = .ok (.ifCond .ne 6, 3) := by decide +kernel
theorem dX13_print_12 : decode cX13_print 12 = .ok (.ldc 199, 2) := by decide +kernel
theorem dX13_print_14 : decode cX13_print 14 = .ok (.ireturn, 1) := by decide +kernel
theorem dX13_print_15 : decode cX13_print 15 = .ok (.aload_n 0, 1) := by decide +kernel
theorem dX13_print_16 : decode cX13_print 16 = .ok (.iconst 0, 1) := by decide +kernel
theorem dX13_print_17 : decode cX13_print 17 = .ok (.putfield 754, 3) := by decide +kernel
theorem dX13_print_20 : decode cX13_print 20 = .ok (.iconst 0, 1) := by decide +kernel
theorem dX13_print_21 : decode cX13_print 21 = .ok (.istore_n 1, 1) := by decide +kernel
theorem dX13_print_22 : decode cX13_print 22 = .ok (.iload_n 1, 1) := by decide +kernel
theorem dX13_print_23 : decode cX13_print 23 = .ok (.aload_n 0, 1) := by decide +kernel
theorem dX13_print_24 : decode cX13_print 24 = .ok (.getfield 319, 3) := by decide +kernel
theorem dX13_print_27 : decode cX13_print 27 = .ok (.if_icmp .ge 123, 3) := by decide +kernel
theorem dX13_print_30 : decode cX13_print 30 = .ok (.aload_n 0, 1) := by decide +kernel
theorem dX13_print_31 : decode cX13_print 31 = .ok (.aload_n 0, 1) := by decide +kernel
theorem dX13_print_32 : decode cX13_print 32 = .ok (.getfield 13, 3) := by decide +kernel
theorem dX13_print_35 : decode cX13_print 35 = .ok (.iconst 0, 1) := by decide +kernel
theorem dX13_print_36 : decode cX13_print 36 = .ok (.invokevirtual 791, 3) := by decide +kernel
theorem dX13_print_39 : decode cX13_print 39 = .ok (.aload_n 0, 1) := by decide +kernel
theorem dX13_print_40 : decode cX13_print 40 = .ok (.bipush 32, 2) := by decide +kernel
theorem dX13_print_42 : decode cX13_print 42 = .ok (.invokevirtual 763, 3) := by decide +kernel
theorem dX13_print_45 : decode cX13_print 45 = .ok (.aload_n 0, 1) := by decide +kernel
theorem dX13_print_46 : decode cX13_print 46 = .ok (.iload_n 1, 1) := by decide +kernel
theorem dX13_print_47 : decode cX13_print 47 = .ok (.invokevirtual 788, 3) := by decide +kernel
theorem dX13_print_50 : decode cX13_print 50 = .ok (.aload_n 0, 1) := by decide +kernel
theorem dX13_print_51 : decode cX13_print 51 = .ok (.bipush 40, 2) := by decide +kernel
theorem dX13_print_53 : decode cX13_print 53 = .ok (.invokevirtual 763, 3) := by decide +kernel
theorem dX13_print_56 : decode cX13_print 56 = .ok (.iconst 0, 1) := by decide +kernel
theorem dX13_print_57 : decode cX13_print 57 = .ok (.istore_n 2, 1) := by decide +kernel
theorem dX13_print_58 : decode cX13_print 58 = .ok (.iload_n 2, 1) := by decide +kernel
theorem dX13_print_59 : decode cX13_print 59 = .ok (.aload_n 0, 1) := by decide +kernel
theorem dX13_print_60 : decode cX13_print 60 = .ok (.getfield 55, 3) := by decide +kernel
theorem dX13_print_63 : decode cX13_print 63 = .ok (.iload_n 1, 1) := by decide +kernel
theorem dX13_print_64 : decode cX13_print 64 = .ok (.iaload, 1) := by decide +kernel
theorem dX13_print_65 : decode cX13_print 65 = .ok (.if_icmp .ge 31, 3) := by decide +kernel
theorem dX13_print_68 : decode cX13_print 68 = .ok (.iload_n 2, 1) := by decide +kernel
theorem dX13_print_69 : decode cX13_print 69 = .ok (.ifCond .le 15, 3) := by decide +kernel
theorem dX13_print_72 : decode cX13_print 72 = .ok (.aload_n 0, 1) := by decide +kernel
theorem dX13_print_73 : decode cX13_print 73 = .ok (.bipush 44, 2) := by decide +kernel
theorem dX13_print_75 : decode cX13_print 75 = .ok (.invokevirtual 763, 3) := by decide +kernel
theorem dX13_print_78 : decode cX13_print 78 = .ok (.aload_n 0, 1) := by decide +kernel
theorem dX13_print_79 : decode cX13_print 79 = .ok (.bipush 32, 2) := by decide +kernel
theorem dX13_print_81 : decode cX13_print 81 = .ok (.invokevirtual 763, 3) := by decide +kernel
theorem dX13_print_84 : decode cX13_print 84 = .ok (.aload_n 0, 1) := by decide +kernel
theorem dX13_print_85 : decode cX13_print 85 = .ok (.iload_n 1, 1) := by decide +kernel
theorem dX13_print_86 : decode cX13_print 86 = .ok (.iload_n 2, 1) := by decide +kernel
theorem dX13_print_87 : decode cX13_print 87 = .ok (.invokevirtual 782, 3) := by decide +kernel
theorem dX13_print_90 : decode cX13_print 90 = .ok (.iinc 2 1, 3) := by decide +kernel
theorem dX13_print_93 : decode cX13_print 93 = .ok (.goto (-35), 3) := by decide +kernel
theorem dX13_print_96 : decode cX13_print 96 = .ok (.aload_n 0, 1) := by decide +kernel
theorem dX13_print_97 : decode cX13_print 97 = .ok (.bipush 41, 2) := by decide +kernel
theorem dX13_print_99 : decode cX13_print 99 = .ok (.invokevirtual 763, 3) := by decide +kernel
theorem dX13_print_102 : decode cX13_print 102 = .ok (.aload_n 0, 1) := by decide +kernel
theorem dX13_print_103 : decode cX13_print 103 = .ok (.bipush 32, 2) := by decide +kernel
theorem dX13_print_105 : decode cX13_print 105 = .ok (.invokevirtual 763, 3) := by decide +kernel
theorem dX13_print_108 : decode cX13_print 108 = .ok (.aload_n 0, 1) := by decide +kernel
theorem dX13_print_109 : decode cX13_print 109 = .ok (.bipush 123, 2) := by decide +kernel
theorem dX13_print_111 : decode cX13_print 111 = .ok (.invokevirtual 763, 3) := by decide +kernel
theorem dX13_print_114 : decode cX13_print 114 = .ok (.aload_n 0, 1) := by decide +kernel
theorem dX13_print_115 : decode cX13_print 115 = .ok (.bipush 10, 2) := by decide +kernel
theorem dX13_print_117 : decode cX13_print 117 = .ok (.invokevirtual 763, 3) := by decide +kernel
theorem dX13_print_120 : decode cX13_print 120 = .ok (.aload_n 0, 1) := by decide +kernel
theorem dX13_print_121 : decode cX13_print 121 = .ok (.aload_n 0, 1) := by decide +kernel
theorem dX13_print_122 : decode cX13_print 122 = .ok (.getfield 58, 3) := by decide +kernel
theorem dX13_print_125 : decode cX13_print 125 = .ok (.iload_n 1, 1) := by decide +kernel
theorem dX13_print_126 : decode cX13_print 126 = .ok (.iaload, 1) := by decide +kernel
theorem dX13_print_127 : decode cX13_print 127 = .ok (.iload_n 1, 1) := by decide +kernel
theorem dX13_print_128 : decode cX13_print 128 = .ok (.iconst 1, 1) := by decide +kernel
theorem dX13_print_129 : decode cX13_print 129 = .ok (.invokevirtual 807, 3) := by decide +kernel
theorem dX13_print_132 : decode cX13_print 132 = .ok (.aload_n 0, 1) := by decide +kernel
theorem dX13_print_133 : decode cX13_print 133 = .ok (.bipush 125, 2) := by decide +kernel
theorem dX13_print_135 : decode cX13_print 135 = .ok (.invokevirtual 763, 3) := by decide +kernel
theorem dX13_print_138 : decode cX13_print 138 = .ok (.aload_n 0, 1) := by decide +kernel
theorem dX13_print_139 : decode cX13_print 139 = .ok (.bipush 10, 2) := by decide +kernel
theorem dX13_print_141 : decode cX13_print 141 = .ok (.invokevirtual 763, 3) := by decide +kernel
theorem dX13_print_144 : decode cX13_print 144 = .ok (.iinc 1 1, 3) := by decide +kernel
theorem dX13_print_147 : decode cX13_print 147 = .ok (.goto (-125), 3) := by decide +kernel
theorem dX13_print_150 : decode cX13_print 150 = .ok (.aload_n 0, 1) := by decide +kernel
theorem dX13_print_151 : decode cX13_print 151 = .ok (.aload_n 0, 1) := by decide +kernel
theorem dX13_print_152 : decode cX13_print 152 = .ok (.getfield 322, 3) := by decide +kernel
theorem dX13_print_155 : decode cX13_print 155 = .ok (.bipush 12, 2) := by decide +kernel
theorem dX13_print_157 : decode cX13_print 157 = .ok (.iconst 0, 1) := by decide +kernel
theorem dX13_print_158 : decode cX13_print 158 = .ok (.invokevirtual 807, 3) := by decide +kernel
theorem dX13_print_161 : decode cX13_print 161 = .ok (.aload_n 0, 1) := by decide +kernel
theorem dX13_print_162 : decode cX13_print 162 = .ok (.getfield 754, 3) := by decide +kernel
theorem dX13_print_165 : decode cX13_print 165 = .ok (.ireturn, 1) := by decide +kernel
theorem dX13_writeFraction_0 : decode cX13_writeFraction 0 = .ok (.lload_n 1, 1) := by decide +kernel
theorem dX13_writeFraction_1 : decode cX13_writeFraction 1 = .ok (.lconst 0, 1) := by decide +kernel
theorem dX13_writeFraction_2 : decode cX13_writeFraction 2 = .ok (.lcmp, 1) := by decide +kernel
theorem dX13_writeFraction_3 : decode cX13_writeFraction 3 = .ok (.ifCond .ge 9, 3) := by decide +kernel
theorem dX13_writeFraction_6 : decode cX13_writeFraction 6 = .ok (.aload_n 0, 1) := by decide +kernel
theorem dX13_writeFraction_7 : decode cX13_writeFraction 7 = .ok (.bipush 45, 2) := by decide +kernel
theorem dX13_writeFraction_9 : decode cX13_writeFraction 9 = .ok (.invokevirtual 763, 3) := by decide +kernel
theorem dX13_writeFraction_12 : decode cX13_writeFraction 12 = .ok (.aload_n 0, 1) := by decide +kernel
theorem dX13_writeFraction_13 : decode cX13_writeFraction 13 = .ok (.lload_n 1, 1) := by decide +kernel
theorem dX13_writeFraction_14 : decode cX13_writeFraction 14 = .ok (.lconst 0, 1) := by decide +kernel
theorem dX13_writeFraction_15 : decode cX13_writeFraction 15 = .ok (.lcmp, 1) := by decide +kernel
theorem dX13_writeFraction_16 : decode cX13_writeFraction 16 = .ok (.ifCond .ge 8, 3) := by decide +kernel
theorem dX13_writeFraction_19 : decode cX13_writeFraction 19 = .ok (.lload_n 1, 1) := by decide +kernel
theorem dX13_writeFraction_20 : decode cX13_writeFraction 20 = .ok (.lneg, 1) := by decide +kernel
theorem dX13_writeFraction_21 : decode cX13_writeFraction 21 = .ok (.goto 4, 3) := by decide +kernel
theorem dX13_writeFraction_24 : decode cX13_writeFraction 24 = .ok (.lload_n 1, 1) := by decide +kernel
theorem dX13_writeFraction_25 : decode cX13_writeFraction 25 = .ok (.invokevirtual 776, 3) := by decide +kernel
theorem dX13_writeFraction_28 : decode cX13_writeFraction 28 = .ok (.lload_n 3, 1) := by decide +kernel
theorem dX13_writeFraction_29 : decode cX13_writeFraction 29 = .ok (.lconst 1, 1) := by decide +kernel
theorem dX13_writeFraction_30 : decode cX13_writeFraction 30 = .ok (.lcmp, 1) := by decide +kernel
theorem dX13_writeFraction_31 : decode cX13_writeFraction 31 = .ok (.ifCond .eq 14, 3) := by decide +kernel
theorem dX13_writeFraction_34 : decode cX13_writeFraction 34 = .ok (.aload_n 0, 1) := by decide +kernel
theorem dX13_writeFraction_35 : decode cX13_writeFraction 35 = .ok (.bipush 47, 2) := by decide +kernel
theorem dX13_writeFraction_37 : decode cX13_writeFraction 37 = .ok (.invokevirtual 763, 3) := by decide +kernel
theorem dX13_writeFraction_40 : decode cX13_writeFraction 40 = .ok (.aload_n 0, 1) := by decide +kernel
theorem dX13_writeFraction_41 : decode cX13_writeFraction 41 = .ok (.lload_n 3, 1) := by decide +kernel
theorem dX13_writeFraction_42 : decode cX13_writeFraction 42 = .ok (.invokevirtual 776, 3) := by decide +kernel
theorem dX13_writeFraction_45 : decode cX13_writeFraction 45 = .ok (.return_, 1) := by decide +kernel
theorem dX13_write_0 : decode cX13_write 0 = .ok (.aload_n 0, 1) := by decide +kernel
theorem dX13_write_1 : decode cX13_write 1 = .ok (.iload_n 1, 1) := by decide +kernel
theorem dX13_write_2 : decode cX13_write 2 = .ok (.invokevirtual 757, 3) := by decide +kernel
theorem dX13_write_5 : decode cX13_write 5 = .ok (.ifCond .eq 5, 3) := by decide +kernel
theorem dX13_write_8 : decode cX13_write 8 = .ok (.iconst 0, 1) := by decide +kernel
theorem dX13_write_9 : decode cX13_write 9 = .ok (.ireturn, 1) := by decide +kernel
theorem dX13_write_10 : decode cX13_write 10 = .ok (.aload_n 0, 1) := by decide +kernel
theorem dX13_write_11 : decode cX13_write 11 = .ok (.getfield 141, 3) := by decide +kernel
theorem dX13_write_14 : decode cX13_write 14 = .ok (.iload_n 1, 1) := by decide +kernel
theorem dX13_write_15 : decode cX13_write 15 = .ok (.iaload, 1) := by decide +kernel
theorem dX13_write_16 : decode cX13_write 16 = .ok (.istore_n 2, 1) := by decide +kernel
theorem dX13_write_17 : decode cX13_write 17 = .ok (.aload_n 0, 1) := by decide +kernel
theorem dX13_write_18 : decode cX13_write 18 = .ok (.getfield 99, 3) := by decide +kernel
theorem dX13_write_21 : decode cX13_write 21 = .ok (.iload_n 2, 1) := by decide +kernel
theorem dX13_write_22 : decode cX13_write 22 = .ok (.iaload, 1) := by decide +kernel
theorem dX13_write_23 : decode cX13_write 23 = .ok (.istore_n 3, 1) := by decide +kernel
theorem dX13_write_24 : decode cX13_write 24 = .ok (.aload_n 0, 1) := by decide +kernel
theorem dX13_write_25 : decode cX13_write 25 = .ok (.iconst 0, 1) := by decide +kernel
theorem dX13_write_26 : decode cX13_write 26 = .ok (.putfield 754, 3) := by decide +kernel
theorem dX13_write_29 : decode cX13_write 29 = .ok (.iload_n 3, 1) := by decide +kernel
theorem dX13_write_30 : decode cX13_write 30 = .ok (.ifCond .ne 7, 3) := by decide +kernel
theorem dX13_write_33 : decode cX13_write 33 = .ok (.iconst 1, 1) := by decide +kernel
theorem dX13_write_34 : decode cX13_write 34 = .ok (.goto 25, 3) := by decide +kernel
theorem dX13_write_37 : decode cX13_write 37 = .ok (.iload_n 3, 1) := by decide +kernel
theorem dX13_write_38 : decode cX13_write 38 = .ok (.invokestatic 642, 3) := by decide +kernel
theorem dX13_write_41 : decode cX13_write 41 = .ok (.ifCond .eq 7, 3) := by decide +kernel
theorem dX13_write_44 : decode cX13_write 44 = .ok (.iconst 2, 1) := by decide +kernel
theorem dX13_write_45 : decode cX13_write 45 = .ok (.goto 14, 3) := by decide +kernel
theorem dX13_write_48 : decode cX13_write 48 = .ok (.iload_n 3, 1) := by decide +kernel
theorem dX13_write_49 : decode cX13_write 49 = .ok (.bipush 6, 2) := by decide +kernel
theorem dX13_write_51 : decode cX13_write 51 = .ok (.if_icmp .ne 7, 3) := by decide +kernel
theorem dX13_write_54 : decode cX13_write 54 = .ok (.iconst 0, 1) := by decide +kernel
theorem dX13_write_55 : decode cX13_write 55 = .ok (.goto 4, 3) := by decide +kernel
theorem dX13_write_58 : decode cX13_write 58 = .ok (.iconst 3, 1) := by decide +kernel
theorem dX13_write_59 : decode cX13_write 59 = .ok (.istore 4, 2) := by decide +kernel
theorem dX13_write_61 : decode cX13_write 61 = .ok (.iload_n 3, 1) := by decide +kernel
theorem dX13_write_62 : decode cX13_write 62 = .ok (.ifCond .eq 43, 3) := by decide +kernel
theorem dX13_write_65 : decode cX13_write 65 = .ok (.aload_n 0, 1) := by decide +kernel
theorem dX13_write_66 : decode cX13_write 66 = .ok (.iload_n 3, 1) := by decide +kernel
theorem dX13_write_67 : decode cX13_write 67 = .ok (.invokestatic 642, 3) := by decide +kernel
theorem dX13_write_70 : decode cX13_write 70 = .ok (.ifCond .eq 8, 3) := by decide +kernel
theorem dX13_write_73 : decode cX13_write 73 = .ok (.bipush 40, 2) := by decide +kernel
theorem dX13_write_75 : decode cX13_write 75 = .ok (.goto 27, 3) := by decide +kernel
theorem dX13_write_78 : decode cX13_write 78 = .ok (.iload_n 3, 1) := by decide +kernel
theorem dX13_write_79 : decode cX13_write 79 = .ok (.invokestatic 645, 3) := by decide +kernel
theorem dX13_write_82 : decode cX13_write 82 = .ok (.ifCond .eq 8, 3) := by decide +kernel
theorem dX13_write_85 : decode cX13_write 85 = .ok (.bipush 91, 2) := by decide +kernel
theorem dX13_write_87 : decode cX13_write 87 = .ok (.goto 15, 3) := by decide +kernel
theorem dX13_write_90 : decode cX13_write 90 = .ok (.iload_n 3, 1) := by decide +kernel
theorem dX13_write_91 : decode cX13_write 91 = .ok (.iconst 5, 1) := by decide +kernel
theorem dX13_write_92 : decode cX13_write 92 = .ok (.if_icmp .ne 8, 3) := by decide +kernel
theorem dX13_write_95 : decode cX13_write 95 = .ok (.bipush 60, 2) := by decide +kernel
theorem dX13_write_97 : decode cX13_write 97 = .ok (.goto 5, 3) := by decide +kernel
theorem dX13_write_100 : decode cX13_write 100 = .ok (.bipush 123, 2) := by decide +kernel
theorem dX13_write_102 : decode cX13_write 102 = .ok (.invokevirtual 763, 3) := by decide +kernel
theorem dX13_write_105 : decode cX13_write 105 = .ok (.iconst 0, 1) := by decide +kernel
theorem dX13_write_106 : decode cX13_write 106 = .ok (.istore 5, 2) := by decide +kernel
theorem dX13_write_108 : decode cX13_write 108 = .ok (.iload 5, 2) := by decide +kernel
theorem dX13_write_110 : decode cX13_write 110 = .ok (.iload 4, 2) := by decide +kernel
theorem dX13_write_112 : decode cX13_write 112 = .ok (.if_icmp .ge 54, 3) := by decide +kernel
theorem dX13_write_115 : decode cX13_write 115 = .ok (.iload 5, 2) := by decide +kernel
theorem dX13_write_117 : decode cX13_write 117 = .ok (.ifCond .le 15, 3) := by decide +kernel
theorem dX13_write_120 : decode cX13_write 120 = .ok (.aload_n 0, 1) := by decide +kernel
theorem dX13_write_121 : decode cX13_write 121 = .ok (.bipush 44, 2) := by decide +kernel
theorem dX13_write_123 : decode cX13_write 123 = .ok (.invokevirtual 763, 3) := by decide +kernel
theorem dX13_write_126 : decode cX13_write 126 = .ok (.aload_n 0, 1) := by decide +kernel
theorem dX13_write_127 : decode cX13_write 127 = .ok (.bipush 32, 2) := by decide +kernel
theorem dX13_write_129 : decode cX13_write 129 = .ok (.invokevirtual 763, 3) := by decide +kernel
theorem dX13_write_132 : decode cX13_write 132 = .ok (.aload_n 0, 1) := by decide +kernel
theorem dX13_write_133 : decode cX13_write 133 = .ok (.aload_n 0, 1) := by decide +kernel
theorem dX13_write_134 : decode cX13_write 134 = .ok (.getfield 108, 3) := by decide +kernel
theorem dX13_write_137 : decode cX13_write 137 = .ok (.bipush 7, 2) := by decide +kernel
theorem dX13_write_139 : decode cX13_write 139 = .ok (.iload_n 2, 1) := by decide +kernel
theorem dX13_write_140 : decode cX13_write 140 = .ok (.imul, 1) := by decide +kernel
theorem dX13_write_141 : decode cX13_write 141 = .ok (.iload 5, 2) := by decide +kernel
theorem dX13_write_143 : decode cX13_write 143 = .ok (.iadd, 1) := by decide +kernel
theorem dX13_write_144 : decode cX13_write 144 = .ok (.laload, 1) := by decide +kernel
theorem dX13_write_145 : decode cX13_write 145 = .ok (.aload_n 0, 1) := by decide +kernel
theorem dX13_write_146 : decode cX13_write 146 = .ok (.getfield 111, 3) := by decide +kernel
theorem dX13_write_149 : decode cX13_write 149 = .ok (.bipush 7, 2) := by decide +kernel
theorem dX13_write_151 : decode cX13_write 151 = .ok (.iload_n 2, 1) := by decide +kernel
theorem dX13_write_152 : decode cX13_write 152 = .ok (.imul, 1) := by decide +kernel
theorem dX13_write_153 : decode cX13_write 153 = .ok (.iload 5, 2) := by decide +kernel
theorem dX13_write_155 : decode cX13_write 155 = .ok (.iadd, 1) := by decide +kernel
theorem dX13_write_156 : decode cX13_write 156 = .ok (.laload, 1) := by decide +kernel
theorem dX13_write_157 : decode cX13_write 157 = .ok (.invokevirtual 810, 3) := by decide +kernel
theorem dX13_write_160 : decode cX13_write 160 = .ok (.iinc 5 1, 3) := by decide +kernel
theorem dX13_write_163 : decode cX13_write 163 = .ok (.goto (-55), 3) := by decide +kernel
theorem dX13_write_166 : decode cX13_write 166 = .ok (.iload_n 3, 1) := by decide +kernel
theorem dX13_write_167 : decode cX13_write 167 = .ok (.bipush 6, 2) := by decide +kernel
theorem dX13_write_169 : decode cX13_write 169 = .ok (.if_icmp .ne 19, 3) := by decide +kernel
theorem dX13_write_172 : decode cX13_write 172 = .ok (.aload_n 0, 1) := by decide +kernel
theorem dX13_write_173 : decode cX13_write 173 = .ok (.aload_n 0, 1) := by decide +kernel
theorem dX13_write_174 : decode cX13_write 174 = .ok (.getfield 117, 3) := by decide +kernel
theorem dX13_write_177 : decode cX13_write 177 = .ok (.aload_n 0, 1) := by decide +kernel
theorem dX13_write_178 : decode cX13_write 178 = .ok (.getfield 105, 3) := by decide +kernel
theorem dX13_write_181 : decode cX13_write 181 = .ok (.iload_n 2, 1) := by decide +kernel
theorem dX13_write_182 : decode cX13_write 182 = .ok (.iaload, 1) := by decide +kernel
theorem dX13_write_183 : decode cX13_write 183 = .ok (.iaload, 1) := by decide +kernel
theorem dX13_write_184 : decode cX13_write 184 = .ok (.i2l, 1) := by decide +kernel
theorem dX13_write_185 : decode cX13_write 185 = .ok (.invokevirtual 776, 3) := by decide +kernel
theorem dX13_write_188 : decode cX13_write 188 = .ok (.iload_n 3, 1) := by decide +kernel
theorem dX13_write_189 : decode cX13_write 189 = .ok (.ifCond .eq 43, 3) := by decide +kernel
theorem dX13_write_192 : decode cX13_write 192 = .ok (.aload_n 0, 1) := by decide +kernel
theorem dX13_write_193 : decode cX13_write 193 = .ok (.iload_n 3, 1) := by decide +kernel
theorem dX13_write_194 : decode cX13_write 194 = .ok (.invokestatic 642, 3) := by decide +kernel
theorem dX13_write_197 : decode cX13_write 197 = .ok (.ifCond .eq 8, 3) := by decide +kernel
theorem dX13_write_200 : decode cX13_write 200 = .ok (.bipush 41, 2) := by decide +kernel
theorem dX13_write_202 : decode cX13_write 202 = .ok (.goto 27, 3) := by decide +kernel
theorem dX13_write_205 : decode cX13_write 205 = .ok (.iload_n 3, 1) := by decide +kernel
theorem dX13_write_206 : decode cX13_write 206 = .ok (.invokestatic 645, 3) := by decide +kernel
theorem dX13_write_209 : decode cX13_write 209 = .ok (.ifCond .eq 8, 3) := by decide +kernel
theorem dX13_write_212 : decode cX13_write 212 = .ok (.bipush 93, 2) := by decide +kernel
theorem dX13_write_214 : decode cX13_write 214 = .ok (.goto 15, 3) := by decide +kernel
theorem dX13_write_217 : decode cX13_write 217 = .ok (.iload_n 3, 1) := by decide +kernel
theorem dX13_write_218 : decode cX13_write 218 = .ok (.iconst 5, 1) := by decide +kernel
theorem dX13_write_219 : decode cX13_write 219 = .ok (.if_icmp .ne 8, 3) := by decide +kernel
theorem dX13_write_222 : decode cX13_write 222 = .ok (.bipush 62, 2) := by decide +kernel
theorem dX13_write_224 : decode cX13_write 224 = .ok (.goto 5, 3) := by decide +kernel
theorem dX13_write_227 : decode cX13_write 227 = .ok (.bipush 125, 2) := by decide +kernel
theorem dX13_write_229 : decode cX13_write 229 = .ok (.invokevirtual 763, 3) := by decide +kernel
theorem dX13_write_232 : decode cX13_write 232 = .ok (.aload_n 0, 1) := by decide +kernel
theorem dX13_write_233 : decode cX13_write 233 = .ok (.getfield 754, 3) := by decide +kernel
theorem dX13_write_236 : decode cX13_write 236 = .ok (.ireturn, 1) := by decide +kernel
theorem dX13_out_0 : decode cX13_out 0 = .ok (.aload_n 0, 1) := by decide +kernel
theorem dX13_out_1 : decode cX13_out 1 = .ok (.iload_n 1, 1) := by decide +kernel
theorem dX13_out_2 : decode cX13_out 2 = .ok (.i2l, 1) := by decide +kernel
theorem dX13_out_3 : decode cX13_out 3 = .ok (.lconst 0, 1) := by decide +kernel
theorem dX13_out_4 : decode cX13_out 4 = .ok (.aload_n 0, 1) := by decide +kernel
theorem dX13_out_5 : decode cX13_out 5 = .ok (.getfield 754, 3) := by decide +kernel
theorem dX13_out_8 : decode cX13_out 8 = .ok (.iconst 1, 1) := by decide +kernel
theorem dX13_out_9 : decode cX13_out 9 = .ok (.isub, 1) := by decide +kernel
theorem dX13_out_10 : decode cX13_out 10 = .ok (.i2l, 1) := by decide +kernel
theorem dX13_out_11 : decode cX13_out 11 = .ok (.invokestatic 204, 3) := by decide +kernel
theorem dX13_out_14 : decode cX13_out 14 = .ok (.ifCond .eq 7, 3) := by decide +kernel
theorem dX13_out_17 : decode cX13_out 17 = .ok (.iconst 0, 1) := by decide +kernel
theorem dX13_out_18 : decode cX13_out 18 = .ok (.goto 4, 3) := by decide +kernel
theorem dX13_out_21 : decode cX13_out 21 = .ok (.iconst 1, 1) := by decide +kernel
theorem dX13_out_22 : decode cX13_out 22 = .ok (.putfield 193, 3) := by decide +kernel
theorem dX13_out_25 : decode cX13_out 25 = .ok (.aload_n 0, 1) := by decide +kernel
theorem dX13_out_26 : decode cX13_out 26 = .ok (.getfield 193, 3) := by decide +kernel
theorem dX13_out_29 : decode cX13_out 29 = .ok (.ifCond .le 7, 3) := by decide +kernel
theorem dX13_out_32 : decode cX13_out 32 = .ok (.iconst 0, 1) := by decide +kernel
theorem dX13_out_33 : decode cX13_out 33 = .ok (.goto 9, 3) := by decide +kernel
theorem dX13_out_36 : decode cX13_out 36 = .ok (.aload_n 0, 1) := by decide +kernel
theorem dX13_out_37 : decode cX13_out 37 = .ok (.getfield 163, 3) := by decide +kernel
theorem dX13_out_40 : decode cX13_out 40 = .ok (.iload_n 1, 1) := by decide +kernel
theorem dX13_out_41 : decode cX13_out 41 = .ok (.baload, 1) := by decide +kernel
theorem dX13_out_42 : decode cX13_out 42 = .ok (.ireturn, 1) := by decide +kernel
theorem dX13_back_0 : decode cX13_back 0 = .ok (.aload_n 0, 1) := by decide +kernel
theorem dX13_back_1 : decode cX13_back 1 = .ok (.iconst 0, 1) := by decide +kernel
theorem dX13_back_2 : decode cX13_back 2 = .ok (.putfield 193, 3) := by decide +kernel
theorem dX13_back_5 : decode cX13_back 5 = .ok (.aload_n 0, 1) := by decide +kernel
theorem dX13_back_6 : decode cX13_back 6 = .ok (.getfield 754, 3) := by decide +kernel
theorem dX13_back_9 : decode cX13_back 9 = .ok (.sipush 3000, 3) := by decide +kernel
theorem dX13_back_12 : decode cX13_back 12 = .ok (.if_icmp .le 6, 3) := by decide +kernel
theorem dX13_back_15 : decode cX13_back 15 = .ok (.ldc 199, 2) := by decide +kernel
theorem dX13_back_17 : decode cX13_back 17 = .ok (.ireturn, 1) := by decide +kernel
theorem dX13_back_18 : decode cX13_back 18 = .ok (.iconst 0, 1) := by decide +kernel
theorem dX13_back_19 : decode cX13_back 19 = .ok (.istore_n 1, 1) := by decide +kernel
theorem dX13_back_20 : decode cX13_back 20 = .ok (.iload_n 1, 1) := by decide +kernel
theorem dX13_back_21 : decode cX13_back 21 = .ok (.aload_n 0, 1) := by decide +kernel
theorem dX13_back_22 : decode cX13_back 22 = .ok (.getfield 754, 3) := by decide +kernel
theorem dX13_back_25 : decode cX13_back 25 = .ok (.if_icmp .ge 21, 3) := by decide +kernel
theorem dX13_back_28 : decode cX13_back 28 = .ok (.aload_n 0, 1) := by decide +kernel
theorem dX13_back_29 : decode cX13_back 29 = .ok (.getfield 7, 3) := by decide +kernel
theorem dX13_back_32 : decode cX13_back 32 = .ok (.iload_n 1, 1) := by decide +kernel
theorem dX13_back_33 : decode cX13_back 33 = .ok (.aload_n 0, 1) := by decide +kernel
theorem dX13_back_34 : decode cX13_back 34 = .ok (.getfield 163, 3) := by decide +kernel
theorem dX13_back_37 : decode cX13_back 37 = .ok (.iload_n 1, 1) := by decide +kernel
theorem dX13_back_38 : decode cX13_back 38 = .ok (.baload, 1) := by decide +kernel
theorem dX13_back_39 : decode cX13_back 39 = .ok (.bastore, 1) := by decide +kernel
theorem dX13_back_40 : decode cX13_back 40 = .ok (.iinc 1 1, 3) := by decide +kernel
theorem dX13_back_43 : decode cX13_back 43 = .ok (.goto (-23), 3) := by decide +kernel
theorem dX13_back_46 : decode cX13_back 46 = .ok (.aload_n 0, 1) := by decide +kernel
theorem dX13_back_47 : decode cX13_back 47 = .ok (.aload_n 0, 1) := by decide +kernel
theorem dX13_back_48 : decode cX13_back 48 = .ok (.getfield 754, 3) := by decide +kernel
theorem dX13_back_51 : decode cX13_back 51 = .ok (.putfield 196, 3) := by decide +kernel
theorem dX13_back_54 : decode cX13_back 54 = .ok (.aload_n 0, 1) := by decide +kernel
theorem dX13_back_55 : decode cX13_back 55 = .ok (.getfield 196, 3) := by decide +kernel
theorem dX13_back_58 : decode cX13_back 58 = .ok (.ireturn, 1) := by decide +kernel
theorem dX13_statedOr_0 : decode cX13_statedOr 0 = .ok (.iload_n 1, 1) := by decide +kernel
theorem dX13_statedOr_1 : decode cX13_statedOr 1 = .ok (.aload_n 0, 1) := by decide +kernel
theorem dX13_statedOr_2 : decode cX13_statedOr 2 = .ok (.getfield 562, 3) := by decide +kernel
theorem dX13_statedOr_5 : decode cX13_statedOr 5 = .ok (.if_icmp .ge 12, 3) := by decide +kernel
theorem dX13_statedOr_8 : decode cX13_statedOr 8 = .ok (.aload_n 0, 1) := by decide +kernel
theorem dX13_statedOr_9 : decode cX13_statedOr 9 = .ok (.getfield 144, 3) := by decide +kernel
theorem dX13_statedOr_12 : decode cX13_statedOr 12 = .ok (.iload_n 1, 1) := by decide +kernel
theorem dX13_statedOr_13 : decode cX13_statedOr 13 = .ok (.iaload, 1) := by decide +kernel
theorem dX13_statedOr_14 : decode cX13_statedOr 14 = .ok (.goto 4, 3) := by decide +kernel
theorem dX13_statedOr_17 : decode cX13_statedOr 17 = .ok (.iconst (-1), 1) := by decide +kernel
theorem dX13_statedOr_18 : decode cX13_statedOr 18 = .ok (.ireturn, 1) := by decide +kernel
theorem dX13_lay_0 : decode cX13_lay 0 = .ok (.iconst 0, 1) := by decide +kernel
theorem dX13_lay_1 : decode cX13_lay 1 = .ok (.istore_n 2, 1) := by decide +kernel
theorem dX13_lay_2 : decode cX13_lay 2 = .ok (.iload_n 2, 1) := by decide +kernel
theorem dX13_lay_3 : decode cX13_lay 3 = .ok (.bipush 24, 2) := by decide +kernel
theorem dX13_lay_5 : decode cX13_lay 5 = .ok (.if_icmp .ge 96, 3) := by decide +kernel
theorem dX13_lay_8 : decode cX13_lay 8 = .ok (.iload_n 1, 1) := by decide +kernel
theorem dX13_lay_9 : decode cX13_lay 9 = .ok (.ifCond .eq 46, 3) := by decide +kernel
theorem dX13_lay_12 : decode cX13_lay 12 = .ok (.aload_n 0, 1) := by decide +kernel
theorem dX13_lay_13 : decode cX13_lay 13 = .ok (.getfield 178, 3) := by decide +kernel
theorem dX13_lay_16 : decode cX13_lay 16 = .ok (.iload_n 2, 1) := by decide +kernel
theorem dX13_lay_17 : decode cX13_lay 17 = .ok (.aload_n 0, 1) := by decide +kernel
theorem dX13_lay_18 : decode cX13_lay 18 = .ok (.getfield 129, 3) := by decide +kernel
theorem dX13_lay_21 : decode cX13_lay 21 = .ok (.iload_n 2, 1) := by decide +kernel
theorem dX13_lay_22 : decode cX13_lay 22 = .ok (.laload, 1) := by decide +kernel
theorem dX13_lay_23 : decode cX13_lay 23 = .ok (.lastore, 1) := by decide +kernel
theorem dX13_lay_24 : decode cX13_lay 24 = .ok (.aload_n 0, 1) := by decide +kernel
theorem dX13_lay_25 : decode cX13_lay 25 = .ok (.getfield 181, 3) := by decide +kernel
theorem dX13_lay_28 : decode cX13_lay 28 = .ok (.iload_n 2, 1) := by decide +kernel
theorem dX13_lay_29 : decode cX13_lay 29 = .ok (.aload_n 0, 1) := by decide +kernel
theorem dX13_lay_30 : decode cX13_lay 30 = .ok (.getfield 132, 3) := by decide +kernel
theorem dX13_lay_33 : decode cX13_lay 33 = .ok (.iload_n 2, 1) := by decide +kernel
theorem dX13_lay_34 : decode cX13_lay 34 = .ok (.laload, 1) := by decide +kernel
theorem dX13_lay_35 : decode cX13_lay 35 = .ok (.lastore, 1) := by decide +kernel
theorem dX13_lay_36 : decode cX13_lay 36 = .ok (.aload_n 0, 1) := by decide +kernel
theorem dX13_lay_37 : decode cX13_lay 37 = .ok (.getfield 184, 3) := by decide +kernel
theorem dX13_lay_40 : decode cX13_lay 40 = .ok (.iload_n 2, 1) := by decide +kernel
theorem dX13_lay_41 : decode cX13_lay 41 = .ok (.iconst 2, 1) := by decide +kernel
theorem dX13_lay_42 : decode cX13_lay 42 = .ok (.idiv, 1) := by decide +kernel
theorem dX13_lay_43 : decode cX13_lay 43 = .ok (.aload_n 0, 1) := by decide +kernel
theorem dX13_lay_44 : decode cX13_lay 44 = .ok (.getfield 126, 3) := by decide +kernel
theorem dX13_lay_47 : decode cX13_lay 47 = .ok (.iload_n 2, 1) := by decide +kernel
theorem dX13_lay_48 : decode cX13_lay 48 = .ok (.iconst 2, 1) := by decide +kernel
theorem dX13_lay_49 : decode cX13_lay 49 = .ok (.idiv, 1) := by decide +kernel
theorem dX13_lay_50 : decode cX13_lay 50 = .ok (.baload, 1) := by decide +kernel
theorem dX13_lay_51 : decode cX13_lay 51 = .ok (.bastore, 1) := by decide +kernel
theorem dX13_lay_52 : decode cX13_lay 52 = .ok (.goto 43, 3) := by decide +kernel
theorem dX13_lay_55 : decode cX13_lay 55 = .ok (.aload_n 0, 1) := by decide +kernel
theorem dX13_lay_56 : decode cX13_lay 56 = .ok (.getfield 129, 3) := by decide +kernel
theorem dX13_lay_59 : decode cX13_lay 59 = .ok (.iload_n 2, 1) := by decide +kernel
theorem dX13_lay_60 : decode cX13_lay 60 = .ok (.aload_n 0, 1) := by decide +kernel
theorem dX13_lay_61 : decode cX13_lay 61 = .ok (.getfield 178, 3) := by decide +kernel
theorem dX13_lay_64 : decode cX13_lay 64 = .ok (.iload_n 2, 1) := by decide +kernel
theorem dX13_lay_65 : decode cX13_lay 65 = .ok (.laload, 1) := by decide +kernel
theorem dX13_lay_66 : decode cX13_lay 66 = .ok (.lastore, 1) := by decide +kernel
theorem dX13_lay_67 : decode cX13_lay 67 = .ok (.aload_n 0, 1) := by decide +kernel
theorem dX13_lay_68 : decode cX13_lay 68 = .ok (.getfield 132, 3) := by decide +kernel
theorem dX13_lay_71 : decode cX13_lay 71 = .ok (.iload_n 2, 1) := by decide +kernel
theorem dX13_lay_72 : decode cX13_lay 72 = .ok (.aload_n 0, 1) := by decide +kernel
theorem dX13_lay_73 : decode cX13_lay 73 = .ok (.getfield 181, 3) := by decide +kernel
theorem dX13_lay_76 : decode cX13_lay 76 = .ok (.iload_n 2, 1) := by decide +kernel
theorem dX13_lay_77 : decode cX13_lay 77 = .ok (.laload, 1) := by decide +kernel
theorem dX13_lay_78 : decode cX13_lay 78 = .ok (.lastore, 1) := by decide +kernel
theorem dX13_lay_79 : decode cX13_lay 79 = .ok (.aload_n 0, 1) := by decide +kernel
theorem dX13_lay_80 : decode cX13_lay 80 = .ok (.getfield 126, 3) := by decide +kernel
theorem dX13_lay_83 : decode cX13_lay 83 = .ok (.iload_n 2, 1) := by decide +kernel
theorem dX13_lay_84 : decode cX13_lay 84 = .ok (.iconst 2, 1) := by decide +kernel
theorem dX13_lay_85 : decode cX13_lay 85 = .ok (.idiv, 1) := by decide +kernel
theorem dX13_lay_86 : decode cX13_lay 86 = .ok (.aload_n 0, 1) := by decide +kernel
theorem dX13_lay_87 : decode cX13_lay 87 = .ok (.getfield 184, 3) := by decide +kernel
theorem dX13_lay_90 : decode cX13_lay 90 = .ok (.iload_n 2, 1) := by decide +kernel
theorem dX13_lay_91 : decode cX13_lay 91 = .ok (.iconst 2, 1) := by decide +kernel
theorem dX13_lay_92 : decode cX13_lay 92 = .ok (.idiv, 1) := by decide +kernel
theorem dX13_lay_93 : decode cX13_lay 93 = .ok (.baload, 1) := by decide +kernel
theorem dX13_lay_94 : decode cX13_lay 94 = .ok (.bastore, 1) := by decide +kernel
theorem dX13_lay_95 : decode cX13_lay 95 = .ok (.iinc 2 1, 3) := by decide +kernel
theorem dX13_lay_98 : decode cX13_lay 98 = .ok (.goto (-96), 3) := by decide +kernel
theorem dX13_lay_101 : decode cX13_lay 101 = .ok (.return_, 1) := by decide +kernel
theorem dX13_findWay_0 : decode cX13_findWay 0 = .ok (.aload_n 0, 1) := by decide +kernel
theorem dX13_findWay_1 : decode cX13_findWay 1 = .ok (.getfield 123, 3) := by decide +kernel
theorem dX13_findWay_4 : decode cX13_findWay 4 = .ok (.iload_n 1, 1) := by decide +kernel
theorem dX13_findWay_5 : decode cX13_findWay 5 = .ok (.iaload, 1) := by decide +kernel
theorem dX13_findWay_6 : decode cX13_findWay 6 = .ok (.istore 5, 2) := by decide +kernel
theorem dX13_findWay_8 : decode cX13_findWay 8 = .ok (.aload_n 0, 1) := by decide +kernel
theorem dX13_findWay_9 : decode cX13_findWay 9 = .ok (.iconst 0, 1) := by decide +kernel
theorem dX13_findWay_10 : decode cX13_findWay 10 = .ok (.putfield 434, 3) := by decide +kernel
theorem dX13_findWay_13 : decode cX13_findWay 13 = .ok (.iconst 0, 1) := by decide +kernel
theorem dX13_findWay_14 : decode cX13_findWay 14 = .ok (.istore 6, 2) := by decide +kernel
theorem dX13_findWay_16 : decode cX13_findWay 16 = .ok (.iload 6, 2) := by decide +kernel
theorem dX13_findWay_18 : decode cX13_findWay 18 = .ok (.iload 4, 2) := by decide +kernel
theorem dX13_findWay_20 : decode cX13_findWay 20 = .ok (.if_icmp .gt 104, 3) := by decide +kernel
theorem dX13_findWay_23 : decode cX13_findWay 23 = .ok (.iconst 0, 1) := by decide +kernel
theorem dX13_findWay_24 : decode cX13_findWay 24 = .ok (.istore 7, 2) := by decide +kernel
theorem dX13_findWay_26 : decode cX13_findWay 26 = .ok (.iload 7, 2) := by decide +kernel
theorem dX13_findWay_28 : decode cX13_findWay 28 = .ok (.iconst 2, 1) := by decide +kernel
theorem dX13_findWay_29 : decode cX13_findWay 29 = .ok (.if_icmp .ge 89, 3) := by decide +kernel
theorem dX13_findWay_32 : decode cX13_findWay 32 = .ok (.aload_n 0, 1) := by decide +kernel
theorem dX13_findWay_33 : decode cX13_findWay 33 = .ok (.iconst 0, 1) := by decide +kernel
theorem dX13_findWay_34 : decode cX13_findWay 34 = .ok (.putfield 437, 3) := by decide +kernel
theorem dX13_findWay_37 : decode cX13_findWay 37 = .ok (.aload_n 0, 1) := by decide +kernel
theorem dX13_findWay_38 : decode cX13_findWay 38 = .ok (.iload 5, 2) := by decide +kernel
theorem dX13_findWay_40 : decode cX13_findWay 40 = .ok (.iload 7, 2) := by decide +kernel
theorem dX13_findWay_42 : decode cX13_findWay 42 = .ok (.invokevirtual 460, 3) := by decide +kernel
theorem dX13_findWay_45 : decode cX13_findWay 45 = .ok (.aload_n 0, 1) := by decide +kernel
theorem dX13_findWay_46 : decode cX13_findWay 46 = .ok (.iload 6, 2) := by decide +kernel
theorem dX13_findWay_48 : decode cX13_findWay 48 = .ok (.i2l, 1) := by decide +kernel
theorem dX13_findWay_49 : decode cX13_findWay 49 = .ok (.invokevirtual 486, 3) := by decide +kernel
theorem dX13_findWay_52 : decode cX13_findWay 52 = .ok (.aload_n 0, 1) := by decide +kernel
theorem dX13_findWay_53 : decode cX13_findWay 53 = .ok (.iload 7, 2) := by decide +kernel
theorem dX13_findWay_55 : decode cX13_findWay 55 = .ok (.ifCond .ne 8, 3) := by decide +kernel
theorem dX13_findWay_58 : decode cX13_findWay 58 = .ok (.iload_n 2, 1) := by decide +kernel
theorem dX13_findWay_59 : decode cX13_findWay 59 = .ok (.i2l, 1) := by decide +kernel
theorem dX13_findWay_60 : decode cX13_findWay 60 = .ok (.goto 5, 3) := by decide +kernel
theorem dX13_findWay_63 : decode cX13_findWay 63 = .ok (.iload_n 3, 1) := by decide +kernel
theorem dX13_findWay_64 : decode cX13_findWay 64 = .ok (.i2l, 1) := by decide +kernel
theorem dX13_findWay_65 : decode cX13_findWay 65 = .ok (.invokevirtual 486, 3) := by decide +kernel
theorem dX13_findWay_68 : decode cX13_findWay 68 = .ok (.aload_n 0, 1) := by decide +kernel
theorem dX13_findWay_69 : decode cX13_findWay 69 = .ok (.invokevirtual 475, 3) := by decide +kernel
theorem dX13_findWay_72 : decode cX13_findWay 72 = .ok (.aload_n 0, 1) := by decide +kernel
theorem dX13_findWay_73 : decode cX13_findWay 73 = .ok (.invokevirtual 478, 3) := by decide +kernel
theorem dX13_findWay_76 : decode cX13_findWay 76 = .ok (.aload_n 0, 1) := by decide +kernel
theorem dX13_findWay_77 : decode cX13_findWay 77 = .ok (.getfield 187, 3) := by decide +kernel
theorem dX13_findWay_80 : decode cX13_findWay 80 = .ok (.iconst 2, 1) := by decide +kernel
theorem dX13_findWay_81 : decode cX13_findWay 81 = .ok (.iload 6, 2) := by decide +kernel
theorem dX13_findWay_83 : decode cX13_findWay 83 = .ok (.imul, 1) := by decide +kernel
theorem dX13_findWay_84 : decode cX13_findWay 84 = .ok (.iload 7, 2) := by decide +kernel
theorem dX13_findWay_86 : decode cX13_findWay 86 = .ok (.iadd, 1) := by decide +kernel
theorem dX13_findWay_87 : decode cX13_findWay 87 = .ok (.aload_n 0, 1) := by decide +kernel
theorem dX13_findWay_88 : decode cX13_findWay 88 = .ok (.getfield 93, 3) := by decide +kernel
theorem dX13_findWay_91 : decode cX13_findWay 91 = .ok (.iconst 0, 1) := by decide +kernel
theorem dX13_findWay_92 : decode cX13_findWay 92 = .ok (.laload, 1) := by decide +kernel
theorem dX13_findWay_93 : decode cX13_findWay 93 = .ok (.lastore, 1) := by decide +kernel
theorem dX13_findWay_94 : decode cX13_findWay 94 = .ok (.aload_n 0, 1) := by decide +kernel
theorem dX13_findWay_95 : decode cX13_findWay 95 = .ok (.getfield 190, 3) := by decide +kernel
theorem dX13_findWay_98 : decode cX13_findWay 98 = .ok (.iconst 2, 1) := by decide +kernel
theorem dX13_findWay_99 : decode cX13_findWay 99 = .ok (.iload 6, 2) := by decide +kernel
theorem dX13_findWay_101 : decode cX13_findWay 101 = .ok (.imul, 1) := by decide +kernel
theorem dX13_findWay_102 : decode cX13_findWay 102 = .ok (.iload 7, 2) := by decide +kernel
theorem dX13_findWay_104 : decode cX13_findWay 104 = .ok (.iadd, 1) := by decide +kernel
theorem dX13_findWay_105 : decode cX13_findWay 105 = .ok (.aload_n 0, 1) := by decide +kernel
theorem dX13_findWay_106 : decode cX13_findWay 106 = .ok (.getfield 96, 3) := by decide +kernel
theorem dX13_findWay_109 : decode cX13_findWay 109 = .ok (.iconst 0, 1) := by decide +kernel
theorem dX13_findWay_110 : decode cX13_findWay 110 = .ok (.laload, 1) := by decide +kernel
theorem dX13_findWay_111 : decode cX13_findWay 111 = .ok (.lastore, 1) := by decide +kernel
theorem dX13_findWay_112 : decode cX13_findWay 112 = .ok (.iinc 7 1, 3) := by decide +kernel
theorem dX13_findWay_115 : decode cX13_findWay 115 = .ok (.goto (-89), 3) := by decide +kernel
theorem dX13_findWay_118 : decode cX13_findWay 118 = .ok (.iinc 6 1, 3) := by decide +kernel
theorem dX13_findWay_121 : decode cX13_findWay 121 = .ok (.goto (-105), 3) := by decide +kernel
theorem dX13_findWay_124 : decode cX13_findWay 124 = .ok (.aload_n 0, 1) := by decide +kernel
theorem dX13_findWay_125 : decode cX13_findWay 125 = .ok (.getfield 434, 3) := by decide +kernel
theorem dX13_findWay_128 : decode cX13_findWay 128 = .ok (.ifCond .ne 7, 3) := by decide +kernel
theorem dX13_findWay_131 : decode cX13_findWay 131 = .ok (.iconst 1, 1) := by decide +kernel
theorem dX13_findWay_132 : decode cX13_findWay 132 = .ok (.goto 4, 3) := by decide +kernel
theorem dX13_findWay_135 : decode cX13_findWay 135 = .ok (.iconst 0, 1) := by decide +kernel
theorem dX13_findWay_136 : decode cX13_findWay 136 = .ok (.istore 6, 2) := by decide +kernel
theorem dX13_findWay_138 : decode cX13_findWay 138 = .ok (.aload_n 0, 1) := by decide +kernel
theorem dX13_findWay_139 : decode cX13_findWay 139 = .ok (.iconst 0, 1) := by decide +kernel
theorem dX13_findWay_140 : decode cX13_findWay 140 = .ok (.putfield 434, 3) := by decide +kernel
theorem dX13_findWay_143 : decode cX13_findWay 143 = .ok (.aload_n 0, 1) := by decide +kernel
theorem dX13_findWay_144 : decode cX13_findWay 144 = .ok (.iconst 0, 1) := by decide +kernel
theorem dX13_findWay_145 : decode cX13_findWay 145 = .ok (.putfield 437, 3) := by decide +kernel
theorem dX13_findWay_148 : decode cX13_findWay 148 = .ok (.iload 6, 2) := by decide +kernel
theorem dX13_findWay_150 : decode cX13_findWay 150 = .ok (.ireturn, 1) := by decide +kernel
theorem dX13_sweep_0 : decode cX13_sweep 0 = .ok (.aload_n 0, 1) := by decide +kernel
theorem dX13_sweep_1 : decode cX13_sweep 1 = .ok (.iconst 0, 1) := by decide +kernel
theorem dX13_sweep_2 : decode cX13_sweep 2 = .ok (.putfield 193, 3) := by decide +kernel
theorem dX13_sweep_5 : decode cX13_sweep 5 = .ok (.aload_n 0, 1) := by decide +kernel
theorem dX13_sweep_6 : decode cX13_sweep 6 = .ok (.getfield 332, 3) := by decide +kernel
theorem dX13_sweep_9 : decode cX13_sweep 9 = .ok (.ifCond .eq 19, 3) := by decide +kernel
theorem dX13_sweep_12 : decode cX13_sweep 12 = .ok (.iload_n 1, 1) := by decide +kernel
theorem dX13_sweep_13 : decode cX13_sweep 13 = .ok (.i2l, 1) := by decide +kernel
theorem dX13_sweep_14 : decode cX13_sweep 14 = .ok (.lconst 0, 1) := by decide +kernel
theorem dX13_sweep_15 : decode cX13_sweep 15 = .ok (.aload_n 0, 1) := by decide +kernel
theorem dX13_sweep_16 : decode cX13_sweep 16 = .ok (.getfield 553, 3) := by decide +kernel
theorem dX13_sweep_19 : decode cX13_sweep 19 = .ok (.iconst 1, 1) := by decide +kernel
theorem dX13_sweep_20 : decode cX13_sweep 20 = .ok (.isub, 1) := by decide +kernel
theorem dX13_sweep_21 : decode cX13_sweep 21 = .ok (.i2l, 1) := by decide +kernel
theorem dX13_sweep_22 : decode cX13_sweep 22 = .ok (.invokestatic 204, 3) := by decide +kernel
theorem dX13_sweep_25 : decode cX13_sweep 25 = .ok (.ifCond .ne 7, 3) := by decide +kernel
theorem dX13_sweep_28 : decode cX13_sweep 28 = .ok (.ldc_w 813, 3) := by decide +kernel
theorem dX13_sweep_31 : decode cX13_sweep 31 = .ok (.ireturn, 1) := by decide +kernel
theorem dX13_sweep_32 : decode cX13_sweep 32 = .ok (.iload 4, 2) := by decide +kernel
theorem dX13_sweep_34 : decode cX13_sweep 34 = .ok (.i2l, 1) := by decide +kernel
theorem dX13_sweep_35 : decode cX13_sweep 35 = .ok (.lconst 0, 1) := by decide +kernel
theorem dX13_sweep_36 : decode cX13_sweep 36 = .ok (.ldc2_w 668, 3) := by decide +kernel
theorem dX13_sweep_39 : decode cX13_sweep 39 = .ok (.invokestatic 204, 3) := by decide +kernel
theorem dX13_sweep_42 : decode cX13_sweep 42 = .ok (.ifCond .eq 20, 3) := by decide +kernel
theorem dX13_sweep_45 : decode cX13_sweep 45 = .ok (.iload 5, 2) := by decide +kernel
theorem dX13_sweep_47 : decode cX13_sweep 47 = .ok (.ifCond .lt 15, 3) := by decide +kernel
theorem dX13_sweep_50 : decode cX13_sweep 50 = .ok (.aload_n 0, 1) := by decide +kernel
theorem dX13_sweep_51 : decode cX13_sweep 51 = .ok (.iload_n 1, 1) := by decide +kernel
theorem dX13_sweep_52 : decode cX13_sweep 52 = .ok (.iload_n 2, 1) := by decide +kernel
theorem dX13_sweep_53 : decode cX13_sweep 53 = .ok (.iload_n 3, 1) := by decide +kernel
theorem dX13_sweep_54 : decode cX13_sweep 54 = .ok (.iload 4, 2) := by decide +kernel
theorem dX13_sweep_56 : decode cX13_sweep 56 = .ok (.invokevirtual 814, 3) := by decide +kernel
theorem dX13_sweep_59 : decode cX13_sweep 59 = .ok (.ifCond .ne 6, 3) := by decide +kernel
theorem dX13_sweep_62 : decode cX13_sweep 62 = .ok (.ldc 208, 2) := by decide +kernel
theorem dX13_sweep_64 : decode cX13_sweep 64 = .ok (.ireturn, 1) := by decide +kernel
theorem dX13_sweep_65 : decode cX13_sweep 65 = .ok (.aload_n 0, 1) := by decide +kernel
theorem dX13_sweep_66 : decode cX13_sweep 66 = .ok (.getfield 325, 3) := by decide +kernel
theorem dX13_sweep_69 : decode cX13_sweep 69 = .ok (.ifCond .ne 6, 3) := by decide +kernel
theorem dX13_sweep_72 : decode cX13_sweep 72 = .ok (.ldc 199, 2) := by decide +kernel
theorem dX13_sweep_74 : decode cX13_sweep 74 = .ok (.ireturn, 1) := by decide +kernel
theorem dX13_sweep_75 : decode cX13_sweep 75 = .ok (.aload_n 0, 1) := by decide +kernel
theorem dX13_sweep_76 : decode cX13_sweep 76 = .ok (.getfield 568, 3) := by decide +kernel
theorem dX13_sweep_79 : decode cX13_sweep 79 = .ok (.iload 4, 2) := by decide +kernel
theorem dX13_sweep_81 : decode cX13_sweep 81 = .ok (.iadd, 1) := by decide +kernel
theorem dX13_sweep_82 : decode cX13_sweep 82 = .ok (.iconst 1, 1) := by decide +kernel
theorem dX13_sweep_83 : decode cX13_sweep 83 = .ok (.iadd, 1) := by decide +kernel
theorem dX13_sweep_84 : decode cX13_sweep 84 = .ok (.sipush 600, 3) := by decide +kernel
theorem dX13_sweep_87 : decode cX13_sweep 87 = .ok (.if_icmp .le 7, 3) := by decide +kernel
theorem dX13_sweep_90 : decode cX13_sweep 90 = .ok (.ldc_w 750, 3) := by decide +kernel
theorem dX13_sweep_93 : decode cX13_sweep 93 = .ok (.ireturn, 1) := by decide +kernel
theorem dX13_sweep_94 : decode cX13_sweep 94 = .ok (.aload_n 0, 1) := by decide +kernel
theorem dX13_sweep_95 : decode cX13_sweep 95 = .ok (.iconst 1, 1) := by decide +kernel
theorem dX13_sweep_96 : decode cX13_sweep 96 = .ok (.invokevirtual 818, 3) := by decide +kernel
theorem dX13_sweep_99 : decode cX13_sweep 99 = .ok (.iconst 0, 1) := by decide +kernel
theorem dX13_sweep_100 : decode cX13_sweep 100 = .ok (.istore 6, 2) := by decide +kernel
theorem dX13_sweep_102 : decode cX13_sweep 102 = .ok (.iconst 0, 1) := by decide +kernel
theorem dX13_sweep_103 : decode cX13_sweep 103 = .ok (.istore 7, 2) := by decide +kernel
theorem dX13_sweep_105 : decode cX13_sweep 105 = .ok (.iload 7, 2) := by decide +kernel
theorem dX13_sweep_107 : decode cX13_sweep 107 = .ok (.iload 4, 2) := by decide +kernel
theorem dX13_sweep_109 : decode cX13_sweep 109 = .ok (.if_icmp .gt 92, 3) := by decide +kernel
theorem dX13_sweep_112 : decode cX13_sweep 112 = .ok (.aload_n 0, 1) := by decide +kernel
theorem dX13_sweep_113 : decode cX13_sweep 113 = .ok (.iload_n 1, 1) := by decide +kernel
theorem dX13_sweep_114 : decode cX13_sweep 114 = .ok (.aload_n 0, 1) := by decide +kernel
theorem dX13_sweep_115 : decode cX13_sweep 115 = .ok (.getfield 187, 3) := by decide +kernel
theorem dX13_sweep_118 : decode cX13_sweep 118 = .ok (.iconst 2, 1) := by decide +kernel
theorem dX13_sweep_119 : decode cX13_sweep 119 = .ok (.iload 7, 2) := by decide +kernel
theorem dX13_sweep_121 : decode cX13_sweep 121 = .ok (.imul, 1) := by decide +kernel
theorem dX13_sweep_122 : decode cX13_sweep 122 = .ok (.laload, 1) := by decide +kernel
theorem dX13_sweep_123 : decode cX13_sweep 123 = .ok (.aload_n 0, 1) := by decide +kernel
theorem dX13_sweep_124 : decode cX13_sweep 124 = .ok (.getfield 190, 3) := by decide +kernel
theorem dX13_sweep_127 : decode cX13_sweep 127 = .ok (.iconst 2, 1) := by decide +kernel
theorem dX13_sweep_128 : decode cX13_sweep 128 = .ok (.iload 7, 2) := by decide +kernel
theorem dX13_sweep_130 : decode cX13_sweep 130 = .ok (.imul, 1) := by decide +kernel
theorem dX13_sweep_131 : decode cX13_sweep 131 = .ok (.laload, 1) := by decide +kernel
theorem dX13_sweep_132 : decode cX13_sweep 132 = .ok (.aload_n 0, 1) := by decide +kernel
theorem dX13_sweep_133 : decode cX13_sweep 133 = .ok (.getfield 187, 3) := by decide +kernel
theorem dX13_sweep_136 : decode cX13_sweep 136 = .ok (.iconst 2, 1) := by decide +kernel
theorem dX13_sweep_137 : decode cX13_sweep 137 = .ok (.iload 7, 2) := by decide +kernel
theorem dX13_sweep_139 : decode cX13_sweep 139 = .ok (.imul, 1) := by decide +kernel
theorem dX13_sweep_140 : decode cX13_sweep 140 = .ok (.iconst 1, 1) := by decide +kernel
theorem dX13_sweep_141 : decode cX13_sweep 141 = .ok (.iadd, 1) := by decide +kernel
theorem dX13_sweep_142 : decode cX13_sweep 142 = .ok (.laload, 1) := by decide +kernel
theorem dX13_sweep_143 : decode cX13_sweep 143 = .ok (.aload_n 0, 1) := by decide +kernel
theorem dX13_sweep_144 : decode cX13_sweep 144 = .ok (.getfield 190, 3) := by decide +kernel
theorem dX13_sweep_147 : decode cX13_sweep 147 = .ok (.iconst 2, 1) := by decide +kernel
theorem dX13_sweep_148 : decode cX13_sweep 148 = .ok (.iload 7, 2) := by decide +kernel
theorem dX13_sweep_150 : decode cX13_sweep 150 = .ok (.imul, 1) := by decide +kernel
theorem dX13_sweep_151 : decode cX13_sweep 151 = .ok (.iconst 1, 1) := by decide +kernel
theorem dX13_sweep_152 : decode cX13_sweep 152 = .ok (.iadd, 1) := by decide +kernel
theorem dX13_sweep_153 : decode cX13_sweep 153 = .ok (.laload, 1) := by decide +kernel
theorem dX13_sweep_154 : decode cX13_sweep 154 = .ok (.invokevirtual 746, 3) := by decide +kernel
theorem dX13_sweep_157 : decode cX13_sweep 157 = .ok (.aload_n 0, 1) := by decide +kernel
theorem dX13_sweep_158 : decode cX13_sweep 158 = .ok (.invokevirtual 751, 3) := by decide +kernel
theorem dX13_sweep_161 : decode cX13_sweep 161 = .ok (.aload_n 0, 1) := by decide +kernel
theorem dX13_sweep_162 : decode cX13_sweep 162 = .ok (.getfield 175, 3) := by decide +kernel
theorem dX13_sweep_165 : decode cX13_sweep 165 = .ok (.iload 7, 2) := by decide +kernel
theorem dX13_sweep_167 : decode cX13_sweep 167 = .ok (.aload_n 0, 1) := by decide +kernel
theorem dX13_sweep_168 : decode cX13_sweep 168 = .ok (.iload 5, 2) := by decide +kernel
theorem dX13_sweep_170 : decode cX13_sweep 170 = .ok (.invokevirtual 822, 3) := by decide +kernel
theorem dX13_sweep_173 : decode cX13_sweep 173 = .ok (.iastore, 1) := by decide +kernel
theorem dX13_sweep_174 : decode cX13_sweep 174 = .ok (.iload 6, 2) := by decide +kernel
theorem dX13_sweep_176 : decode cX13_sweep 176 = .ok (.aload_n 0, 1) := by decide +kernel
theorem dX13_sweep_177 : decode cX13_sweep 177 = .ok (.getfield 175, 3) := by decide +kernel
theorem dX13_sweep_180 : decode cX13_sweep 180 = .ok (.iload 7, 2) := by decide +kernel
theorem dX13_sweep_182 : decode cX13_sweep 182 = .ok (.iaload, 1) := by decide +kernel
theorem dX13_sweep_183 : decode cX13_sweep 183 = .ok (.iconst 1, 1) := by decide +kernel
theorem dX13_sweep_184 : decode cX13_sweep 184 = .ok (.if_icmp .ne 7, 3) := by decide +kernel
theorem dX13_sweep_187 : decode cX13_sweep 187 = .ok (.iconst 1, 1) := by decide +kernel
theorem dX13_sweep_188 : decode cX13_sweep 188 = .ok (.goto 4, 3) := by decide +kernel
theorem dX13_sweep_191 : decode cX13_sweep 191 = .ok (.iconst 0, 1) := by decide +kernel
theorem dX13_sweep_192 : decode cX13_sweep 192 = .ok (.iadd, 1) := by decide +kernel
theorem dX13_sweep_193 : decode cX13_sweep 193 = .ok (.istore 6, 2) := by decide +kernel
theorem dX13_sweep_195 : decode cX13_sweep 195 = .ok (.iinc 7 1, 3) := by decide +kernel
theorem dX13_sweep_198 : decode cX13_sweep 198 = .ok (.goto (-93), 3) := by decide +kernel
theorem dX13_sweep_201 : decode cX13_sweep 201 = .ok (.aload_n 0, 1) := by decide +kernel
theorem dX13_sweep_202 : decode cX13_sweep 202 = .ok (.iload 4, 2) := by decide +kernel
theorem dX13_sweep_204 : decode cX13_sweep 204 = .ok (.iconst 1, 1) := by decide +kernel
theorem dX13_sweep_205 : decode cX13_sweep 205 = .ok (.iadd, 1) := by decide +kernel
theorem dX13_sweep_206 : decode cX13_sweep 206 = .ok (.putfield 335, 3) := by decide +kernel
theorem dX13_sweep_209 : decode cX13_sweep 209 = .ok (.aload_n 0, 1) := by decide +kernel
theorem dX13_sweep_210 : decode cX13_sweep 210 = .ok (.iconst 0, 1) := by decide +kernel
theorem dX13_sweep_211 : decode cX13_sweep 211 = .ok (.invokevirtual 818, 3) := by decide +kernel
theorem dX13_sweep_214 : decode cX13_sweep 214 = .ok (.iload 6, 2) := by decide +kernel
theorem dX13_sweep_216 : decode cX13_sweep 216 = .ok (.ireturn, 1) := by decide +kernel
theorem dX13_swept_0 : decode cX13_swept 0 = .ok (.aload_n 0, 1) := by decide +kernel
theorem dX13_swept_1 : decode cX13_swept 1 = .ok (.iconst 0, 1) := by decide +kernel
theorem dX13_swept_2 : decode cX13_swept 2 = .ok (.putfield 193, 3) := by decide +kernel
theorem dX13_swept_5 : decode cX13_swept 5 = .ok (.iload_n 1, 1) := by decide +kernel
theorem dX13_swept_6 : decode cX13_swept 6 = .ok (.i2l, 1) := by decide +kernel
theorem dX13_swept_7 : decode cX13_swept 7 = .ok (.lconst 0, 1) := by decide +kernel
theorem dX13_swept_8 : decode cX13_swept 8 = .ok (.aload_n 0, 1) := by decide +kernel
theorem dX13_swept_9 : decode cX13_swept 9 = .ok (.getfield 335, 3) := by decide +kernel
theorem dX13_swept_12 : decode cX13_swept 12 = .ok (.iconst 1, 1) := by decide +kernel
theorem dX13_swept_13 : decode cX13_swept 13 = .ok (.isub, 1) := by decide +kernel
theorem dX13_swept_14 : decode cX13_swept 14 = .ok (.i2l, 1) := by decide +kernel
theorem dX13_swept_15 : decode cX13_swept 15 = .ok (.invokestatic 204, 3) := by decide +kernel
theorem dX13_swept_18 : decode cX13_swept 18 = .ok (.ifCond .eq 12, 3) := by decide +kernel
theorem dX13_swept_21 : decode cX13_swept 21 = .ok (.aload_n 0, 1) := by decide +kernel
theorem dX13_swept_22 : decode cX13_swept 22 = .ok (.getfield 175, 3) := by decide +kernel
theorem dX13_swept_25 : decode cX13_swept 25 = .ok (.iload_n 1, 1) := by decide +kernel
theorem dX13_swept_26 : decode cX13_swept 26 = .ok (.iaload, 1) := by decide +kernel
theorem dX13_swept_27 : decode cX13_swept 27 = .ok (.goto 4, 3) := by decide +kernel
theorem dX13_swept_30 : decode cX13_swept 30 = .ok (.iconst (-1), 1) := by decide +kernel
theorem dX13_swept_31 : decode cX13_swept 31 = .ok (.ireturn, 1) := by decide +kernel
theorem dX13_tried_0 : decode cX13_tried 0 = .ok (.aload_n 0, 1) := by decide +kernel
theorem dX13_tried_1 : decode cX13_tried 1 = .ok (.iconst 0, 1) := by decide +kernel
theorem dX13_tried_2 : decode cX13_tried 2 = .ok (.putfield 193, 3) := by decide +kernel
theorem dX13_tried_5 : decode cX13_tried 5 = .ok (.iload_n 2, 1) := by decide +kernel
theorem dX13_tried_6 : decode cX13_tried 6 = .ok (.i2l, 1) := by decide +kernel
theorem dX13_tried_7 : decode cX13_tried 7 = .ok (.lconst 1, 1) := by decide +kernel
theorem dX13_tried_8 : decode cX13_tried 8 = .ok (.ldc2_w 668, 3) := by decide +kernel
theorem dX13_tried_11 : decode cX13_tried 11 = .ok (.invokestatic 204, 3) := by decide +kernel
theorem dX13_tried_14 : decode cX13_tried 14 = .ok (.ifCond .eq 7, 3) := by decide +kernel
theorem dX13_tried_17 : decode cX13_tried 17 = .ok (.iload_n 3, 1) := by decide +kernel
theorem dX13_tried_18 : decode cX13_tried 18 = .ok (.ifCond .ge 6, 3) := by decide +kernel
theorem dX13_tried_21 : decode cX13_tried 21 = .ok (.ldc 208, 2) := by decide +kernel
theorem dX13_tried_23 : decode cX13_tried 23 = .ok (.ireturn, 1) := by decide +kernel
theorem dX13_tried_24 : decode cX13_tried 24 = .ok (.aload_n 0, 1) := by decide +kernel
theorem dX13_tried_25 : decode cX13_tried 25 = .ok (.getfield 325, 3) := by decide +kernel
theorem dX13_tried_28 : decode cX13_tried 28 = .ok (.ifCond .ne 6, 3) := by decide +kernel
theorem dX13_tried_31 : decode cX13_tried 31 = .ok (.ldc 199, 2) := by decide +kernel
theorem dX13_tried_33 : decode cX13_tried 33 = .ok (.ireturn, 1) := by decide +kernel
theorem dX13_tried_34 : decode cX13_tried 34 = .ok (.aload_n 0, 1) := by decide +kernel
theorem dX13_tried_35 : decode cX13_tried 35 = .ok (.getfield 568, 3) := by decide +kernel
theorem dX13_tried_38 : decode cX13_tried 38 = .ok (.iload_n 2, 1) := by decide +kernel
theorem dX13_tried_39 : decode cX13_tried 39 = .ok (.iadd, 1) := by decide +kernel
theorem dX13_tried_40 : decode cX13_tried 40 = .ok (.sipush 600, 3) := by decide +kernel
theorem dX13_tried_43 : decode cX13_tried 43 = .ok (.if_icmp .le 7, 3) := by decide +kernel
theorem dX13_tried_46 : decode cX13_tried 46 = .ok (.ldc_w 750, 3) := by decide +kernel
theorem dX13_tried_49 : decode cX13_tried 49 = .ok (.ireturn, 1) := by decide +kernel
theorem dX13_tried_50 : decode cX13_tried 50 = .ok (.aload_n 0, 1) := by decide +kernel
theorem dX13_tried_51 : decode cX13_tried 51 = .ok (.iconst 1, 1) := by decide +kernel
theorem dX13_tried_52 : decode cX13_tried 52 = .ok (.invokevirtual 818, 3) := by decide +kernel
theorem dX13_tried_55 : decode cX13_tried 55 = .ok (.iload_n 1, 1) := by decide +kernel
theorem dX13_tried_56 : decode cX13_tried 56 = .ok (.istore 4, 2) := by decide +kernel
theorem dX13_tried_58 : decode cX13_tried 58 = .ok (.iconst 0, 1) := by decide +kernel
theorem dX13_tried_59 : decode cX13_tried 59 = .ok (.istore 5, 2) := by decide +kernel
theorem dX13_tried_61 : decode cX13_tried 61 = .ok (.iconst (-1), 1) := by decide +kernel
theorem dX13_tried_62 : decode cX13_tried 62 = .ok (.istore 6, 2) := by decide +kernel
theorem dX13_tried_64 : decode cX13_tried 64 = .ok (.iconst 0, 1) := by decide +kernel
theorem dX13_tried_65 : decode cX13_tried 65 = .ok (.istore 7, 2) := by decide +kernel
theorem dX13_tried_67 : decode cX13_tried 67 = .ok (.iload 7, 2) := by decide +kernel
theorem dX13_tried_69 : decode cX13_tried 69 = .ok (.iload_n 2, 1) := by decide +kernel
theorem dX13_tried_70 : decode cX13_tried 70 = .ok (.if_icmp .ge 131, 3) := by decide +kernel
theorem dX13_tried_73 : decode cX13_tried 73 = .ok (.iconst 0, 1) := by decide +kernel
theorem dX13_tried_74 : decode cX13_tried 74 = .ok (.istore 8, 2) := by decide +kernel
theorem dX13_tried_76 : decode cX13_tried 76 = .ok (.iload 8, 2) := by decide +kernel
theorem dX13_tried_78 : decode cX13_tried 78 = .ok (.bipush 12, 2) := by decide +kernel
theorem dX13_tried_80 : decode cX13_tried 80 = .ok (.if_icmp .ge 69, 3) := by decide +kernel
theorem dX13_tried_83 : decode cX13_tried 83 = .ok (.iload 4, 2) := by decide +kernel
theorem dX13_tried_85 : decode cX13_tried 85 = .ok (.ldc_w 825, 3) := by decide +kernel
theorem dX13_tried_88 : decode cX13_tried 88 = .ok (.imul, 1) := by decide +kernel
theorem dX13_tried_89 : decode cX13_tried 89 = .ok (.sipush 12345, 3) := by decide +kernel
theorem dX13_tried_92 : decode cX13_tried 92 = .ok (.iadd, 1) := by decide +kernel
theorem dX13_tried_93 : decode cX13_tried 93 = .ok (.istore 4, 2) := by decide +kernel
theorem dX13_tried_95 : decode cX13_tried 95 = .ok (.iload 4, 2) := by decide +kernel
theorem dX13_tried_97 : decode cX13_tried 97 = .ok (.bipush 16, 2) := by decide +kernel
theorem dX13_tried_99 : decode cX13_tried 99 = .ok (.iushr, 1) := by decide +kernel
theorem dX13_tried_100 : decode cX13_tried 100 = .ok (.bipush 41, 2) := by decide +kernel
theorem dX13_tried_102 : decode cX13_tried 102 = .ok (.irem, 1) := by decide +kernel
theorem dX13_tried_103 : decode cX13_tried 103 = .ok (.bipush 20, 2) := by decide +kernel
theorem dX13_tried_105 : decode cX13_tried 105 = .ok (.isub, 1) := by decide +kernel
theorem dX13_tried_106 : decode cX13_tried 106 = .ok (.i2l, 1) := by decide +kernel
theorem dX13_tried_107 : decode cX13_tried 107 = .ok (.lstore 9, 2) := by decide +kernel
theorem dX13_tried_109 : decode cX13_tried 109 = .ok (.iload 4, 2) := by decide +kernel
theorem dX13_tried_111 : decode cX13_tried 111 = .ok (.ldc_w 825, 3) := by decide +kernel
theorem dX13_tried_114 : decode cX13_tried 114 = .ok (.imul, 1) := by decide +kernel
theorem dX13_tried_115 : decode cX13_tried 115 = .ok (.sipush 12345, 3) := by decide +kernel
theorem dX13_tried_118 : decode cX13_tried 118 = .ok (.iadd, 1) := by decide +kernel
theorem dX13_tried_119 : decode cX13_tried 119 = .ok (.istore 4, 2) := by decide +kernel
theorem dX13_tried_121 : decode cX13_tried 121 = .ok (.aload_n 0, 1) := by decide +kernel
theorem dX13_tried_122 : decode cX13_tried 122 = .ok (.iload 8, 2) := by decide +kernel
theorem dX13_tried_124 : decode cX13_tried 124 = .ok (.lload 9, 2) := by decide +kernel
theorem dX13_tried_126 : decode cX13_tried 126 = .ok (.lconst 1, 1) := by decide +kernel
theorem dX13_tried_127 : decode cX13_tried 127 = .ok (.iload 4, 2) := by decide +kernel
theorem dX13_tried_129 : decode cX13_tried 129 = .ok (.bipush 16, 2) := by decide +kernel
theorem dX13_tried_131 : decode cX13_tried 131 = .ok (.iushr, 1) := by decide +kernel
theorem dX13_tried_132 : decode cX13_tried 132 = .ok (.bipush 41, 2) := by decide +kernel
theorem dX13_tried_134 : decode cX13_tried 134 = .ok (.irem, 1) := by decide +kernel
theorem dX13_tried_135 : decode cX13_tried 135 = .ok (.bipush 20, 2) := by decide +kernel
theorem dX13_tried_137 : decode cX13_tried 137 = .ok (.isub, 1) := by decide +kernel
theorem dX13_tried_138 : decode cX13_tried 138 = .ok (.i2l, 1) := by decide +kernel
theorem dX13_tried_139 : decode cX13_tried 139 = .ok (.lconst 1, 1) := by decide +kernel
theorem dX13_tried_140 : decode cX13_tried 140 = .ok (.invokevirtual 746, 3) := by decide +kernel
theorem dX13_tried_143 : decode cX13_tried 143 = .ok (.iinc 8 1, 3) := by decide +kernel
theorem dX13_tried_146 : decode cX13_tried 146 = .ok (.goto (-70), 3) := by decide +kernel
theorem dX13_tried_149 : decode cX13_tried 149 = .ok (.aload_n 0, 1) := by decide +kernel
theorem dX13_tried_150 : decode cX13_tried 150 = .ok (.invokevirtual 751, 3) := by decide +kernel
theorem dX13_tried_153 : decode cX13_tried 153 = .ok (.aload_n 0, 1) := by decide +kernel
theorem dX13_tried_154 : decode cX13_tried 154 = .ok (.iload_n 3, 1) := by decide +kernel
theorem dX13_tried_155 : decode cX13_tried 155 = .ok (.invokevirtual 822, 3) := by decide +kernel
theorem dX13_tried_158 : decode cX13_tried 158 = .ok (.istore 8, 2) := by decide +kernel
theorem dX13_tried_160 : decode cX13_tried 160 = .ok (.iload 5, 2) := by decide +kernel
theorem dX13_tried_162 : decode cX13_tried 162 = .ok (.iload 8, 2) := by decide +kernel
theorem dX13_tried_164 : decode cX13_tried 164 = .ok (.iconst 1, 1) := by decide +kernel
theorem dX13_tried_165 : decode cX13_tried 165 = .ok (.if_icmp .ne 7, 3) := by decide +kernel
theorem dX13_tried_168 : decode cX13_tried 168 = .ok (.iconst 1, 1) := by decide +kernel
theorem dX13_tried_169 : decode cX13_tried 169 = .ok (.goto 4, 3) := by decide +kernel
theorem dX13_tried_172 : decode cX13_tried 172 = .ok (.iconst 0, 1) := by decide +kernel
theorem dX13_tried_173 : decode cX13_tried 173 = .ok (.iadd, 1) := by decide +kernel
theorem dX13_tried_174 : decode cX13_tried 174 = .ok (.istore 5, 2) := by decide +kernel
theorem dX13_tried_176 : decode cX13_tried 176 = .ok (.iload 8, 2) := by decide +kernel
theorem dX13_tried_178 : decode cX13_tried 178 = .ok (.ifCond .ne 13, 3) := by decide +kernel
theorem dX13_tried_181 : decode cX13_tried 181 = .ok (.iload 6, 2) := by decide +kernel
theorem dX13_tried_183 : decode cX13_tried 183 = .ok (.ifCond .ge 8, 3) := by decide +kernel
theorem dX13_tried_186 : decode cX13_tried 186 = .ok (.iload 7, 2) := by decide +kernel
theorem dX13_tried_188 : decode cX13_tried 188 = .ok (.goto 5, 3) := by decide +kernel
theorem dX13_tried_191 : decode cX13_tried 191 = .ok (.iload 6, 2) := by decide +kernel
theorem dX13_tried_193 : decode cX13_tried 193 = .ok (.istore 6, 2) := by decide +kernel
theorem dX13_tried_195 : decode cX13_tried 195 = .ok (.iinc 7 1, 3) := by decide +kernel
theorem dX13_tried_198 : decode cX13_tried 198 = .ok (.goto (-131), 3) := by decide +kernel
theorem dX13_tried_201 : decode cX13_tried 201 = .ok (.aload_n 0, 1) := by decide +kernel
theorem dX13_tried_202 : decode cX13_tried 202 = .ok (.iconst 0, 1) := by decide +kernel
theorem dX13_tried_203 : decode cX13_tried 203 = .ok (.invokevirtual 818, 3) := by decide +kernel
theorem dX13_tried_206 : decode cX13_tried 206 = .ok (.iload 6, 2) := by decide +kernel
theorem dX13_tried_208 : decode cX13_tried 208 = .ok (.ifCond .ge 8, 3) := by decide +kernel
theorem dX13_tried_211 : decode cX13_tried 211 = .ok (.iload 5, 2) := by decide +kernel
theorem dX13_tried_213 : decode cX13_tried 213 = .ok (.goto 7, 3) := by decide +kernel
theorem dX13_tried_216 : decode cX13_tried 216 = .ok (.iconst (-1), 1) := by decide +kernel
theorem dX13_tried_217 : decode cX13_tried 217 = .ok (.iload 6, 2) := by decide +kernel
theorem dX13_tried_219 : decode cX13_tried 219 = .ok (.isub, 1) := by decide +kernel
theorem dX13_tried_220 : decode cX13_tried 220 = .ok (.ireturn, 1) := by decide +kernel
