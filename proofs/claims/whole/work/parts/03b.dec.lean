theorem dX8_feed_1 : decode cX8_feed 1 = .ok (.getfield 12, 3) := by decide +kernel
theorem dX8_feed_4 : decode cX8_feed 4 = .ok (.getfield 105, 3) := by decide +kernel
theorem dX8_feed_7 : decode cX8_feed 7 = .ok (.bipush 20, 2) := by decide +kernel
theorem dX8_feed_9 : decode cX8_feed 9 = .ok (.iadd, 1) := by decide +kernel
theorem dX8_feed_10 : decode cX8_feed 10 = .ok (.sipush 300, 3) := by decide +kernel
theorem dX8_feed_13 : decode cX8_feed 13 = .ok (.if_icmp .le 5, 3) := by decide +kernel
theorem dX8_feed_16 : decode cX8_feed 16 = .ok (.iconst (-1), 1) := by decide +kernel
theorem dX8_feed_17 : decode cX8_feed 17 = .ok (.ireturn, 1) := by decide +kernel
theorem dX8_feed_18 : decode cX8_feed 18 = .ok (.aload_n 0, 1) := by decide +kernel
theorem dX8_feed_19 : decode cX8_feed 19 = .ok (.getfield 12, 3) := by decide +kernel
theorem dX8_feed_22 : decode cX8_feed 22 = .ok (.iload_n 1, 1) := by decide +kernel
theorem dX8_feed_23 : decode cX8_feed 23 = .ok (.invokevirtual 106, 3) := by decide +kernel
theorem dX8_feed_26 : decode cX8_feed 26 = .ok (.aload_n 0, 1) := by decide +kernel
theorem dX8_feed_27 : decode cX8_feed 27 = .ok (.getfield 12, 3) := by decide +kernel
theorem dX8_feed_30 : decode cX8_feed 30 = .ok (.iload_n 2, 1) := by decide +kernel
theorem dX8_feed_31 : decode cX8_feed 31 = .ok (.invokevirtual 106, 3) := by decide +kernel
theorem dX8_feed_34 : decode cX8_feed 34 = .ok (.aload_n 0, 1) := by decide +kernel
theorem dX8_feed_35 : decode cX8_feed 35 = .ok (.getfield 12, 3) := by decide +kernel
theorem dX8_feed_38 : decode cX8_feed 38 = .ok (.iload_n 3, 1) := by decide +kernel
theorem dX8_feed_39 : decode cX8_feed 39 = .ok (.invokevirtual 106, 3) := by decide +kernel
theorem dX8_feed_42 : decode cX8_feed 42 = .ok (.aload_n 0, 1) := by decide +kernel
theorem dX8_feed_43 : decode cX8_feed 43 = .ok (.getfield 12, 3) := by decide +kernel
theorem dX8_feed_46 : decode cX8_feed 46 = .ok (.iload 4, 2) := by decide +kernel
theorem dX8_feed_48 : decode cX8_feed 48 = .ok (.invokevirtual 106, 3) := by decide +kernel
theorem dX8_feed_51 : decode cX8_feed 51 = .ok (.aload_n 0, 1) := by decide +kernel
theorem dX8_feed_52 : decode cX8_feed 52 = .ok (.getfield 12, 3) := by decide +kernel
theorem dX8_feed_55 : decode cX8_feed 55 = .ok (.iload 5, 2) := by decide +kernel
theorem dX8_feed_57 : decode cX8_feed 57 = .ok (.invokevirtual 106, 3) := by decide +kernel
theorem dX8_feed_60 : decode cX8_feed 60 = .ok (.aload_n 0, 1) := by decide +kernel
theorem dX8_feed_61 : decode cX8_feed 61 = .ok (.getfield 12, 3) := by decide +kernel
theorem dX8_feed_64 : decode cX8_feed 64 = .ok (.getfield 105, 3) := by decide +kernel
theorem dX8_feed_67 : decode cX8_feed 67 = .ok (.ireturn, 1) := by decide +kernel
theorem dX8_lines_0 : decode cX8_lines 0 = .ok (.aload_n 0, 1) := by decide +kernel
theorem dX8_lines_1 : decode cX8_lines 1 = .ok (.getfield 19, 3) := by decide +kernel
theorem dX8_lines_4 : decode cX8_lines 4 = .ok (.iload_n 1, 1) := by decide +kernel
theorem dX8_lines_5 : decode cX8_lines 5 = .ok (.invokevirtual 91, 3) := by decide +kernel
theorem dX8_lines_8 : decode cX8_lines 8 = .ok (.ifCond .ne 9, 3) := by decide +kernel
theorem dX8_lines_11 : decode cX8_lines 11 = .ok (.aload_n 0, 1) := by decide +kernel
theorem dX8_lines_12 : decode cX8_lines 12 = .ok (.iconst 1, 1) := by decide +kernel
theorem dX8_lines_13 : decode cX8_lines 13 = .ok (.invokevirtual 78, 3) := by decide +kernel
theorem dX8_lines_16 : decode cX8_lines 16 = .ok (.ireturn, 1) := by decide +kernel
theorem dX8_lines_17 : decode cX8_lines 17 = .ok (.iload_n 2, 1) := by decide +kernel
theorem dX8_lines_18 : decode cX8_lines 18 = .ok (.ifCond .lt 14, 3) := by decide +kernel
theorem dX8_lines_21 : decode cX8_lines 21 = .ok (.iload_n 2, 1) := by decide +kernel
theorem dX8_lines_22 : decode cX8_lines 22 = .ok (.aload_n 0, 1) := by decide +kernel
theorem dX8_lines_23 : decode cX8_lines 23 = .ok (.getfield 12, 3) := by decide +kernel
theorem dX8_lines_26 : decode cX8_lines 26 = .ok (.getfield 105, 3) := by decide +kernel
theorem dX8_lines_29 : decode cX8_lines 29 = .ok (.if_icmp .le 9, 3) := by decide +kernel
theorem dX8_lines_32 : decode cX8_lines 32 = .ok (.aload_n 0, 1) := by decide +kernel
theorem dX8_lines_33 : decode cX8_lines 33 = .ok (.iconst 2, 1) := by decide +kernel
theorem dX8_lines_34 : decode cX8_lines 34 = .ok (.invokevirtual 78, 3) := by decide +kernel
theorem dX8_lines_37 : decode cX8_lines 37 = .ok (.ireturn, 1) := by decide +kernel
theorem dX8_lines_38 : decode cX8_lines 38 = .ok (.aload_n 0, 1) := by decide +kernel
theorem dX8_lines_39 : decode cX8_lines 39 = .ok (.getfield 28, 3) := by decide +kernel
theorem dX8_lines_42 : decode cX8_lines 42 = .ok (.iload_n 2, 1) := by decide +kernel
theorem dX8_lines_43 : decode cX8_lines 43 = .ok (.aload_n 0, 1) := by decide +kernel
theorem dX8_lines_44 : decode cX8_lines 44 = .ok (.getfield 19, 3) := by decide +kernel
theorem dX8_lines_47 : decode cX8_lines 47 = .ok (.getfield 82, 3) := by decide +kernel
theorem dX8_lines_50 : decode cX8_lines 50 = .ok (.invokevirtual 110, 3) := by decide +kernel
theorem dX8_lines_53 : decode cX8_lines 53 = .ok (.istore_n 3, 1) := by decide +kernel
theorem dX8_lines_54 : decode cX8_lines 54 = .ok (.aload_n 0, 1) := by decide +kernel
theorem dX8_lines_55 : decode cX8_lines 55 = .ok (.getfield 12, 3) := by decide +kernel
theorem dX8_lines_58 : decode cX8_lines 58 = .ok (.iconst 0, 1) := by decide +kernel
theorem dX8_lines_59 : decode cX8_lines 59 = .ok (.putfield 105, 3) := by decide +kernel
theorem dX8_lines_62 : decode cX8_lines 62 = .ok (.iload_n 3, 1) := by decide +kernel
theorem dX8_lines_63 : decode cX8_lines 63 = .ok (.ifCond .ne 9, 3) := by decide +kernel
theorem dX8_lines_66 : decode cX8_lines 66 = .ok (.aload_n 0, 1) := by decide +kernel
theorem dX8_lines_67 : decode cX8_lines 67 = .ok (.iconst 4, 1) := by decide +kernel
theorem dX8_lines_68 : decode cX8_lines 68 = .ok (.invokevirtual 78, 3) := by decide +kernel
theorem dX8_lines_71 : decode cX8_lines 71 = .ok (.ireturn, 1) := by decide +kernel
theorem dX8_lines_72 : decode cX8_lines 72 = .ok (.aload_n 0, 1) := by decide +kernel
theorem dX8_lines_73 : decode cX8_lines 73 = .ok (.getfield 19, 3) := by decide +kernel
theorem dX8_lines_76 : decode cX8_lines 76 = .ok (.getfield 114, 3) := by decide +kernel
theorem dX8_lines_79 : decode cX8_lines 79 = .ok (.iload_n 1, 1) := by decide +kernel
theorem dX8_lines_80 : decode cX8_lines 80 = .ok (.aaload, 1) := by decide +kernel
theorem dX8_lines_81 : decode cX8_lines 81 = .ok (.aload_n 0, 1) := by decide +kernel
theorem dX8_lines_82 : decode cX8_lines 82 = .ok (.getfield 28, 3) := by decide +kernel
theorem dX8_lines_85 : decode cX8_lines 85 = .ok (.getfield 118, 3) := by decide +kernel
theorem dX8_lines_88 : decode cX8_lines 88 = .ok (.invokevirtual 122, 3) := by decide +kernel
theorem dX8_lines_91 : decode cX8_lines 91 = .ok (.aload_n 0, 1) := by decide +kernel
theorem dX8_lines_92 : decode cX8_lines 92 = .ok (.iconst 1, 1) := by decide +kernel
theorem dX8_lines_93 : decode cX8_lines 93 = .ok (.putfield 70, 3) := by decide +kernel
theorem dX8_lines_96 : decode cX8_lines 96 = .ok (.aload_n 0, 1) := by decide +kernel
theorem dX8_lines_97 : decode cX8_lines 97 = .ok (.aload_n 0, 1) := by decide +kernel
theorem dX8_lines_98 : decode cX8_lines 98 = .ok (.getfield 19, 3) := by decide +kernel
theorem dX8_lines_101 : decode cX8_lines 101 = .ok (.getfield 114, 3) := by decide +kernel
theorem dX8_lines_104 : decode cX8_lines 104 = .ok (.iload_n 1, 1) := by decide +kernel
theorem dX8_lines_105 : decode cX8_lines 105 = .ok (.aaload, 1) := by decide +kernel
theorem dX8_lines_106 : decode cX8_lines 106 = .ok (.getfield 128, 3) := by decide +kernel
theorem dX8_lines_109 : decode cX8_lines 109 = .ok (.invokevirtual 88, 3) := by decide +kernel
theorem dX8_lines_112 : decode cX8_lines 112 = .ok (.ireturn, 1) := by decide +kernel
theorem dX8_fault_0 : decode cX8_fault 0 = .ok (.aload_n 0, 1) := by decide +kernel
theorem dX8_fault_1 : decode cX8_fault 1 = .ok (.getfield 28, 3) := by decide +kernel
theorem dX8_fault_4 : decode cX8_fault 4 = .ok (.getfield 129, 3) := by decide +kernel
theorem dX8_fault_7 : decode cX8_fault 7 = .ok (.ireturn, 1) := by decide +kernel
theorem dX8_where_0 : decode cX8_where 0 = .ok (.aload_n 0, 1) := by decide +kernel
theorem dX8_where_1 : decode cX8_where 1 = .ok (.getfield 66, 3) := by decide +kernel
theorem dX8_where_4 : decode cX8_where 4 = .ok (.iconst 4, 1) := by decide +kernel
theorem dX8_where_5 : decode cX8_where 5 = .ok (.if_icmp .ne 13, 3) := by decide +kernel
theorem dX8_where_8 : decode cX8_where 8 = .ok (.aload_n 0, 1) := by decide +kernel
theorem dX8_where_9 : decode cX8_where 9 = .ok (.getfield 28, 3) := by decide +kernel
theorem dX8_where_12 : decode cX8_where 12 = .ok (.getfield 132, 3) := by decide +kernel
theorem dX8_where_15 : decode cX8_where 15 = .ok (.goto 4, 3) := by decide +kernel
theorem dX8_where_18 : decode cX8_where 18 = .ok (.iconst (-1), 1) := by decide +kernel
theorem dX8_where_19 : decode cX8_where 19 = .ok (.ireturn, 1) := by decide +kernel
theorem dX8_line_0 : decode cX8_line 0 = .ok (.aload_n 0, 1) := by decide +kernel
theorem dX8_line_1 : decode cX8_line 1 = .ok (.getfield 19, 3) := by decide +kernel
theorem dX8_line_4 : decode cX8_line 4 = .ok (.iload_n 1, 1) := by decide +kernel
theorem dX8_line_5 : decode cX8_line 5 = .ok (.invokevirtual 91, 3) := by decide +kernel
theorem dX8_line_8 : decode cX8_line 8 = .ok (.ifCond .eq 19, 3) := by decide +kernel
theorem dX8_line_11 : decode cX8_line 11 = .ok (.aload_n 0, 1) := by decide +kernel
theorem dX8_line_12 : decode cX8_line 12 = .ok (.getfield 19, 3) := by decide +kernel
theorem dX8_line_15 : decode cX8_line 15 = .ok (.getfield 114, 3) := by decide +kernel
theorem dX8_line_18 : decode cX8_line 18 = .ok (.iload_n 1, 1) := by decide +kernel
theorem dX8_line_19 : decode cX8_line 19 = .ok (.aaload, 1) := by decide +kernel
theorem dX8_line_20 : decode cX8_line 20 = .ok (.iload_n 2, 1) := by decide +kernel
theorem dX8_line_21 : decode cX8_line 21 = .ok (.invokevirtual 135, 3) := by decide +kernel
theorem dX8_line_24 : decode cX8_line 24 = .ok (.ifCond .ne 5, 3) := by decide +kernel
theorem dX8_line_27 : decode cX8_line 27 = .ok (.iconst (-1), 1) := by decide +kernel
theorem dX8_line_28 : decode cX8_line 28 = .ok (.ireturn, 1) := by decide +kernel
theorem dX8_line_29 : decode cX8_line 29 = .ok (.aload_n 0, 1) := by decide +kernel
theorem dX8_line_30 : decode cX8_line 30 = .ok (.getfield 19, 3) := by decide +kernel
theorem dX8_line_33 : decode cX8_line 33 = .ok (.getfield 114, 3) := by decide +kernel
theorem dX8_line_36 : decode cX8_line 36 = .ok (.iload_n 1, 1) := by decide +kernel
theorem dX8_line_37 : decode cX8_line 37 = .ok (.aaload, 1) := by decide +kernel
theorem dX8_line_38 : decode cX8_line 38 = .ok (.astore 4, 2) := by decide +kernel
theorem dX8_line_40 : decode cX8_line 40 = .ok (.iload_n 3, 1) := by decide +kernel
theorem dX8_line_41 : decode cX8_line 41 = .ok (.tableswitch 63 0 3 #[31, 39, 47, 55], 31) := by decide +kernel
theorem dX8_line_72 : decode cX8_line 72 = .ok (.aload 4, 2) := by decide +kernel
theorem dX8_line_74 : decode cX8_line 74 = .ok (.getfield 136, 3) := by decide +kernel
theorem dX8_line_77 : decode cX8_line 77 = .ok (.iload_n 2, 1) := by decide +kernel
theorem dX8_line_78 : decode cX8_line 78 = .ok (.iaload, 1) := by decide +kernel
theorem dX8_line_79 : decode cX8_line 79 = .ok (.ireturn, 1) := by decide +kernel
theorem dX8_line_80 : decode cX8_line 80 = .ok (.aload 4, 2) := by decide +kernel
theorem dX8_line_82 : decode cX8_line 82 = .ok (.getfield 139, 3) := by decide +kernel
theorem dX8_line_85 : decode cX8_line 85 = .ok (.iload_n 2, 1) := by decide +kernel
theorem dX8_line_86 : decode cX8_line 86 = .ok (.iaload, 1) := by decide +kernel
theorem dX8_line_87 : decode cX8_line 87 = .ok (.ireturn, 1) := by decide +kernel
theorem dX8_line_88 : decode cX8_line 88 = .ok (.aload 4, 2) := by decide +kernel
theorem dX8_line_90 : decode cX8_line 90 = .ok (.getfield 142, 3) := by decide +kernel
theorem dX8_line_93 : decode cX8_line 93 = .ok (.iload_n 2, 1) := by decide +kernel
theorem dX8_line_94 : decode cX8_line 94 = .ok (.iaload, 1) := by decide +kernel
theorem dX8_line_95 : decode cX8_line 95 = .ok (.ireturn, 1) := by decide +kernel
theorem dX8_line_96 : decode cX8_line 96 = .ok (.aload 4, 2) := by decide +kernel
theorem dX8_line_98 : decode cX8_line 98 = .ok (.getfield 145, 3) := by decide +kernel
theorem dX8_line_101 : decode cX8_line 101 = .ok (.iload_n 2, 1) := by decide +kernel
theorem dX8_line_102 : decode cX8_line 102 = .ok (.iaload, 1) := by decide +kernel
theorem dX8_line_103 : decode cX8_line 103 = .ok (.ireturn, 1) := by decide +kernel
theorem dX8_line_104 : decode cX8_line 104 = .ok (.iconst (-1), 1) := by decide +kernel
theorem dX8_line_105 : decode cX8_line 105 = .ok (.ireturn, 1) := by decide +kernel
theorem dX8_meant_0 : decode cX8_meant 0 = .ok (.iload_n 1, 1) := by decide +kernel
theorem dX8_meant_1 : decode cX8_meant 1 = .ok (.invokestatic 148, 3) := by decide +kernel
theorem dX8_meant_4 : decode cX8_meant 4 = .ok (.ifCond .eq 10, 3) := by decide +kernel
theorem dX8_meant_7 : decode cX8_meant 7 = .ok (.iload_n 2, 1) := by decide +kernel
theorem dX8_meant_8 : decode cX8_meant 8 = .ok (.invokestatic 148, 3) := by decide +kernel
theorem dX8_meant_11 : decode cX8_meant 11 = .ok (.ifCond .ne 9, 3) := by decide +kernel
theorem dX8_meant_14 : decode cX8_meant 14 = .ok (.aload_n 0, 1) := by decide +kernel
theorem dX8_meant_15 : decode cX8_meant 15 = .ok (.iconst 2, 1) := by decide +kernel
theorem dX8_meant_16 : decode cX8_meant 16 = .ok (.invokevirtual 94, 3) := by decide +kernel
theorem dX8_meant_19 : decode cX8_meant 19 = .ok (.ireturn, 1) := by decide +kernel
theorem dX8_meant_20 : decode cX8_meant 20 = .ok (.aload_n 0, 1) := by decide +kernel
theorem dX8_meant_21 : decode cX8_meant 21 = .ok (.getfield 46, 3) := by decide +kernel
theorem dX8_meant_24 : decode cX8_meant 24 = .ok (.iload_n 1, 1) := by decide +kernel
theorem dX8_meant_25 : decode cX8_meant 25 = .ok (.iload_n 2, 1) := by decide +kernel
theorem dX8_meant_26 : decode cX8_meant 26 = .ok (.iload_n 3, 1) := by decide +kernel
theorem dX8_meant_27 : decode cX8_meant 27 = .ok (.invokevirtual 151, 3) := by decide +kernel
theorem dX8_meant_30 : decode cX8_meant 30 = .ok (.aload_n 0, 1) := by decide +kernel
theorem dX8_meant_31 : decode cX8_meant 31 = .ok (.invokevirtual 101, 3) := by decide +kernel
theorem dX8_meant_34 : decode cX8_meant 34 = .ok (.ireturn, 1) := by decide +kernel
theorem dX8_holds_0 : decode cX8_holds 0 = .ok (.aload_n 0, 1) := by decide +kernel
theorem dX8_holds_1 : decode cX8_holds 1 = .ok (.getfield 19, 3) := by decide +kernel
theorem dX8_holds_4 : decode cX8_holds 4 = .ok (.iload_n 1, 1) := by decide +kernel
theorem dX8_holds_5 : decode cX8_holds 5 = .ok (.invokevirtual 91, 3) := by decide +kernel
theorem dX8_holds_8 : decode cX8_holds 8 = .ok (.ifCond .eq 13, 3) := by decide +kernel
theorem dX8_holds_11 : decode cX8_holds 11 = .ok (.iload_n 2, 1) := by decide +kernel
theorem dX8_holds_12 : decode cX8_holds 12 = .ok (.ifCond .lt 9, 3) := by decide +kernel
theorem dX8_holds_15 : decode cX8_holds 15 = .ok (.iload_n 2, 1) := by decide +kernel
theorem dX8_holds_16 : decode cX8_holds 16 = .ok (.bipush 8, 2) := by decide +kernel
theorem dX8_holds_18 : decode cX8_holds 18 = .ok (.if_icmp .lt 5, 3) := by decide +kernel
theorem dX8_holds_21 : decode cX8_holds 21 = .ok (.iconst (-1), 1) := by decide +kernel
theorem dX8_holds_22 : decode cX8_holds 22 = .ok (.ireturn, 1) := by decide +kernel
theorem dX8_holds_23 : decode cX8_holds 23 = .ok (.aload_n 0, 1) := by decide +kernel
theorem dX8_holds_24 : decode cX8_holds 24 = .ok (.invokevirtual 155, 3) := by decide +kernel
theorem dX8_holds_27 : decode cX8_holds 27 = .ok (.aload_n 0, 1) := by decide +kernel
theorem dX8_holds_28 : decode cX8_holds 28 = .ok (.getfield 37, 3) := by decide +kernel
theorem dX8_holds_31 : decode cX8_holds 31 = .ok (.iload_n 1, 1) := by decide +kernel
theorem dX8_holds_32 : decode cX8_holds 32 = .ok (.iload_n 2, 1) := by decide +kernel
theorem dX8_holds_33 : decode cX8_holds 33 = .ok (.invokestatic 158, 3) := by decide +kernel
theorem dX8_holds_36 : decode cX8_holds 36 = .ok (.aload_n 0, 1) := by decide +kernel
theorem dX8_holds_37 : decode cX8_holds 37 = .ok (.getfield 19, 3) := by decide +kernel
theorem dX8_holds_40 : decode cX8_holds 40 = .ok (.getfield 97, 3) := by decide +kernel
theorem dX8_holds_43 : decode cX8_holds 43 = .ok (.invokevirtual 162, 3) := by decide +kernel
theorem dX8_holds_46 : decode cX8_holds 46 = .ok (.ireturn, 1) := by decide +kernel
theorem dX8_result_0 : decode cX8_result 0 = .ok (.aload_n 0, 1) := by decide +kernel
theorem dX8_result_1 : decode cX8_result 1 = .ok (.getfield 19, 3) := by decide +kernel
theorem dX8_result_4 : decode cX8_result 4 = .ok (.iload_n 1, 1) := by decide +kernel
theorem dX8_result_5 : decode cX8_result 5 = .ok (.invokevirtual 91, 3) := by decide +kernel
theorem dX8_result_8 : decode cX8_result 8 = .ok (.ifCond .ne 5, 3) := by decide +kernel
theorem dX8_result_11 : decode cX8_result 11 = .ok (.iconst (-1), 1) := by decide +kernel
theorem dX8_result_12 : decode cX8_result 12 = .ok (.ireturn, 1) := by decide +kernel
theorem dX8_result_13 : decode cX8_result 13 = .ok (.aload_n 0, 1) := by decide +kernel
theorem dX8_result_14 : decode cX8_result 14 = .ok (.invokevirtual 155, 3) := by decide +kernel
theorem dX8_result_17 : decode cX8_result 17 = .ok (.aload_n 0, 1) := by decide +kernel
theorem dX8_result_18 : decode cX8_result 18 = .ok (.getfield 37, 3) := by decide +kernel
theorem dX8_result_21 : decode cX8_result 21 = .ok (.iload_n 1, 1) := by decide +kernel
theorem dX8_result_22 : decode cX8_result 22 = .ok (.bipush 8, 2) := by decide +kernel
theorem dX8_result_24 : decode cX8_result 24 = .ok (.invokestatic 158, 3) := by decide +kernel
theorem dX8_result_27 : decode cX8_result 27 = .ok (.aload_n 0, 1) := by decide +kernel
theorem dX8_result_28 : decode cX8_result 28 = .ok (.getfield 19, 3) := by decide +kernel
theorem dX8_result_31 : decode cX8_result 31 = .ok (.getfield 97, 3) := by decide +kernel
theorem dX8_result_34 : decode cX8_result 34 = .ok (.invokevirtual 162, 3) := by decide +kernel
theorem dX8_result_37 : decode cX8_result 37 = .ok (.ireturn, 1) := by decide +kernel
theorem dX8_asked_0 : decode cX8_asked 0 = .ok (.aload_n 0, 1) := by decide +kernel
theorem dX8_asked_1 : decode cX8_asked 1 = .ok (.getfield 19, 3) := by decide +kernel
theorem dX8_asked_4 : decode cX8_asked 4 = .ok (.iload_n 1, 1) := by decide +kernel
theorem dX8_asked_5 : decode cX8_asked 5 = .ok (.invokevirtual 91, 3) := by decide +kernel
theorem dX8_asked_8 : decode cX8_asked 8 = .ok (.ifCond .ne 5, 3) := by decide +kernel
theorem dX8_asked_11 : decode cX8_asked 11 = .ok (.iconst (-1), 1) := by decide +kernel
theorem dX8_asked_12 : decode cX8_asked 12 = .ok (.ireturn, 1) := by decide +kernel
theorem dX8_asked_13 : decode cX8_asked 13 = .ok (.aload_n 0, 1) := by decide +kernel
theorem dX8_asked_14 : decode cX8_asked 14 = .ok (.invokevirtual 155, 3) := by decide +kernel
theorem dX8_asked_17 : decode cX8_asked 17 = .ok (.aload_n 0, 1) := by decide +kernel
theorem dX8_asked_18 : decode cX8_asked 18 = .ok (.getfield 37, 3) := by decide +kernel
theorem dX8_asked_21 : decode cX8_asked 21 = .ok (.iload_n 1, 1) := by decide +kernel
theorem dX8_asked_22 : decode cX8_asked 22 = .ok (.invokevirtual 166, 3) := by decide +kernel
theorem dX8_asked_25 : decode cX8_asked 25 = .ok (.ifCond .eq 7, 3) := by decide +kernel
theorem dX8_asked_28 : decode cX8_asked 28 = .ok (.iconst 1, 1) := by decide +kernel
theorem dX8_asked_29 : decode cX8_asked 29 = .ok (.goto 4, 3) := by decide +kernel
theorem dX8_asked_32 : decode cX8_asked 32 = .ok (.iconst 0, 1) := by decide +kernel
theorem dX8_asked_33 : decode cX8_asked 33 = .ok (.ireturn, 1) := by decide +kernel
theorem dX8_door_0 : decode cX8_door 0 = .ok (.iload_n 1, 1) := by decide +kernel
theorem dX8_door_1 : decode cX8_door 1 = .ok (.invokestatic 148, 3) := by decide +kernel
theorem dX8_door_4 : decode cX8_door 4 = .ok (.ifCond .ne 5, 3) := by decide +kernel
theorem dX8_door_7 : decode cX8_door 7 = .ok (.iconst (-1), 1) := by decide +kernel
theorem dX8_door_8 : decode cX8_door 8 = .ok (.ireturn, 1) := by decide +kernel
theorem dX8_door_9 : decode cX8_door 9 = .ok (.aload_n 0, 1) := by decide +kernel
theorem dX8_door_10 : decode cX8_door 10 = .ok (.invokevirtual 169, 3) := by decide +kernel
theorem dX8_door_13 : decode cX8_door 13 = .ok (.aload_n 0, 1) := by decide +kernel
theorem dX8_door_14 : decode cX8_door 14 = .ok (.getfield 46, 3) := by decide +kernel
theorem dX8_door_17 : decode cX8_door 17 = .ok (.getfield 172, 3) := by decide +kernel
theorem dX8_door_20 : decode cX8_door 20 = .ok (.iload_n 1, 1) := by decide +kernel
theorem dX8_door_21 : decode cX8_door 21 = .ok (.iaload, 1) := by decide +kernel
theorem dX8_door_22 : decode cX8_door 22 = .ok (.ireturn, 1) := by decide +kernel
theorem dX8_leaks_0 : decode cX8_leaks 0 = .ok (.aload_n 0, 1) := by decide +kernel
theorem dX8_leaks_1 : decode cX8_leaks 1 = .ok (.invokevirtual 169, 3) := by decide +kernel
theorem dX8_leaks_4 : decode cX8_leaks 4 = .ok (.aload_n 0, 1) := by decide +kernel
theorem dX8_leaks_5 : decode cX8_leaks 5 = .ok (.getfield 46, 3) := by decide +kernel
theorem dX8_leaks_8 : decode cX8_leaks 8 = .ok (.invokevirtual 175, 3) := by decide +kernel
theorem dX8_leaks_11 : decode cX8_leaks 11 = .ok (.aload_n 0, 1) := by decide +kernel
theorem dX8_leaks_12 : decode cX8_leaks 12 = .ok (.getfield 46, 3) := by decide +kernel
theorem dX8_leaks_15 : decode cX8_leaks 15 = .ok (.invokevirtual 179, 3) := by decide +kernel
theorem dX8_leaks_18 : decode cX8_leaks 18 = .ok (.iadd, 1) := by decide +kernel
theorem dX8_leaks_19 : decode cX8_leaks 19 = .ok (.ireturn, 1) := by decide +kernel
theorem dX8_misuse_0 : decode cX8_misuse 0 = .ok (.aload_n 0, 1) := by decide +kernel
theorem dX8_misuse_1 : decode cX8_misuse 1 = .ok (.invokevirtual 169, 3) := by decide +kernel
theorem dX8_misuse_4 : decode cX8_misuse 4 = .ok (.iload_n 1, 1) := by decide +kernel
theorem dX8_misuse_5 : decode cX8_misuse 5 = .ok (.ifCond .eq 13, 3) := by decide +kernel
theorem dX8_misuse_8 : decode cX8_misuse 8 = .ok (.aload_n 0, 1) := by decide +kernel
theorem dX8_misuse_9 : decode cX8_misuse 9 = .ok (.getfield 46, 3) := by decide +kernel
theorem dX8_misuse_12 : decode cX8_misuse 12 = .ok (.invokevirtual 179, 3) := by decide +kernel
theorem dX8_misuse_15 : decode cX8_misuse 15 = .ok (.goto 10, 3) := by decide +kernel
theorem dX8_misuse_18 : decode cX8_misuse 18 = .ok (.aload_n 0, 1) := by decide +kernel
theorem dX8_misuse_19 : decode cX8_misuse 19 = .ok (.getfield 46, 3) := by decide +kernel
theorem dX8_misuse_22 : decode cX8_misuse 22 = .ok (.invokevirtual 175, 3) := by decide +kernel
theorem dX8_misuse_25 : decode cX8_misuse 25 = .ok (.ireturn, 1) := by decide +kernel
theorem dX8_wrong_0 : decode cX8_wrong 0 = .ok (.aload_n 0, 1) := by decide +kernel
theorem dX8_wrong_1 : decode cX8_wrong 1 = .ok (.invokevirtual 169, 3) := by decide +kernel
theorem dX8_wrong_4 : decode cX8_wrong 4 = .ok (.aload_n 0, 1) := by decide +kernel
theorem dX8_wrong_5 : decode cX8_wrong 5 = .ok (.getfield 46, 3) := by decide +kernel
theorem dX8_wrong_8 : decode cX8_wrong 8 = .ok (.iload_n 1, 1) := by decide +kernel
theorem dX8_wrong_9 : decode cX8_wrong 9 = .ok (.invokevirtual 182, 3) := by decide +kernel
theorem dX8_wrong_12 : decode cX8_wrong 12 = .ok (.ireturn, 1) := by decide +kernel
theorem dX8_way_0 : decode cX8_way 0 = .ok (.iload_n 1, 1) := by decide +kernel
theorem dX8_way_1 : decode cX8_way 1 = .ok (.invokestatic 148, 3) := by decide +kernel
theorem dX8_way_4 : decode cX8_way 4 = .ok (.ifCond .eq 10, 3) := by decide +kernel
theorem dX8_way_7 : decode cX8_way 7 = .ok (.iload_n 2, 1) := by decide +kernel
theorem dX8_way_8 : decode cX8_way 8 = .ok (.invokestatic 148, 3) := by decide +kernel
theorem dX8_way_11 : decode cX8_way 11 = .ok (.ifCond .ne 9, 3) := by decide +kernel
theorem dX8_way_14 : decode cX8_way 14 = .ok (.aload_n 0, 1) := by decide +kernel
theorem dX8_way_15 : decode cX8_way 15 = .ok (.iconst 2, 1) := by decide +kernel
theorem dX8_way_16 : decode cX8_way 16 = .ok (.invokevirtual 78, 3) := by decide +kernel
theorem dX8_way_19 : decode cX8_way 19 = .ok (.ireturn, 1) := by decide +kernel
theorem dX8_way_20 : decode cX8_way 20 = .ok (.aload_n 0, 1) := by decide +kernel
theorem dX8_way_21 : decode cX8_way 21 = .ok (.invokevirtual 155, 3) := by decide +kernel
theorem dX8_way_24 : decode cX8_way 24 = .ok (.aload_n 0, 1) := by decide +kernel
theorem dX8_way_25 : decode cX8_way 25 = .ok (.aload_n 0, 1) := by decide +kernel
theorem dX8_way_26 : decode cX8_way 26 = .ok (.getfield 53, 3) := by decide +kernel
theorem dX8_way_29 : decode cX8_way 29 = .ok (.iload_n 1, 1) := by decide +kernel
theorem dX8_way_30 : decode cX8_way 30 = .ok (.iload_n 2, 1) := by decide +kernel
theorem dX8_way_31 : decode cX8_way 31 = .ok (.invokevirtual 185, 3) := by decide +kernel
theorem dX8_way_34 : decode cX8_way 34 = .ok (.invokevirtual 88, 3) := by decide +kernel
theorem dX8_way_37 : decode cX8_way 37 = .ok (.ireturn, 1) := by decide +kernel
theorem dX8_step_0 : decode cX8_step 0 = .ok (.iload_n 1, 1) := by decide +kernel
theorem dX8_step_1 : decode cX8_step 1 = .ok (.ifCond .lt 14, 3) := by decide +kernel
theorem dX8_step_4 : decode cX8_step 4 = .ok (.iload_n 1, 1) := by decide +kernel
theorem dX8_step_5 : decode cX8_step 5 = .ok (.aload_n 0, 1) := by decide +kernel
theorem dX8_step_6 : decode cX8_step 6 = .ok (.getfield 53, 3) := by decide +kernel
theorem dX8_step_9 : decode cX8_step 9 = .ok (.getfield 188, 3) := by decide +kernel
theorem dX8_step_12 : decode cX8_step 12 = .ok (.if_icmp .lt 11, 3) := by decide +kernel
theorem dX8_step_15 : decode cX8_step 15 = .ok (.new 189, 3) := by decide +kernel
theorem dX8_step_18 : decode cX8_step 18 = .ok (.dup, 1) := by decide +kernel
theorem dX8_step_19 : decode cX8_step 19 = .ok (.invokespecial 191, 3) := by decide +kernel
theorem dX8_step_22 : decode cX8_step 22 = .ok (.athrow, 1) := by decide +kernel
theorem dX8_step_23 : decode cX8_step 23 = .ok (.aload_n 0, 1) := by decide +kernel
theorem dX8_step_24 : decode cX8_step 24 = .ok (.getfield 53, 3) := by decide +kernel
theorem dX8_step_27 : decode cX8_step 27 = .ok (.getfield 192, 3) := by decide +kernel
theorem dX8_step_30 : decode cX8_step 30 = .ok (.iload_n 1, 1) := by decide +kernel
theorem dX8_step_31 : decode cX8_step 31 = .ok (.iaload, 1) := by decide +kernel
theorem dX8_step_32 : decode cX8_step 32 = .ok (.ireturn, 1) := by decide +kernel
theorem dX8_needed_0 : decode cX8_needed 0 = .ok (.aload_n 0, 1) := by decide +kernel
theorem dX8_needed_1 : decode cX8_needed 1 = .ok (.getfield 19, 3) := by decide +kernel
theorem dX8_needed_4 : decode cX8_needed 4 = .ok (.iload_n 1, 1) := by decide +kernel
theorem dX8_needed_5 : decode cX8_needed 5 = .ok (.invokevirtual 91, 3) := by decide +kernel
theorem dX8_needed_8 : decode cX8_needed 8 = .ok (.ifCond .ne 5, 3) := by decide +kernel
theorem dX8_needed_11 : decode cX8_needed 11 = .ok (.iconst (-1), 1) := by decide +kernel
theorem dX8_needed_12 : decode cX8_needed 12 = .ok (.ireturn, 1) := by decide +kernel
theorem dX8_needed_13 : decode cX8_needed 13 = .ok (.aload_n 0, 1) := by decide +kernel
theorem dX8_needed_14 : decode cX8_needed 14 = .ok (.invokevirtual 155, 3) := by decide +kernel
theorem dX8_needed_17 : decode cX8_needed 17 = .ok (.aload_n 0, 1) := by decide +kernel
theorem dX8_needed_18 : decode cX8_needed 18 = .ok (.getfield 37, 3) := by decide +kernel
theorem dX8_needed_21 : decode cX8_needed 21 = .ok (.iload_n 1, 1) := by decide +kernel
theorem dX8_needed_22 : decode cX8_needed 22 = .ok (.invokevirtual 195, 3) := by decide +kernel
theorem dX8_needed_25 : decode cX8_needed 25 = .ok (.ireturn, 1) := by decide +kernel
theorem dX8_idle_0 : decode cX8_idle 0 = .ok (.aload_n 0, 1) := by decide +kernel
theorem dX8_idle_1 : decode cX8_idle 1 = .ok (.getfield 19, 3) := by decide +kernel
theorem dX8_idle_4 : decode cX8_idle 4 = .ok (.iload_n 1, 1) := by decide +kernel
theorem dX8_idle_5 : decode cX8_idle 5 = .ok (.invokevirtual 91, 3) := by decide +kernel
theorem dX8_idle_8 : decode cX8_idle 8 = .ok (.ifCond .ne 5, 3) := by decide +kernel
theorem dX8_idle_11 : decode cX8_idle 11 = .ok (.iconst (-1), 1) := by decide +kernel
theorem dX8_idle_12 : decode cX8_idle 12 = .ok (.ireturn, 1) := by decide +kernel
theorem dX8_idle_13 : decode cX8_idle 13 = .ok (.aload_n 0, 1) := by decide +kernel
theorem dX8_idle_14 : decode cX8_idle 14 = .ok (.invokevirtual 155, 3) := by decide +kernel
theorem dX8_idle_17 : decode cX8_idle 17 = .ok (.aload_n 0, 1) := by decide +kernel
theorem dX8_idle_18 : decode cX8_idle 18 = .ok (.getfield 19, 3) := by decide +kernel
theorem dX8_idle_21 : decode cX8_idle 21 = .ok (.getfield 97, 3) := by decide +kernel
theorem dX8_idle_24 : decode cX8_idle 24 = .ok (.iload_n 1, 1) := by decide +kernel
theorem dX8_idle_25 : decode cX8_idle 25 = .ok (.iaload, 1) := by decide +kernel
theorem dX8_idle_26 : decode cX8_idle 26 = .ok (.aload_n 0, 1) := by decide +kernel
theorem dX8_idle_27 : decode cX8_idle 27 = .ok (.getfield 37, 3) := by decide +kernel
theorem dX8_idle_30 : decode cX8_idle 30 = .ok (.iload_n 1, 1) := by decide +kernel
theorem dX8_idle_31 : decode cX8_idle 31 = .ok (.invokevirtual 195, 3) := by decide +kernel
theorem dX8_idle_34 : decode cX8_idle 34 = .ok (.iconst (-1), 1) := by decide +kernel
theorem dX8_idle_35 : decode cX8_idle 35 = .ok (.ixor, 1) := by decide +kernel
theorem dX8_idle_36 : decode cX8_idle 36 = .ok (.iand, 1) := by decide +kernel
theorem dX8_idle_37 : decode cX8_idle 37 = .ok (.ireturn, 1) := by decide +kernel
theorem dX8_lacking_0 : decode cX8_lacking 0 = .ok (.aload_n 0, 1) := by decide +kernel
theorem dX8_lacking_1 : decode cX8_lacking 1 = .ok (.getfield 19, 3) := by decide +kernel
theorem dX8_lacking_4 : decode cX8_lacking 4 = .ok (.iload_n 1, 1) := by decide +kernel
theorem dX8_lacking_5 : decode cX8_lacking 5 = .ok (.invokevirtual 91, 3) := by decide +kernel
theorem dX8_lacking_8 : decode cX8_lacking 8 = .ok (.ifCond .ne 5, 3) := by decide +kernel
theorem dX8_lacking_11 : decode cX8_lacking 11 = .ok (.iconst (-1), 1) := by decide +kernel
theorem dX8_lacking_12 : decode cX8_lacking 12 = .ok (.ireturn, 1) := by decide +kernel
theorem dX8_lacking_13 : decode cX8_lacking 13 = .ok (.aload_n 0, 1) := by decide +kernel
theorem dX8_lacking_14 : decode cX8_lacking 14 = .ok (.invokevirtual 155, 3) := by decide +kernel
theorem dX8_lacking_17 : decode cX8_lacking 17 = .ok (.aload_n 0, 1) := by decide +kernel
theorem dX8_lacking_18 : decode cX8_lacking 18 = .ok (.getfield 37, 3) := by decide +kernel
theorem dX8_lacking_21 : decode cX8_lacking 21 = .ok (.iload_n 1, 1) := by decide +kernel
theorem dX8_lacking_22 : decode cX8_lacking 22 = .ok (.invokevirtual 195, 3) := by decide +kernel
theorem dX8_lacking_25 : decode cX8_lacking 25 = .ok (.aload_n 0, 1) := by decide +kernel
theorem dX8_lacking_26 : decode cX8_lacking 26 = .ok (.getfield 19, 3) := by decide +kernel
theorem dX8_lacking_29 : decode cX8_lacking 29 = .ok (.getfield 97, 3) := by decide +kernel
theorem dX8_lacking_32 : decode cX8_lacking 32 = .ok (.iload_n 1, 1) := by decide +kernel
theorem dX8_lacking_33 : decode cX8_lacking 33 = .ok (.iaload, 1) := by decide +kernel
theorem dX8_lacking_34 : decode cX8_lacking 34 = .ok (.iconst (-1), 1) := by decide +kernel
theorem dX8_lacking_35 : decode cX8_lacking 35 = .ok (.ixor, 1) := by decide +kernel
theorem dX8_lacking_36 : decode cX8_lacking 36 = .ok (.iand, 1) := by decide +kernel
theorem dX8_lacking_37 : decode cX8_lacking 37 = .ok (.ireturn, 1) := by decide +kernel
theorem dX8_helped_0 : decode cX8_helped 0 = .ok (.aload_n 0, 1) := by decide +kernel
theorem dX8_helped_1 : decode cX8_helped 1 = .ok (.getfield 19, 3) := by decide +kernel
theorem dX8_helped_4 : decode cX8_helped 4 = .ok (.iload_n 1, 1) := by decide +kernel
theorem dX8_helped_5 : decode cX8_helped 5 = .ok (.invokevirtual 91, 3) := by decide +kernel
theorem dX8_helped_8 : decode cX8_helped 8 = .ok (.ifCond .ne 5, 3) := by decide +kernel
theorem dX8_helped_11 : decode cX8_helped 11 = .ok (.iconst (-1), 1) := by decide +kernel
theorem dX8_helped_12 : decode cX8_helped 12 = .ok (.ireturn, 1) := by decide +kernel
theorem dX8_helped_13 : decode cX8_helped 13 = .ok (.aload_n 0, 1) := by decide +kernel
theorem dX8_helped_14 : decode cX8_helped 14 = .ok (.invokevirtual 155, 3) := by decide +kernel
theorem dX8_helped_17 : decode cX8_helped 17 = .ok (.aload_n 0, 1) := by decide +kernel
theorem dX8_helped_18 : decode cX8_helped 18 = .ok (.getfield 37, 3) := by decide +kernel
theorem dX8_helped_21 : decode cX8_helped 21 = .ok (.iload_n 1, 1) := by decide +kernel
theorem dX8_helped_22 : decode cX8_helped 22 = .ok (.invokevirtual 198, 3) := by decide +kernel
theorem dX8_helped_25 : decode cX8_helped 25 = .ok (.aload_n 0, 1) := by decide +kernel
theorem dX8_helped_26 : decode cX8_helped 26 = .ok (.getfield 19, 3) := by decide +kernel
theorem dX8_helped_29 : decode cX8_helped 29 = .ok (.getfield 97, 3) := by decide +kernel
theorem dX8_helped_32 : decode cX8_helped 32 = .ok (.iload_n 1, 1) := by decide +kernel
theorem dX8_helped_33 : decode cX8_helped 33 = .ok (.iaload, 1) := by decide +kernel
theorem dX8_helped_34 : decode cX8_helped 34 = .ok (.iconst (-1), 1) := by decide +kernel
theorem dX8_helped_35 : decode cX8_helped 35 = .ok (.ixor, 1) := by decide +kernel
theorem dX8_helped_36 : decode cX8_helped 36 = .ok (.iand, 1) := by decide +kernel
theorem dX8_helped_37 : decode cX8_helped 37 = .ok (.ireturn, 1) := by decide +kernel
theorem dX8_trim_0 : decode cX8_trim 0 = .ok (.aload_n 0, 1) := by decide +kernel
theorem dX8_trim_1 : decode cX8_trim 1 = .ok (.invokevirtual 155, 3) := by decide +kernel
theorem dX8_trim_4 : decode cX8_trim 4 = .ok (.iconst 0, 1) := by decide +kernel
theorem dX8_trim_5 : decode cX8_trim 5 = .ok (.istore_n 1, 1) := by decide +kernel
theorem dX8_trim_6 : decode cX8_trim 6 = .ok (.iconst 0, 1) := by decide +kernel
theorem dX8_trim_7 : decode cX8_trim 7 = .ok (.istore_n 2, 1) := by decide +kernel
theorem dX8_trim_8 : decode cX8_trim 8 = .ok (.iload_n 2, 1) := by decide +kernel
theorem dX8_trim_9 : decode cX8_trim 9 = .ok (.aload_n 0, 1) := by decide +kernel
theorem dX8_trim_10 : decode cX8_trim 10 = .ok (.getfield 19, 3) := by decide +kernel
theorem dX8_trim_13 : decode cX8_trim 13 = .ok (.getfield 82, 3) := by decide +kernel
theorem dX8_trim_16 : decode cX8_trim 16 = .ok (.if_icmp .ge 55, 3) := by decide +kernel
theorem dX8_trim_19 : decode cX8_trim 19 = .ok (.iload_n 1, 1) := by decide +kernel
theorem dX8_trim_20 : decode cX8_trim 20 = .ok (.aload_n 0, 1) := by decide +kernel
theorem dX8_trim_21 : decode cX8_trim 21 = .ok (.getfield 19, 3) := by decide +kernel
theorem dX8_trim_24 : decode cX8_trim 24 = .ok (.getfield 97, 3) := by decide +kernel
theorem dX8_trim_27 : decode cX8_trim 27 = .ok (.iload_n 2, 1) := by decide +kernel
theorem dX8_trim_28 : decode cX8_trim 28 = .ok (.iaload, 1) := by decide +kernel
theorem dX8_trim_29 : decode cX8_trim 29 = .ok (.aload_n 0, 1) := by decide +kernel
theorem dX8_trim_30 : decode cX8_trim 30 = .ok (.getfield 37, 3) := by decide +kernel
theorem dX8_trim_33 : decode cX8_trim 33 = .ok (.iload_n 2, 1) := by decide +kernel
theorem dX8_trim_34 : decode cX8_trim 34 = .ok (.invokevirtual 195, 3) := by decide +kernel
theorem dX8_trim_37 : decode cX8_trim 37 = .ok (.iconst (-1), 1) := by decide +kernel
theorem dX8_trim_38 : decode cX8_trim 38 = .ok (.ixor, 1) := by decide +kernel
theorem dX8_trim_39 : decode cX8_trim 39 = .ok (.iand, 1) := by decide +kernel
theorem dX8_trim_40 : decode cX8_trim 40 = .ok (.invokestatic 201, 3) := by decide +kernel
theorem dX8_trim_43 : decode cX8_trim 43 = .ok (.iadd, 1) := by decide +kernel
theorem dX8_trim_44 : decode cX8_trim 44 = .ok (.istore_n 1, 1) := by decide +kernel
theorem dX8_trim_45 : decode cX8_trim 45 = .ok (.aload_n 0, 1) := by decide +kernel
theorem dX8_trim_46 : decode cX8_trim 46 = .ok (.getfield 19, 3) := by decide +kernel
theorem dX8_trim_49 : decode cX8_trim 49 = .ok (.getfield 97, 3) := by decide +kernel
theorem dX8_trim_52 : decode cX8_trim 52 = .ok (.iload_n 2, 1) := by decide +kernel
theorem dX8_trim_53 : decode cX8_trim 53 = .ok (.dup2, 1) := by decide +kernel
theorem dX8_trim_54 : decode cX8_trim 54 = .ok (.iaload, 1) := by decide +kernel
theorem dX8_trim_55 : decode cX8_trim 55 = .ok (.aload_n 0, 1) := by decide +kernel
theorem dX8_trim_56 : decode cX8_trim 56 = .ok (.getfield 37, 3) := by decide +kernel
theorem dX8_trim_59 : decode cX8_trim 59 = .ok (.iload_n 2, 1) := by decide +kernel
theorem dX8_trim_60 : decode cX8_trim 60 = .ok (.invokevirtual 195, 3) := by decide +kernel
theorem dX8_trim_63 : decode cX8_trim 63 = .ok (.iand, 1) := by decide +kernel
theorem dX8_trim_64 : decode cX8_trim 64 = .ok (.iastore, 1) := by decide +kernel
theorem dX8_trim_65 : decode cX8_trim 65 = .ok (.iinc 2 1, 3) := by decide +kernel
theorem dX8_trim_68 : decode cX8_trim 68 = .ok (.goto (-60), 3) := by decide +kernel
theorem dX8_trim_71 : decode cX8_trim 71 = .ok (.iload_n 1, 1) := by decide +kernel
theorem dX8_trim_72 : decode cX8_trim 72 = .ok (.ireturn, 1) := by decide +kernel
theorem dX8_cure_0 : decode cX8_cure 0 = .ok (.aload_n 0, 1) := by decide +kernel
theorem dX8_cure_1 : decode cX8_cure 1 = .ok (.invokevirtual 169, 3) := by decide +kernel
theorem dX8_cure_4 : decode cX8_cure 4 = .ok (.aload_n 0, 1) := by decide +kernel
theorem dX8_cure_5 : decode cX8_cure 5 = .ok (.getfield 46, 3) := by decide +kernel
theorem dX8_cure_8 : decode cX8_cure 8 = .ok (.invokevirtual 175, 3) := by decide +kernel
theorem dX8_cure_11 : decode cX8_cure 11 = .ok (.ifCond .ne 17, 3) := by decide +kernel
theorem dX8_cure_14 : decode cX8_cure 14 = .ok (.aload_n 0, 1) := by decide +kernel
theorem dX8_cure_15 : decode cX8_cure 15 = .ok (.getfield 62, 3) := by decide +kernel
theorem dX8_cure_18 : decode cX8_cure 18 = .ok (.iconst 0, 1) := by decide +kernel
theorem dX8_cure_19 : decode cX8_cure 19 = .ok (.putfield 206, 3) := by decide +kernel
theorem dX8_cure_22 : decode cX8_cure 22 = .ok (.aload_n 0, 1) := by decide +kernel
theorem dX8_cure_23 : decode cX8_cure 23 = .ok (.iconst 0, 1) := by decide +kernel
theorem dX8_cure_24 : decode cX8_cure 24 = .ok (.invokevirtual 88, 3) := by decide +kernel
theorem dX8_cure_27 : decode cX8_cure 27 = .ok (.ireturn, 1) := by decide +kernel
theorem dX8_cure_28 : decode cX8_cure 28 = .ok (.aload_n 0, 1) := by decide +kernel
theorem dX8_cure_29 : decode cX8_cure 29 = .ok (.getfield 62, 3) := by decide +kernel
theorem dX8_cure_32 : decode cX8_cure 32 = .ok (.invokevirtual 207, 3) := by decide +kernel
theorem dX8_cure_35 : decode cX8_cure 35 = .ok (.ifCond .ne 10, 3) := by decide +kernel
theorem dX8_cure_38 : decode cX8_cure 38 = .ok (.aload_n 0, 1) := by decide +kernel
theorem dX8_cure_39 : decode cX8_cure 39 = .ok (.bipush 6, 2) := by decide +kernel
theorem dX8_cure_41 : decode cX8_cure 41 = .ok (.invokevirtual 78, 3) := by decide +kernel
theorem dX8_cure_44 : decode cX8_cure 44 = .ok (.ireturn, 1) := by decide +kernel
theorem dX8_cure_45 : decode cX8_cure 45 = .ok (.aload_n 0, 1) := by decide +kernel
theorem dX8_cure_46 : decode cX8_cure 46 = .ok (.getfield 62, 3) := by decide +kernel
theorem dX8_cure_49 : decode cX8_cure 49 = .ok (.invokevirtual 210, 3) := by decide +kernel
theorem dX8_cure_52 : decode cX8_cure 52 = .ok (.ifCond .ne 9, 3) := by decide +kernel
theorem dX8_cure_55 : decode cX8_cure 55 = .ok (.aload_n 0, 1) := by decide +kernel
theorem dX8_cure_56 : decode cX8_cure 56 = .ok (.iconst 5, 1) := by decide +kernel
theorem dX8_cure_57 : decode cX8_cure 57 = .ok (.invokevirtual 78, 3) := by decide +kernel
theorem dX8_cure_60 : decode cX8_cure 60 = .ok (.ireturn, 1) := by decide +kernel
theorem dX8_cure_61 : decode cX8_cure 61 = .ok (.aload_n 0, 1) := by decide +kernel
theorem dX8_cure_62 : decode cX8_cure 62 = .ok (.aload_n 0, 1) := by decide +kernel
theorem dX8_cure_63 : decode cX8_cure 63 = .ok (.getfield 62, 3) := by decide +kernel
theorem dX8_cure_66 : decode cX8_cure 66 = .ok (.getfield 206, 3) := by decide +kernel
theorem dX8_cure_69 : decode cX8_cure 69 = .ok (.invokevirtual 88, 3) := by decide +kernel
theorem dX8_cure_72 : decode cX8_cure 72 = .ok (.ireturn, 1) := by decide +kernel
theorem dX8_cured_0 : decode cX8_cured 0 = .ok (.iload_n 1, 1) := by decide +kernel
theorem dX8_cured_1 : decode cX8_cured 1 = .ok (.ifCond .lt 14, 3) := by decide +kernel
theorem dX8_cured_4 : decode cX8_cured 4 = .ok (.iload_n 1, 1) := by decide +kernel
theorem dX8_cured_5 : decode cX8_cured 5 = .ok (.aload_n 0, 1) := by decide +kernel
theorem dX8_cured_6 : decode cX8_cured 6 = .ok (.getfield 62, 3) := by decide +kernel
theorem dX8_cured_9 : decode cX8_cured 9 = .ok (.getfield 206, 3) := by decide +kernel
theorem dX8_cured_12 : decode cX8_cured 12 = .ok (.if_icmp .lt 7, 3) := by decide +kernel
theorem dX8_cured_15 : decode cX8_cured 15 = .ok (.iconst (-1), 1) := by decide +kernel
theorem dX8_cured_16 : decode cX8_cured 16 = .ok (.goto 12, 3) := by decide +kernel
theorem dX8_cured_19 : decode cX8_cured 19 = .ok (.aload_n 0, 1) := by decide +kernel
theorem dX8_cured_20 : decode cX8_cured 20 = .ok (.getfield 62, 3) := by decide +kernel
theorem dX8_cured_23 : decode cX8_cured 23 = .ok (.getfield 213, 3) := by decide +kernel
theorem dX8_cured_26 : decode cX8_cured 26 = .ok (.iload_n 1, 1) := by decide +kernel
theorem dX8_cured_27 : decode cX8_cured 27 = .ok (.iaload, 1) := by decide +kernel
theorem dX8_cured_28 : decode cX8_cured 28 = .ok (.ireturn, 1) := by decide +kernel
theorem dX8_without_0 : decode cX8_without 0 = .ok (.aload_n 0, 1) := by decide +kernel
theorem dX8_without_1 : decode cX8_without 1 = .ok (.getfield 19, 3) := by decide +kernel
theorem dX8_without_4 : decode cX8_without 4 = .ok (.iload_n 1, 1) := by decide +kernel
theorem dX8_without_5 : decode cX8_without 5 = .ok (.invokevirtual 91, 3) := by decide +kernel
theorem dX8_without_8 : decode cX8_without 8 = .ok (.ifCond .ne 9, 3) := by decide +kernel
theorem dX8_without_11 : decode cX8_without 11 = .ok (.aload_n 0, 1) := by decide +kernel
theorem dX8_without_12 : decode cX8_without 12 = .ok (.iconst 1, 1) := by decide +kernel
theorem dX8_without_13 : decode cX8_without 13 = .ok (.invokevirtual 78, 3) := by decide +kernel
theorem dX8_without_16 : decode cX8_without 16 = .ok (.ireturn, 1) := by decide +kernel
theorem dX8_without_17 : decode cX8_without 17 = .ok (.iload_n 2, 1) := by decide +kernel
theorem dX8_without_18 : decode cX8_without 18 = .ok (.invokestatic 148, 3) := by decide +kernel
theorem dX8_without_21 : decode cX8_without 21 = .ok (.ifCond .ne 9, 3) := by decide +kernel
theorem dX8_without_24 : decode cX8_without 24 = .ok (.aload_n 0, 1) := by decide +kernel
theorem dX8_without_25 : decode cX8_without 25 = .ok (.iconst 2, 1) := by decide +kernel
theorem dX8_without_26 : decode cX8_without 26 = .ok (.invokevirtual 78, 3) := by decide +kernel
theorem dX8_without_29 : decode cX8_without 29 = .ok (.ireturn, 1) := by decide +kernel
theorem dX8_without_30 : decode cX8_without 30 = .ok (.aload_n 0, 1) := by decide +kernel
theorem dX8_without_31 : decode cX8_without 31 = .ok (.invokevirtual 155, 3) := by decide +kernel
theorem dX8_without_34 : decode cX8_without 34 = .ok (.aload_n 0, 1) := by decide +kernel
theorem dX8_without_35 : decode cX8_without 35 = .ok (.aload_n 0, 1) := by decide +kernel
theorem dX8_without_36 : decode cX8_without 36 = .ok (.getfield 62, 3) := by decide +kernel
theorem dX8_without_39 : decode cX8_without 39 = .ok (.iload_n 1, 1) := by decide +kernel
theorem dX8_without_40 : decode cX8_without 40 = .ok (.iload_n 2, 1) := by decide +kernel
theorem dX8_without_41 : decode cX8_without 41 = .ok (.invokevirtual 216, 3) := by decide +kernel
theorem dX8_without_44 : decode cX8_without 44 = .ok (.invokevirtual 88, 3) := by decide +kernel
theorem dX8_without_47 : decode cX8_without 47 = .ok (.ireturn, 1) := by decide +kernel
theorem dX8_key_0 : decode cX8_key 0 = .ok (.aload_n 0, 1) := by decide +kernel
theorem dX8_key_1 : decode cX8_key 1 = .ok (.invokevirtual 169, 3) := by decide +kernel
theorem dX8_key_4 : decode cX8_key 4 = .ok (.aload_n 0, 1) := by decide +kernel
theorem dX8_key_5 : decode cX8_key 5 = .ok (.getfield 46, 3) := by decide +kernel
theorem dX8_key_8 : decode cX8_key 8 = .ok (.invokevirtual 175, 3) := by decide +kernel
theorem dX8_key_11 : decode cX8_key 11 = .ok (.istore_n 1, 1) := by decide +kernel
theorem dX8_key_12 : decode cX8_key 12 = .ok (.iload_n 1, 1) := by decide +kernel
theorem dX8_key_13 : decode cX8_key 13 = .ok (.ifCond .ne 9, 3) := by decide +kernel
theorem dX8_key_16 : decode cX8_key 16 = .ok (.aload_n 0, 1) := by decide +kernel
theorem dX8_key_17 : decode cX8_key 17 = .ok (.iconst 5, 1) := by decide +kernel
theorem dX8_key_18 : decode cX8_key 18 = .ok (.invokevirtual 78, 3) := by decide +kernel
theorem dX8_key_21 : decode cX8_key 21 = .ok (.ireturn, 1) := by decide +kernel
theorem dX8_key_22 : decode cX8_key 22 = .ok (.aload_n 0, 1) := by decide +kernel
theorem dX8_key_23 : decode cX8_key 23 = .ok (.aload_n 0, 1) := by decide +kernel
theorem dX8_key_24 : decode cX8_key 24 = .ok (.getfield 62, 3) := by decide +kernel
theorem dX8_key_27 : decode cX8_key 27 = .ok (.iload_n 1, 1) := by decide +kernel
theorem dX8_key_28 : decode cX8_key 28 = .ok (.invokevirtual 219, 3) := by decide +kernel
theorem dX8_key_31 : decode cX8_key 31 = .ok (.invokevirtual 88, 3) := by decide +kernel
theorem dX8_key_34 : decode cX8_key 34 = .ok (.ireturn, 1) := by decide +kernel
theorem dX8_count_0 : decode cX8_count 0 = .ok (.iload_n 1, 1) := by decide +kernel
theorem dX8_count_1 : decode cX8_count 1 = .ok (.tableswitch 75 0 4 #[35, 43, 51, 59, 67], 35) := by decide +kernel
theorem dX8_count_36 : decode cX8_count 36 = .ok (.aload_n 0, 1) := by decide +kernel
theorem dX8_count_37 : decode cX8_count 37 = .ok (.getfield 19, 3) := by decide +kernel
theorem dX8_count_40 : decode cX8_count 40 = .ok (.getfield 82, 3) := by decide +kernel
theorem dX8_count_43 : decode cX8_count 43 = .ok (.ireturn, 1) := by decide +kernel
theorem dX8_count_44 : decode cX8_count 44 = .ok (.aload_n 0, 1) := by decide +kernel
theorem dX8_count_45 : decode cX8_count 45 = .ok (.getfield 19, 3) := by decide +kernel
theorem dX8_count_48 : decode cX8_count 48 = .ok (.invokevirtual 222, 3) := by decide +kernel
theorem dX8_count_51 : decode cX8_count 51 = .ok (.ireturn, 1) := by decide +kernel
theorem dX8_count_52 : decode cX8_count 52 = .ok (.aload_n 0, 1) := by decide +kernel
theorem dX8_count_53 : decode cX8_count 53 = .ok (.getfield 19, 3) := by decide +kernel
theorem dX8_count_56 : decode cX8_count 56 = .ok (.invokevirtual 225, 3) := by decide +kernel
theorem dX8_count_59 : decode cX8_count 59 = .ok (.ireturn, 1) := by decide +kernel
theorem dX8_count_60 : decode cX8_count 60 = .ok (.aload_n 0, 1) := by decide +kernel
theorem dX8_count_61 : decode cX8_count 61 = .ok (.getfield 46, 3) := by decide +kernel
theorem dX8_count_64 : decode cX8_count 64 = .ok (.invokevirtual 228, 3) := by decide +kernel
theorem dX8_count_67 : decode cX8_count 67 = .ok (.ireturn, 1) := by decide +kernel
theorem dX8_count_68 : decode cX8_count 68 = .ok (.aload_n 0, 1) := by decide +kernel
theorem dX8_count_69 : decode cX8_count 69 = .ok (.getfield 12, 3) := by decide +kernel
theorem dX8_count_72 : decode cX8_count 72 = .ok (.getfield 105, 3) := by decide +kernel
theorem dX8_count_75 : decode cX8_count 75 = .ok (.ireturn, 1) := by decide +kernel
theorem dX8_count_76 : decode cX8_count 76 = .ok (.iconst (-1), 1) := by decide +kernel
theorem dX8_count_77 : decode cX8_count 77 = .ok (.ireturn, 1) := by decide +kernel
theorem dX8_trouble_0 : decode cX8_trouble 0 = .ok (.aload_n 0, 1) := by decide +kernel
theorem dX8_trouble_1 : decode cX8_trouble 1 = .ok (.getfield 66, 3) := by decide +kernel
theorem dX8_trouble_4 : decode cX8_trouble 4 = .ok (.ireturn, 1) := by decide +kernel
theorem dX8_refuse_0 : decode cX8_refuse 0 = .ok (.aload_n 0, 1) := by decide +kernel
theorem dX8_refuse_1 : decode cX8_refuse 1 = .ok (.iload_n 1, 1) := by decide +kernel
theorem dX8_refuse_2 : decode cX8_refuse 2 = .ok (.putfield 66, 3) := by decide +kernel
theorem dX8_refuse_5 : decode cX8_refuse 5 = .ok (.iconst (-1), 1) := by decide +kernel
theorem dX8_refuse_6 : decode cX8_refuse 6 = .ok (.ireturn, 1) := by decide +kernel
theorem dX8_accept_0 : decode cX8_accept 0 = .ok (.aload_n 0, 1) := by decide +kernel
theorem dX8_accept_1 : decode cX8_accept 1 = .ok (.iconst 0, 1) := by decide +kernel
theorem dX8_accept_2 : decode cX8_accept 2 = .ok (.putfield 66, 3) := by decide +kernel
theorem dX8_accept_5 : decode cX8_accept 5 = .ok (.iload_n 1, 1) := by decide +kernel
theorem dX8_accept_6 : decode cX8_accept 6 = .ok (.ireturn, 1) := by decide +kernel
theorem dX8_deny_0 : decode cX8_deny 0 = .ok (.aload_n 0, 1) := by decide +kernel
theorem dX8_deny_1 : decode cX8_deny 1 = .ok (.iload_n 1, 1) := by decide +kernel
theorem dX8_deny_2 : decode cX8_deny 2 = .ok (.putfield 66, 3) := by decide +kernel
theorem dX8_deny_5 : decode cX8_deny 5 = .ok (.iconst 0, 1) := by decide +kernel
theorem dX8_deny_6 : decode cX8_deny 6 = .ok (.ireturn, 1) := by decide +kernel
theorem dX8_allow_0 : decode cX8_allow 0 = .ok (.aload_n 0, 1) := by decide +kernel
theorem dX8_allow_1 : decode cX8_allow 1 = .ok (.iconst 0, 1) := by decide +kernel
theorem dX8_allow_2 : decode cX8_allow 2 = .ok (.putfield 66, 3) := by decide +kernel
theorem dX8_allow_5 : decode cX8_allow 5 = .ok (.iconst 1, 1) := by decide +kernel
theorem dX8_allow_6 : decode cX8_allow 6 = .ok (.ireturn, 1) := by decide +kernel
theorem dX8_bringUpToDate_0 : decode cX8_bringUpToDate 0 = .ok (.aload_n 0, 1) := by decide +kernel
theorem dX8_bringUpToDate_1 : decode cX8_bringUpToDate 1 = .ok (.getfield 70, 3) := by decide +kernel
theorem dX8_bringUpToDate_4 : decode cX8_bringUpToDate 4 = .ok (.ifCond .eq 15, 3) := by decide +kernel
theorem dX8_bringUpToDate_7 : decode cX8_bringUpToDate 7 = .ok (.aload_n 0, 1) := by decide +kernel
theorem dX8_bringUpToDate_8 : decode cX8_bringUpToDate 8 = .ok (.getfield 37, 3) := by decide +kernel
theorem dX8_bringUpToDate_11 : decode cX8_bringUpToDate 11 = .ok (.invokevirtual 231, 3) := by decide +kernel
theorem dX8_bringUpToDate_14 : decode cX8_bringUpToDate 14 = .ok (.aload_n 0, 1) := by decide +kernel
theorem dX8_bringUpToDate_15 : decode cX8_bringUpToDate 15 = .ok (.iconst 0, 1) := by decide +kernel
theorem dX8_bringUpToDate_16 : decode cX8_bringUpToDate 16 = .ok (.putfield 70, 3) := by decide +kernel
theorem dX8_bringUpToDate_19 : decode cX8_bringUpToDate 19 = .ok (.return_, 1) := by decide +kernel
theorem dX8_lookAtDoors_0 : decode cX8_lookAtDoors 0 = .ok (.aload_n 0, 1) := by decide +kernel
theorem dX8_lookAtDoors_1 : decode cX8_lookAtDoors 1 = .ok (.invokevirtual 155, 3) := by decide +kernel
theorem dX8_lookAtDoors_4 : decode cX8_lookAtDoors 4 = .ok (.aload_n 0, 1) := by decide +kernel
theorem dX8_lookAtDoors_5 : decode cX8_lookAtDoors 5 = .ok (.getfield 46, 3) := by decide +kernel
theorem dX8_lookAtDoors_8 : decode cX8_lookAtDoors 8 = .ok (.aload_n 0, 1) := by decide +kernel
theorem dX8_lookAtDoors_9 : decode cX8_lookAtDoors 9 = .ok (.getfield 19, 3) := by decide +kernel
theorem dX8_lookAtDoors_12 : decode cX8_lookAtDoors 12 = .ok (.getfield 97, 3) := by decide +kernel
theorem dX8_lookAtDoors_15 : decode cX8_lookAtDoors 15 = .ok (.invokevirtual 234, 3) := by decide +kernel
theorem dX8_lookAtDoors_18 : decode cX8_lookAtDoors 18 = .ok (.return_, 1) := by decide +kernel
theorem dX8_isGrants_0 : decode cX8_isGrants 0 = .ok (.iload_n 0, 1) := by decide +kernel
theorem dX8_isGrants_1 : decode cX8_isGrants 1 = .ok (.ifCond .lt 13, 3) := by decide +kernel
theorem dX8_isGrants_4 : decode cX8_isGrants 4 = .ok (.iload_n 0, 1) := by decide +kernel
theorem dX8_isGrants_5 : decode cX8_isGrants 5 = .ok (.ldc 238, 2) := by decide +kernel
theorem dX8_isGrants_7 : decode cX8_isGrants 7 = .ok (.if_icmp .gt 7, 3) := by decide +kernel
theorem dX8_isGrants_10 : decode cX8_isGrants 10 = .ok (.iconst 1, 1) := by decide +kernel
theorem dX8_isGrants_11 : decode cX8_isGrants 11 = .ok (.goto 4, 3) := by decide +kernel
theorem dX8_isGrants_14 : decode cX8_isGrants 14 = .ok (.iconst 0, 1) := by decide +kernel
theorem dX8_isGrants_15 : decode cX8_isGrants 15 = .ok (.ireturn, 1) := by decide +kernel
theorem dX8_isRight_0 : decode cX8_isRight 0 = .ok (.iload_n 0, 1) := by decide +kernel
theorem dX8_isRight_1 : decode cX8_isRight 1 = .ok (.ifCond .lt 13, 3) := by decide +kernel
theorem dX8_isRight_4 : decode cX8_isRight 4 = .ok (.iload_n 0, 1) := by decide +kernel
theorem dX8_isRight_5 : decode cX8_isRight 5 = .ok (.bipush 16, 2) := by decide +kernel
theorem dX8_isRight_7 : decode cX8_isRight 7 = .ok (.if_icmp .ge 7, 3) := by decide +kernel
theorem dX8_isRight_10 : decode cX8_isRight 10 = .ok (.iconst 1, 1) := by decide +kernel
theorem dX8_isRight_11 : decode cX8_isRight 11 = .ok (.goto 4, 3) := by decide +kernel
theorem dX8_isRight_14 : decode cX8_isRight 14 = .ok (.iconst 0, 1) := by decide +kernel
theorem dX8_isRight_15 : decode cX8_isRight 15 = .ok (.ireturn, 1) := by decide +kernel
theorem dX8_hasBit_0 : decode cX8_hasBit 0 = .ok (.iload_n 0, 1) := by decide +kernel
theorem dX8_hasBit_1 : decode cX8_hasBit 1 = .ok (.iload_n 1, 1) := by decide +kernel
theorem dX8_hasBit_2 : decode cX8_hasBit 2 = .ok (.ishr, 1) := by decide +kernel
theorem dX8_hasBit_3 : decode cX8_hasBit 3 = .ok (.iconst 1, 1) := by decide +kernel
theorem dX8_hasBit_4 : decode cX8_hasBit 4 = .ok (.iand, 1) := by decide +kernel
theorem dX8_hasBit_5 : decode cX8_hasBit 5 = .ok (.iconst 1, 1) := by decide +kernel
theorem dX8_hasBit_6 : decode cX8_hasBit 6 = .ok (.if_icmp .ne 7, 3) := by decide +kernel
theorem dX8_hasBit_9 : decode cX8_hasBit 9 = .ok (.iconst 1, 1) := by decide +kernel
theorem dX8_hasBit_10 : decode cX8_hasBit 10 = .ok (.goto 4, 3) := by decide +kernel
theorem dX8_hasBit_13 : decode cX8_hasBit 13 = .ok (.iconst 0, 1) := by decide +kernel
theorem dX8_hasBit_14 : decode cX8_hasBit 14 = .ok (.ireturn, 1) := by decide +kernel
theorem dX8_spot_0 : decode cX8_spot 0 = .ok (.iload_n 0, 1) := by decide +kernel
theorem dX8_spot_1 : decode cX8_spot 1 = .ok (.bipush 25, 2) := by decide +kernel
theorem dX8_spot_3 : decode cX8_spot 3 = .ok (.imul, 1) := by decide +kernel
theorem dX8_spot_4 : decode cX8_spot 4 = .ok (.iload_n 1, 1) := by decide +kernel
theorem dX8_spot_5 : decode cX8_spot 5 = .ok (.iadd, 1) := by decide +kernel
theorem dX8_spot_6 : decode cX8_spot 6 = .ok (.ireturn, 1) := by decide +kernel
theorem dX9_init_0 : decode cX9_init 0 = .ok (.aload_n 0, 1) := by decide +kernel
theorem dX9_init_1 : decode cX9_init 1 = .ok (.aconst_null, 1) := by decide +kernel
theorem dX9_init_2 : decode cX9_init 2 = .ok (.aconst_null, 1) := by decide +kernel
theorem dX9_init_3 : decode cX9_init 3 = .ok (.iconst 0, 1) := by decide +kernel
theorem dX9_init_4 : decode cX9_init 4 = .ok (.iconst 0, 1) := by decide +kernel
theorem dX9_init_5 : decode cX9_init 5 = .ok (.invokespecial 1, 3) := by decide +kernel
theorem dX9_init_8 : decode cX9_init 8 = .ok (.return_, 1) := by decide +kernel
theorem dX10_init_0 : decode cX10_init 0 = .ok (.aload_n 0, 1) := by decide +kernel
theorem dX10_init_1 : decode cX10_init 1 = .ok (.invokespecial 3, 3) := by decide +kernel
theorem dX10_init_4 : decode cX10_init 4 = .ok (.aload_n 0, 1) := by decide +kernel
theorem dX10_init_5 : decode cX10_init 5 = .ok (.iconst (-1), 1) := by decide +kernel
theorem dX10_init_6 : decode cX10_init 6 = .ok (.putfield 9, 3) := by decide +kernel
theorem dX10_init_9 : decode cX10_init 9 = .ok (.aload_n 0, 1) := by decide +kernel
theorem dX10_init_10 : decode cX10_init 10 = .ok (.bipush 10, 2) := by decide +kernel
theorem dX10_init_12 : decode cX10_init 12 = .ok (.newarray .int, 2) := by decide +kernel
theorem dX10_init_14 : decode cX10_init 14 = .ok (.putfield 13, 3) := by decide +kernel
theorem dX10_init_17 : decode cX10_init 17 = .ok (.aload_n 0, 1) := by decide +kernel
theorem dX10_init_18 : decode cX10_init 18 = .ok (.bipush 11, 2) := by decide +kernel
theorem dX10_init_20 : decode cX10_init 20 = .ok (.newarray .int, 2) := by decide +kernel
theorem dX10_init_22 : decode cX10_init 22 = .ok (.putfield 17, 3) := by decide +kernel
theorem dX10_init_25 : decode cX10_init 25 = .ok (.aload_n 0, 1) := by decide +kernel
theorem dX10_init_26 : decode cX10_init 26 = .ok (.bipush 16, 2) := by decide +kernel
theorem dX10_init_28 : decode cX10_init 28 = .ok (.newarray .int, 2) := by decide +kernel
theorem dX10_init_30 : decode cX10_init 30 = .ok (.putfield 20, 3) := by decide +kernel
theorem dX10_init_33 : decode cX10_init 33 = .ok (.aload_n 0, 1) := by decide +kernel
theorem dX10_init_34 : decode cX10_init 34 = .ok (.sipush 132, 3) := by decide +kernel
theorem dX10_init_37 : decode cX10_init 37 = .ok (.newarray .int, 2) := by decide +kernel
theorem dX10_init_39 : decode cX10_init 39 = .ok (.putfield 23, 3) := by decide +kernel
theorem dX10_init_42 : decode cX10_init 42 = .ok (.aload_n 0, 1) := by decide +kernel
theorem dX10_init_43 : decode cX10_init 43 = .ok (.sipush 132, 3) := by decide +kernel
theorem dX10_init_46 : decode cX10_init 46 = .ok (.newarray .int, 2) := by decide +kernel
theorem dX10_init_48 : decode cX10_init 48 = .ok (.putfield 26, 3) := by decide +kernel
theorem dX10_init_51 : decode cX10_init 51 = .ok (.aload_n 0, 1) := by decide +kernel
theorem dX10_init_52 : decode cX10_init 52 = .ok (.sipush 132, 3) := by decide +kernel
theorem dX10_init_55 : decode cX10_init 55 = .ok (.newarray .int, 2) := by decide +kernel
theorem dX10_init_57 : decode cX10_init 57 = .ok (.putfield 29, 3) := by decide +kernel
theorem dX10_init_60 : decode cX10_init 60 = .ok (.aload_n 0, 1) := by decide +kernel
theorem dX10_init_61 : decode cX10_init 61 = .ok (.sipush 132, 3) := by decide +kernel
theorem dX10_init_64 : decode cX10_init 64 = .ok (.newarray .int, 2) := by decide +kernel
theorem dX10_init_66 : decode cX10_init 66 = .ok (.putfield 32, 3) := by decide +kernel
theorem dX10_init_69 : decode cX10_init 69 = .ok (.aload_n 0, 1) := by decide +kernel
theorem dX10_init_70 : decode cX10_init 70 = .ok (.sipush 528, 3) := by decide +kernel
theorem dX10_init_73 : decode cX10_init 73 = .ok (.newarray .int, 2) := by decide +kernel
theorem dX10_init_75 : decode cX10_init 75 = .ok (.putfield 35, 3) := by decide +kernel
theorem dX10_init_78 : decode cX10_init 78 = .ok (.aload_n 0, 1) := by decide +kernel
theorem dX10_init_79 : decode cX10_init 79 = .ok (.new 38, 3) := by decide +kernel
theorem dX10_init_82 : decode cX10_init 82 = .ok (.dup, 1) := by decide +kernel
theorem dX10_init_83 : decode cX10_init 83 = .ok (.invokespecial 40, 3) := by decide +kernel
theorem dX10_init_86 : decode cX10_init 86 = .ok (.putfield 41, 3) := by decide +kernel
theorem dX10_init_89 : decode cX10_init 89 = .ok (.aload_n 0, 1) := by decide +kernel
theorem dX10_init_90 : decode cX10_init 90 = .ok (.sipush 300, 3) := by decide +kernel
theorem dX10_init_93 : decode cX10_init 93 = .ok (.newarray .byte, 2) := by decide +kernel
theorem dX10_init_95 : decode cX10_init 95 = .ok (.putfield 45, 3) := by decide +kernel
theorem dX10_init_98 : decode cX10_init 98 = .ok (.aload_n 0, 1) := by decide +kernel
theorem dX10_init_99 : decode cX10_init 99 = .ok (.bipush 80, 2) := by decide +kernel
theorem dX10_init_101 : decode cX10_init 101 = .ok (.newarray .int, 2) := by decide +kernel
theorem dX10_init_103 : decode cX10_init 103 = .ok (.putfield 49, 3) := by decide +kernel
theorem dX10_init_106 : decode cX10_init 106 = .ok (.aload_n 0, 1) := by decide +kernel
theorem dX10_init_107 : decode cX10_init 107 = .ok (.bipush 80, 2) := by decide +kernel
theorem dX10_init_109 : decode cX10_init 109 = .ok (.newarray .int, 2) := by decide +kernel
theorem dX10_init_111 : decode cX10_init 111 = .ok (.putfield 52, 3) := by decide +kernel
theorem dX10_init_114 : decode cX10_init 114 = .ok (.aload_n 0, 1) := by decide +kernel
theorem dX10_init_115 : decode cX10_init 115 = .ok (.bipush 10, 2) := by decide +kernel
theorem dX10_init_117 : decode cX10_init 117 = .ok (.newarray .int, 2) := by decide +kernel
theorem dX10_init_119 : decode cX10_init 119 = .ok (.putfield 55, 3) := by decide +kernel
theorem dX10_init_122 : decode cX10_init 122 = .ok (.aload_n 0, 1) := by decide +kernel
theorem dX10_init_123 : decode cX10_init 123 = .ok (.bipush 16, 2) := by decide +kernel
theorem dX10_init_125 : decode cX10_init 125 = .ok (.newarray .int, 2) := by decide +kernel
theorem dX10_init_127 : decode cX10_init 127 = .ok (.putfield 58, 3) := by decide +kernel
theorem dX10_init_130 : decode cX10_init 130 = .ok (.aload_n 0, 1) := by decide +kernel
theorem dX10_init_131 : decode cX10_init 131 = .ok (.bipush 10, 2) := by decide +kernel
theorem dX10_init_133 : decode cX10_init 133 = .ok (.newarray .boolean, 2) := by decide +kernel
theorem dX10_init_135 : decode cX10_init 135 = .ok (.putfield 61, 3) := by decide +kernel
theorem dX10_init_138 : decode cX10_init 138 = .ok (.aload_n 0, 1) := by decide +kernel
theorem dX10_init_139 : decode cX10_init 139 = .ok (.bipush 91, 2) := by decide +kernel
theorem dX10_init_141 : decode cX10_init 141 = .ok (.newarray .int, 2) := by decide +kernel
theorem dX10_init_143 : decode cX10_init 143 = .ok (.putfield 65, 3) := by decide +kernel
theorem dX10_init_146 : decode cX10_init 146 = .ok (.aload_n 0, 1) := by decide +kernel
theorem dX10_init_147 : decode cX10_init 147 = .ok (.bipush 92, 2) := by decide +kernel
theorem dX10_init_149 : decode cX10_init 149 = .ok (.newarray .int, 2) := by decide +kernel
theorem dX10_init_151 : decode cX10_init 151 = .ok (.putfield 68, 3) := by decide +kernel
theorem dX10_init_154 : decode cX10_init 154 = .ok (.aload_n 0, 1) := by decide +kernel
theorem dX10_init_155 : decode cX10_init 155 = .ok (.bipush 10, 2) := by decide +kernel
theorem dX10_init_157 : decode cX10_init 157 = .ok (.newarray .int, 2) := by decide +kernel
theorem dX10_init_159 : decode cX10_init 159 = .ok (.putfield 71, 3) := by decide +kernel
theorem dX10_init_162 : decode cX10_init 162 = .ok (.aload_n 0, 1) := by decide +kernel
theorem dX10_init_163 : decode cX10_init 163 = .ok (.bipush 10, 2) := by decide +kernel
theorem dX10_init_165 : decode cX10_init 165 = .ok (.newarray .int, 2) := by decide +kernel
theorem dX10_init_167 : decode cX10_init 167 = .ok (.putfield 74, 3) := by decide +kernel
theorem dX10_init_170 : decode cX10_init 170 = .ok (.aload_n 0, 1) := by decide +kernel
theorem dX10_init_171 : decode cX10_init 171 = .ok (.bipush 16, 2) := by decide +kernel
theorem dX10_init_173 : decode cX10_init 173 = .ok (.newarray .int, 2) := by decide +kernel
theorem dX10_init_175 : decode cX10_init 175 = .ok (.putfield 77, 3) := by decide +kernel
theorem dX10_init_178 : decode cX10_init 178 = .ok (.return_, 1) := by decide +kernel
theorem dX10_thrown_0 : decode cX10_thrown 0 = .ok (.aload_n 0, 1) := by decide +kernel
theorem dX10_thrown_1 : decode cX10_thrown 1 = .ok (.getfield 80, 3) := by decide +kernel
theorem dX10_thrown_4 : decode cX10_thrown 4 = .ok (.ireturn, 1) := by decide +kernel
theorem dX10_refused_0 : decode cX10_refused 0 = .ok (.aload_n 0, 1) := by decide +kernel
theorem dX10_refused_1 : decode cX10_refused 1 = .ok (.iload_n 1, 1) := by decide +kernel
theorem dX10_refused_2 : decode cX10_refused 2 = .ok (.putfield 83, 3) := by decide +kernel
theorem dX10_refused_5 : decode cX10_refused 5 = .ok (.aload_n 0, 1) := by decide +kernel
theorem dX10_refused_6 : decode cX10_refused 6 = .ok (.iconst (-1), 1) := by decide +kernel
theorem dX10_refused_7 : decode cX10_refused 7 = .ok (.putfield 9, 3) := by decide +kernel
theorem dX10_refused_10 : decode cX10_refused 10 = .ok (.iconst (-1), 1) := by decide +kernel
theorem dX10_refused_11 : decode cX10_refused 11 = .ok (.ireturn, 1) := by decide +kernel
theorem dX10_denied_0 : decode cX10_denied 0 = .ok (.aload_n 0, 1) := by decide +kernel
theorem dX10_denied_1 : decode cX10_denied 1 = .ok (.iload_n 1, 1) := by decide +kernel
theorem dX10_denied_2 : decode cX10_denied 2 = .ok (.putfield 83, 3) := by decide +kernel
theorem dX10_denied_5 : decode cX10_denied 5 = .ok (.aload_n 0, 1) := by decide +kernel
theorem dX10_denied_6 : decode cX10_denied 6 = .ok (.iconst (-1), 1) := by decide +kernel
theorem dX10_denied_7 : decode cX10_denied 7 = .ok (.putfield 9, 3) := by decide +kernel
theorem dX10_denied_10 : decode cX10_denied 10 = .ok (.iconst 0, 1) := by decide +kernel
theorem dX10_denied_11 : decode cX10_denied 11 = .ok (.ireturn, 1) := by decide +kernel
theorem dX10_done_0 : decode cX10_done 0 = .ok (.aload_n 0, 1) := by decide +kernel
theorem dX10_done_1 : decode cX10_done 1 = .ok (.iconst 0, 1) := by decide +kernel
theorem dX10_done_2 : decode cX10_done 2 = .ok (.putfield 83, 3) := by decide +kernel
theorem dX10_done_5 : decode cX10_done 5 = .ok (.aload_n 0, 1) := by decide +kernel
theorem dX10_done_6 : decode cX10_done 6 = .ok (.iconst (-1), 1) := by decide +kernel
theorem dX10_done_7 : decode cX10_done 7 = .ok (.putfield 9, 3) := by decide +kernel
theorem dX10_done_10 : decode cX10_done 10 = .ok (.iload_n 1, 1) := by decide +kernel
theorem dX10_done_11 : decode cX10_done 11 = .ok (.ireturn, 1) := by decide +kernel
theorem dX10_granted_0 : decode cX10_granted 0 = .ok (.aload_n 0, 1) := by decide +kernel
theorem dX10_granted_1 : decode cX10_granted 1 = .ok (.iconst 0, 1) := by decide +kernel
theorem dX10_granted_2 : decode cX10_granted 2 = .ok (.putfield 83, 3) := by decide +kernel
theorem dX10_granted_5 : decode cX10_granted 5 = .ok (.aload_n 0, 1) := by decide +kernel
theorem dX10_granted_6 : decode cX10_granted 6 = .ok (.iconst (-1), 1) := by decide +kernel
theorem dX10_granted_7 : decode cX10_granted 7 = .ok (.putfield 9, 3) := by decide +kernel
theorem dX10_granted_10 : decode cX10_granted 10 = .ok (.iconst 1, 1) := by decide +kernel
theorem dX10_granted_11 : decode cX10_granted 11 = .ok (.ireturn, 1) := by decide +kernel
theorem dX10_in_0 : decode cX10_in 0 = .ok (.iload_n 0, 1) := by decide +kernel
theorem dX10_in_1 : decode cX10_in 1 = .ok (.iload_n 1, 1) := by decide +kernel
theorem dX10_in_2 : decode cX10_in 2 = .ok (.if_icmp .lt 12, 3) := by decide +kernel
theorem dX10_in_5 : decode cX10_in 5 = .ok (.iload_n 0, 1) := by decide +kernel
theorem dX10_in_6 : decode cX10_in 6 = .ok (.iload_n 2, 1) := by decide +kernel
theorem dX10_in_7 : decode cX10_in 7 = .ok (.if_icmp .gt 7, 3) := by decide +kernel
theorem dX10_in_10 : decode cX10_in 10 = .ok (.iconst 1, 1) := by decide +kernel
theorem dX10_in_11 : decode cX10_in 11 = .ok (.goto 4, 3) := by decide +kernel
theorem dX10_in_14 : decode cX10_in 14 = .ok (.iconst 0, 1) := by decide +kernel
theorem dX10_in_15 : decode cX10_in 15 = .ok (.ireturn, 1) := by decide +kernel
theorem dX10_bits_0 : decode cX10_bits 0 = .ok (.iconst 0, 1) := by decide +kernel
theorem dX10_bits_1 : decode cX10_bits 1 = .ok (.istore_n 1, 1) := by decide +kernel
theorem dX10_bits_2 : decode cX10_bits 2 = .ok (.iload_n 0, 1) := by decide +kernel
theorem dX10_bits_3 : decode cX10_bits 3 = .ok (.istore_n 2, 1) := by decide +kernel
theorem dX10_bits_4 : decode cX10_bits 4 = .ok (.iload_n 2, 1) := by decide +kernel
theorem dX10_bits_5 : decode cX10_bits 5 = .ok (.ifCond .eq 15, 3) := by decide +kernel
theorem dX10_bits_8 : decode cX10_bits 8 = .ok (.iinc 1 1, 3) := by decide +kernel
theorem dX10_bits_11 : decode cX10_bits 11 = .ok (.iload_n 2, 1) := by decide +kernel
theorem dX10_bits_12 : decode cX10_bits 12 = .ok (.iload_n 2, 1) := by decide +kernel
theorem dX10_bits_13 : decode cX10_bits 13 = .ok (.iconst 1, 1) := by decide +kernel
theorem dX10_bits_14 : decode cX10_bits 14 = .ok (.isub, 1) := by decide +kernel
theorem dX10_bits_15 : decode cX10_bits 15 = .ok (.iand, 1) := by decide +kernel
theorem dX10_bits_16 : decode cX10_bits 16 = .ok (.istore_n 2, 1) := by decide +kernel
theorem dX10_bits_17 : decode cX10_bits 17 = .ok (.goto (-13), 3) := by decide +kernel
theorem dX10_bits_20 : decode cX10_bits 20 = .ok (.iload_n 1, 1) := by decide +kernel
theorem dX10_bits_21 : decode cX10_bits 21 = .ok (.ireturn, 1) := by decide +kernel
theorem dX10_isPart_0 : decode cX10_isPart 0 = .ok (.iload_n 1, 1) := by decide +kernel
theorem dX10_isPart_1 : decode cX10_isPart 1 = .ok (.ifCond .lt 15, 3) := by decide +kernel
theorem dX10_isPart_4 : decode cX10_isPart 4 = .ok (.iload_n 1, 1) := by decide +kernel
theorem dX10_isPart_5 : decode cX10_isPart 5 = .ok (.aload_n 0, 1) := by decide +kernel
theorem dX10_isPart_6 : decode cX10_isPart 6 = .ok (.getfield 86, 3) := by decide +kernel
theorem dX10_isPart_9 : decode cX10_isPart 9 = .ok (.if_icmp .ge 7, 3) := by decide +kernel
theorem dX10_isPart_12 : decode cX10_isPart 12 = .ok (.iconst 1, 1) := by decide +kernel
theorem dX10_isPart_13 : decode cX10_isPart 13 = .ok (.goto 4, 3) := by decide +kernel
theorem dX10_isPart_16 : decode cX10_isPart 16 = .ok (.iconst 0, 1) := by decide +kernel
theorem dX10_isPart_17 : decode cX10_isPart 17 = .ok (.ireturn, 1) := by decide +kernel
theorem dX10_isRight_0 : decode cX10_isRight 0 = .ok (.iload_n 0, 1) := by decide +kernel
theorem dX10_isRight_1 : decode cX10_isRight 1 = .ok (.ifCond .lt 13, 3) := by decide +kernel
theorem dX10_isRight_4 : decode cX10_isRight 4 = .ok (.iload_n 0, 1) := by decide +kernel
theorem dX10_isRight_5 : decode cX10_isRight 5 = .ok (.bipush 16, 2) := by decide +kernel
theorem dX10_isRight_7 : decode cX10_isRight 7 = .ok (.if_icmp .ge 7, 3) := by decide +kernel
theorem dX10_isRight_10 : decode cX10_isRight 10 = .ok (.iconst 1, 1) := by decide +kernel
theorem dX10_isRight_11 : decode cX10_isRight 11 = .ok (.goto 4, 3) := by decide +kernel
theorem dX10_isRight_14 : decode cX10_isRight 14 = .ok (.iconst 0, 1) := by decide +kernel
theorem dX10_isRight_15 : decode cX10_isRight 15 = .ok (.ireturn, 1) := by decide +kernel
theorem dX10_part_0 : decode cX10_part 0 = .ok (.aload_n 0, 1) := by decide +kernel
theorem dX10_part_1 : decode cX10_part 1 = .ok (.iconst 0, 1) := by decide +kernel
theorem dX10_part_2 : decode cX10_part 2 = .ok (.putfield 80, 3) := by decide +kernel
theorem dX10_part_5 : decode cX10_part 5 = .ok (.iload_n 1, 1) := by decide +kernel
theorem dX10_part_6 : decode cX10_part 6 = .ok (.iconst 0, 1) := by decide +kernel
theorem dX10_part_7 : decode cX10_part 7 = .ok (.ldc 89, 2) := by decide +kernel
theorem dX10_part_9 : decode cX10_part 9 = .ok (.invokestatic 90, 3) := by decide +kernel
theorem dX10_part_12 : decode cX10_part 12 = .ok (.ifCond .ne 9, 3) := by decide +kernel
theorem dX10_part_15 : decode cX10_part 15 = .ok (.aload_n 0, 1) := by decide +kernel
theorem dX10_part_16 : decode cX10_part 16 = .ok (.iconst 2, 1) := by decide +kernel
theorem dX10_part_17 : decode cX10_part 17 = .ok (.invokevirtual 94, 3) := by decide +kernel
theorem dX10_part_20 : decode cX10_part 20 = .ok (.ireturn, 1) := by decide +kernel
theorem dX10_part_21 : decode cX10_part 21 = .ok (.aload_n 0, 1) := by decide +kernel
theorem dX10_part_22 : decode cX10_part 22 = .ok (.getfield 86, 3) := by decide +kernel
theorem dX10_part_25 : decode cX10_part 25 = .ok (.bipush 10, 2) := by decide +kernel
theorem dX10_part_27 : decode cX10_part 27 = .ok (.if_icmp .ne 9, 3) := by decide +kernel
theorem dX10_part_30 : decode cX10_part 30 = .ok (.aload_n 0, 1) := by decide +kernel
theorem dX10_part_31 : decode cX10_part 31 = .ok (.iconst 3, 1) := by decide +kernel
theorem dX10_part_32 : decode cX10_part 32 = .ok (.invokevirtual 94, 3) := by decide +kernel
theorem dX10_part_35 : decode cX10_part 35 = .ok (.ireturn, 1) := by decide +kernel
theorem dX10_part_36 : decode cX10_part 36 = .ok (.aload_n 0, 1) := by decide +kernel
theorem dX10_part_37 : decode cX10_part 37 = .ok (.getfield 13, 3) := by decide +kernel
theorem dX10_part_40 : decode cX10_part 40 = .ok (.aload_n 0, 1) := by decide +kernel
theorem dX10_part_41 : decode cX10_part 41 = .ok (.getfield 86, 3) := by decide +kernel
theorem dX10_part_44 : decode cX10_part 44 = .ok (.iload_n 1, 1) := by decide +kernel
theorem dX10_part_45 : decode cX10_part 45 = .ok (.iastore, 1) := by decide +kernel
theorem dX10_part_46 : decode cX10_part 46 = .ok (.aload_n 0, 1) := by decide +kernel
theorem dX10_part_47 : decode cX10_part 47 = .ok (.getfield 17, 3) := by decide +kernel
theorem dX10_part_50 : decode cX10_part 50 = .ok (.aload_n 0, 1) := by decide +kernel
theorem dX10_part_51 : decode cX10_part 51 = .ok (.getfield 86, 3) := by decide +kernel
theorem dX10_part_54 : decode cX10_part 54 = .ok (.iconst 0, 1) := by decide +kernel
theorem dX10_part_55 : decode cX10_part 55 = .ok (.iastore, 1) := by decide +kernel
theorem dX10_part_56 : decode cX10_part 56 = .ok (.aload_n 0, 1) := by decide +kernel
theorem dX10_part_57 : decode cX10_part 57 = .ok (.dup, 1) := by decide +kernel
theorem dX10_part_58 : decode cX10_part 58 = .ok (.getfield 86, 3) := by decide +kernel
theorem dX10_part_61 : decode cX10_part 61 = .ok (.iconst 1, 1) := by decide +kernel
theorem dX10_part_62 : decode cX10_part 62 = .ok (.iadd, 1) := by decide +kernel
theorem dX10_part_63 : decode cX10_part 63 = .ok (.putfield 86, 3) := by decide +kernel
theorem dX10_part_66 : decode cX10_part 66 = .ok (.aload_n 0, 1) := by decide +kernel
theorem dX10_part_67 : decode cX10_part 67 = .ok (.aload_n 0, 1) := by decide +kernel
theorem dX10_part_68 : decode cX10_part 68 = .ok (.getfield 86, 3) := by decide +kernel
theorem dX10_part_71 : decode cX10_part 71 = .ok (.iconst 1, 1) := by decide +kernel
theorem dX10_part_72 : decode cX10_part 72 = .ok (.isub, 1) := by decide +kernel
theorem dX10_part_73 : decode cX10_part 73 = .ok (.invokevirtual 98, 3) := by decide +kernel
theorem dX10_part_76 : decode cX10_part 76 = .ok (.ireturn, 1) := by decide +kernel
theorem dX10_grant_0 : decode cX10_grant 0 = .ok (.aload_n 0, 1) := by decide +kernel
theorem dX10_grant_1 : decode cX10_grant 1 = .ok (.iconst 0, 1) := by decide +kernel
theorem dX10_grant_2 : decode cX10_grant 2 = .ok (.putfield 80, 3) := by decide +kernel
theorem dX10_grant_5 : decode cX10_grant 5 = .ok (.aload_n 0, 1) := by decide +kernel
theorem dX10_grant_6 : decode cX10_grant 6 = .ok (.iload_n 1, 1) := by decide +kernel
theorem dX10_grant_7 : decode cX10_grant 7 = .ok (.invokevirtual 101, 3) := by decide +kernel
theorem dX10_grant_10 : decode cX10_grant 10 = .ok (.ifCond .ne 9, 3) := by decide +kernel
theorem dX10_grant_13 : decode cX10_grant 13 = .ok (.aload_n 0, 1) := by decide +kernel
theorem dX10_grant_14 : decode cX10_grant 14 = .ok (.iconst 1, 1) := by decide +kernel
theorem dX10_grant_15 : decode cX10_grant 15 = .ok (.invokevirtual 105, 3) := by decide +kernel
theorem dX10_grant_18 : decode cX10_grant 18 = .ok (.ireturn, 1) := by decide +kernel
theorem dX10_grant_19 : decode cX10_grant 19 = .ok (.iload_n 2, 1) := by decide +kernel
theorem dX10_grant_20 : decode cX10_grant 20 = .ok (.iconst 0, 1) := by decide +kernel
theorem dX10_grant_21 : decode cX10_grant 21 = .ok (.ldc 89, 2) := by decide +kernel
theorem dX10_grant_23 : decode cX10_grant 23 = .ok (.invokestatic 90, 3) := by decide +kernel
theorem dX10_grant_26 : decode cX10_grant 26 = .ok (.ifCond .ne 9, 3) := by decide +kernel
theorem dX10_grant_29 : decode cX10_grant 29 = .ok (.aload_n 0, 1) := by decide +kernel
theorem dX10_grant_30 : decode cX10_grant 30 = .ok (.iconst 2, 1) := by decide +kernel
theorem dX10_grant_31 : decode cX10_grant 31 = .ok (.invokevirtual 105, 3) := by decide +kernel
theorem dX10_grant_34 : decode cX10_grant 34 = .ok (.ireturn, 1) := by decide +kernel
theorem dX10_grant_35 : decode cX10_grant 35 = .ok (.aload_n 0, 1) := by decide +kernel
theorem dX10_grant_36 : decode cX10_grant 36 = .ok (.getfield 13, 3) := by decide +kernel
theorem dX10_grant_39 : decode cX10_grant 39 = .ok (.iload_n 1, 1) := by decide +kernel
theorem dX10_grant_40 : decode cX10_grant 40 = .ok (.iload_n 2, 1) := by decide +kernel
theorem dX10_grant_41 : decode cX10_grant 41 = .ok (.iastore, 1) := by decide +kernel
theorem dX10_grant_42 : decode cX10_grant 42 = .ok (.aload_n 0, 1) := by decide +kernel
theorem dX10_grant_43 : decode cX10_grant 43 = .ok (.invokevirtual 108, 3) := by decide +kernel
theorem dX10_grant_46 : decode cX10_grant 46 = .ok (.ireturn, 1) := by decide +kernel
theorem dX10_stop_0 : decode cX10_stop 0 = .ok (.aload_n 0, 1) := by decide +kernel
theorem dX10_stop_1 : decode cX10_stop 1 = .ok (.getfield 41, 3) := by decide +kernel
theorem dX10_stop_4 : decode cX10_stop 4 = .ok (.iload_n 1, 1) := by decide +kernel
theorem dX10_stop_5 : decode cX10_stop 5 = .ok (.putfield 112, 3) := by decide +kernel
theorem dX10_stop_8 : decode cX10_stop 8 = .ok (.aload_n 0, 1) := by decide +kernel
theorem dX10_stop_9 : decode cX10_stop 9 = .ok (.getfield 41, 3) := by decide +kernel
theorem dX10_stop_12 : decode cX10_stop 12 = .ok (.aload_n 0, 1) := by decide +kernel
theorem dX10_stop_13 : decode cX10_stop 13 = .ok (.getfield 114, 3) := by decide +kernel
theorem dX10_stop_16 : decode cX10_stop 16 = .ok (.putfield 117, 3) := by decide +kernel
theorem dX10_stop_19 : decode cX10_stop 19 = .ok (.aload_n 0, 1) := by decide +kernel
theorem dX10_stop_20 : decode cX10_stop 20 = .ok (.getfield 41, 3) := by decide +kernel
theorem dX10_stop_23 : decode cX10_stop 23 = .ok (.areturn, 1) := by decide +kernel
theorem dX10_byteAt_0 : decode cX10_byteAt 0 = .ok (.iload_n 1, 1) := by decide +kernel
theorem dX10_byteAt_1 : decode cX10_byteAt 1 = .ok (.aload_n 0, 1) := by decide +kernel
theorem dX10_byteAt_2 : decode cX10_byteAt 2 = .ok (.getfield 118, 3) := by decide +kernel
theorem dX10_byteAt_5 : decode cX10_byteAt 5 = .ok (.if_icmp .ge 16, 3) := by decide +kernel
theorem dX10_byteAt_8 : decode cX10_byteAt 8 = .ok (.aload_n 0, 1) := by decide +kernel
theorem dX10_byteAt_9 : decode cX10_byteAt 9 = .ok (.getfield 45, 3) := by decide +kernel
theorem dX10_byteAt_12 : decode cX10_byteAt 12 = .ok (.iload_n 1, 1) := by decide +kernel
theorem dX10_byteAt_13 : decode cX10_byteAt 13 = .ok (.baload, 1) := by decide +kernel
theorem dX10_byteAt_14 : decode cX10_byteAt 14 = .ok (.sipush 255, 3) := by decide +kernel
theorem dX10_byteAt_17 : decode cX10_byteAt 17 = .ok (.iand, 1) := by decide +kernel
theorem dX10_byteAt_18 : decode cX10_byteAt 18 = .ok (.goto 4, 3) := by decide +kernel
theorem dX10_byteAt_21 : decode cX10_byteAt 21 = .ok (.iconst (-1), 1) := by decide +kernel
theorem dX10_byteAt_22 : decode cX10_byteAt 22 = .ok (.ireturn, 1) := by decide +kernel
theorem dX10_isLetter_0 : decode cX10_isLetter 0 = .ok (.iload_n 0, 1) := by decide +kernel
theorem dX10_isLetter_1 : decode cX10_isLetter 1 = .ok (.bipush 97, 2) := by decide +kernel
theorem dX10_isLetter_3 : decode cX10_isLetter 3 = .ok (.if_icmp .lt 13, 3) := by decide +kernel
theorem dX10_isLetter_6 : decode cX10_isLetter 6 = .ok (.iload_n 0, 1) := by decide +kernel
theorem dX10_isLetter_7 : decode cX10_isLetter 7 = .ok (.bipush 122, 2) := by decide +kernel
theorem dX10_isLetter_9 : decode cX10_isLetter 9 = .ok (.if_icmp .gt 7, 3) := by decide +kernel
theorem dX10_isLetter_12 : decode cX10_isLetter 12 = .ok (.iconst 1, 1) := by decide +kernel
theorem dX10_isLetter_13 : decode cX10_isLetter 13 = .ok (.goto 4, 3) := by decide +kernel
theorem dX10_isLetter_16 : decode cX10_isLetter 16 = .ok (.iconst 0, 1) := by decide +kernel
theorem dX10_isLetter_17 : decode cX10_isLetter 17 = .ok (.ireturn, 1) := by decide +kernel
theorem dX10_isDigit_0 : decode cX10_isDigit 0 = .ok (.iload_n 0, 1) := by decide +kernel
theorem dX10_isDigit_1 : decode cX10_isDigit 1 = .ok (.bipush 48, 2) := by decide +kernel
theorem dX10_isDigit_3 : decode cX10_isDigit 3 = .ok (.if_icmp .lt 13, 3) := by decide +kernel
theorem dX10_isDigit_6 : decode cX10_isDigit 6 = .ok (.iload_n 0, 1) := by decide +kernel
theorem dX10_isDigit_7 : decode cX10_isDigit 7 = .ok (.bipush 57, 2) := by decide +kernel
theorem dX10_isDigit_9 : decode cX10_isDigit 9 = .ok (.if_icmp .gt 7, 3) := by decide +kernel
theorem dX10_isDigit_12 : decode cX10_isDigit 12 = .ok (.iconst 1, 1) := by decide +kernel
theorem dX10_isDigit_13 : decode cX10_isDigit 13 = .ok (.goto 4, 3) := by decide +kernel
theorem dX10_isDigit_16 : decode cX10_isDigit 16 = .ok (.iconst 0, 1) := by decide +kernel
theorem dX10_isDigit_17 : decode cX10_isDigit 17 = .ok (.ireturn, 1) := by decide +kernel
theorem dX10_wordOf_0 : decode cX10_wordOf 0 = .ok (.lconst 0, 1) := by decide +kernel
theorem dX10_wordOf_1 : decode cX10_wordOf 1 = .ok (.lstore_n 1, 1) := by decide +kernel
theorem dX10_wordOf_2 : decode cX10_wordOf 2 = .ok (.iconst 0, 1) := by decide +kernel
theorem dX10_wordOf_3 : decode cX10_wordOf 3 = .ok (.istore_n 3, 1) := by decide +kernel
theorem dX10_wordOf_4 : decode cX10_wordOf 4 = .ok (.iload_n 3, 1) := by decide +kernel
theorem dX10_wordOf_5 : decode cX10_wordOf 5 = .ok (.aload_n 0, 1) := by decide +kernel
theorem dX10_wordOf_6 : decode cX10_wordOf 6 = .ok (.invokevirtual 121, 3) := by decide +kernel
theorem dX10_wordOf_9 : decode cX10_wordOf 9 = .ok (.if_icmp .ge 27, 3) := by decide +kernel
theorem dX10_wordOf_12 : decode cX10_wordOf 12 = .ok (.ldc2_w 127, 3) := by decide +kernel
theorem dX10_wordOf_15 : decode cX10_wordOf 15 = .ok (.lload_n 1, 1) := by decide +kernel
theorem dX10_wordOf_16 : decode cX10_wordOf 16 = .ok (.lmul, 1) := by decide +kernel
theorem dX10_wordOf_17 : decode cX10_wordOf 17 = .ok (.aload_n 0, 1) := by decide +kernel
theorem dX10_wordOf_18 : decode cX10_wordOf 18 = .ok (.iload_n 3, 1) := by decide +kernel
theorem dX10_wordOf_19 : decode cX10_wordOf 19 = .ok (.invokevirtual 129, 3) := by decide +kernel
theorem dX10_wordOf_22 : decode cX10_wordOf 22 = .ok (.bipush 97, 2) := by decide +kernel
theorem dX10_wordOf_24 : decode cX10_wordOf 24 = .ok (.isub, 1) := by decide +kernel
theorem dX10_wordOf_25 : decode cX10_wordOf 25 = .ok (.iconst 1, 1) := by decide +kernel
theorem dX10_wordOf_26 : decode cX10_wordOf 26 = .ok (.iadd, 1) := by decide +kernel
theorem dX10_wordOf_27 : decode cX10_wordOf 27 = .ok (.i2l, 1) := by decide +kernel
theorem dX10_wordOf_28 : decode cX10_wordOf 28 = .ok (.ladd, 1) := by decide +kernel
theorem dX10_wordOf_29 : decode cX10_wordOf 29 = .ok (.lstore_n 1, 1) := by decide +kernel
theorem dX10_wordOf_30 : decode cX10_wordOf 30 = .ok (.iinc 3 1, 3) := by decide +kernel
theorem dX10_wordOf_33 : decode cX10_wordOf 33 = .ok (.goto (-29), 3) := by decide +kernel
theorem dX10_wordOf_36 : decode cX10_wordOf 36 = .ok (.lload_n 1, 1) := by decide +kernel
theorem dX10_wordOf_37 : decode cX10_wordOf 37 = .ok (.lreturn, 1) := by decide +kernel
theorem dX10_next_0 : decode cX10_next 0 = .ok (.aload_n 0, 1) := by decide +kernel
theorem dX10_next_1 : decode cX10_next 1 = .ok (.aload_n 0, 1) := by decide +kernel
theorem dX10_next_2 : decode cX10_next 2 = .ok (.getfield 133, 3) := by decide +kernel
theorem dX10_next_5 : decode cX10_next 5 = .ok (.invokevirtual 136, 3) := by decide +kernel
theorem dX10_next_8 : decode cX10_next 8 = .ok (.bipush 32, 2) := by decide +kernel
theorem dX10_next_10 : decode cX10_next 10 = .ok (.if_icmp .ne 16, 3) := by decide +kernel
theorem dX10_next_13 : decode cX10_next 13 = .ok (.aload_n 0, 1) := by decide +kernel
theorem dX10_next_14 : decode cX10_next 14 = .ok (.dup, 1) := by decide +kernel
theorem dX10_next_15 : decode cX10_next 15 = .ok (.getfield 133, 3) := by decide +kernel
theorem dX10_next_18 : decode cX10_next 18 = .ok (.iconst 1, 1) := by decide +kernel
theorem dX10_next_19 : decode cX10_next 19 = .ok (.iadd, 1) := by decide +kernel
theorem dX10_next_20 : decode cX10_next 20 = .ok (.putfield 133, 3) := by decide +kernel
theorem dX10_next_23 : decode cX10_next 23 = .ok (.goto (-23), 3) := by decide +kernel
theorem dX10_next_26 : decode cX10_next 26 = .ok (.aload_n 0, 1) := by decide +kernel
theorem dX10_next_27 : decode cX10_next 27 = .ok (.aload_n 0, 1) := by decide +kernel
theorem dX10_next_28 : decode cX10_next 28 = .ok (.getfield 133, 3) := by decide +kernel
theorem dX10_next_31 : decode cX10_next 31 = .ok (.putfield 114, 3) := by decide +kernel
theorem dX10_next_34 : decode cX10_next 34 = .ok (.aload_n 0, 1) := by decide +kernel
theorem dX10_next_35 : decode cX10_next 35 = .ok (.iconst 0, 1) := by decide +kernel
theorem dX10_next_36 : decode cX10_next 36 = .ok (.putfield 139, 3) := by decide +kernel
theorem dX10_next_39 : decode cX10_next 39 = .ok (.aload_n 0, 1) := by decide +kernel
theorem dX10_next_40 : decode cX10_next 40 = .ok (.iconst 0, 1) := by decide +kernel
theorem dX10_next_41 : decode cX10_next 41 = .ok (.putfield 142, 3) := by decide +kernel
theorem dX10_next_44 : decode cX10_next 44 = .ok (.aload_n 0, 1) := by decide +kernel
theorem dX10_next_45 : decode cX10_next 45 = .ok (.aload_n 0, 1) := by decide +kernel
theorem dX10_next_46 : decode cX10_next 46 = .ok (.getfield 133, 3) := by decide +kernel
theorem dX10_next_49 : decode cX10_next 49 = .ok (.invokevirtual 136, 3) := by decide +kernel
theorem dX10_next_52 : decode cX10_next 52 = .ok (.istore_n 1, 1) := by decide +kernel
theorem dX10_next_53 : decode cX10_next 53 = .ok (.iconst 0, 1) := by decide +kernel
theorem dX10_next_54 : decode cX10_next 54 = .ok (.istore_n 2, 1) := by decide +kernel
theorem dX10_next_55 : decode cX10_next 55 = .ok (.iload_n 1, 1) := by decide +kernel
theorem dX10_next_56 : decode cX10_next 56 = .ok (.iconst (-1), 1) := by decide +kernel
theorem dX10_next_57 : decode cX10_next 57 = .ok (.if_icmp .ne 11, 3) := by decide +kernel
theorem dX10_next_60 : decode cX10_next 60 = .ok (.aload_n 0, 1) := by decide +kernel
theorem dX10_next_61 : decode cX10_next 61 = .ok (.iconst 1, 1) := by decide +kernel
theorem dX10_next_62 : decode cX10_next 62 = .ok (.putfield 139, 3) := by decide +kernel
theorem dX10_next_65 : decode cX10_next 65 = .ok (.goto 207, 3) := by decide +kernel
theorem dX10_next_68 : decode cX10_next 68 = .ok (.iload_n 1, 1) := by decide +kernel
theorem dX10_next_69 : decode cX10_next 69 = .ok (.invokestatic 145, 3) := by decide +kernel
theorem dX10_next_72 : decode cX10_next 72 = .ok (.ifCond .eq 85, 3) := by decide +kernel
theorem dX10_next_75 : decode cX10_next 75 = .ok (.aload_n 0, 1) := by decide +kernel
theorem dX10_next_76 : decode cX10_next 76 = .ok (.lconst 0, 1) := by decide +kernel
theorem dX10_next_77 : decode cX10_next 77 = .ok (.putfield 148, 3) := by decide +kernel
theorem dX10_next_80 : decode cX10_next 80 = .ok (.aload_n 0, 1) := by decide +kernel
theorem dX10_next_81 : decode cX10_next 81 = .ok (.aload_n 0, 1) := by decide +kernel
theorem dX10_next_82 : decode cX10_next 82 = .ok (.getfield 133, 3) := by decide +kernel
theorem dX10_next_85 : decode cX10_next 85 = .ok (.invokevirtual 136, 3) := by decide +kernel
theorem dX10_next_88 : decode cX10_next 88 = .ok (.invokestatic 145, 3) := by decide +kernel
theorem dX10_next_91 : decode cX10_next 91 = .ok (.ifCond .eq 52, 3) := by decide +kernel
theorem dX10_next_94 : decode cX10_next 94 = .ok (.iload_n 2, 1) := by decide +kernel
theorem dX10_next_95 : decode cX10_next 95 = .ok (.bipush 8, 2) := by decide +kernel
theorem dX10_next_97 : decode cX10_next 97 = .ok (.if_icmp .ge 30, 3) := by decide +kernel
theorem dX10_next_100 : decode cX10_next 100 = .ok (.aload_n 0, 1) := by decide +kernel
theorem dX10_next_101 : decode cX10_next 101 = .ok (.ldc2_w 127, 3) := by decide +kernel
theorem dX10_next_104 : decode cX10_next 104 = .ok (.aload_n 0, 1) := by decide +kernel
theorem dX10_next_105 : decode cX10_next 105 = .ok (.getfield 148, 3) := by decide +kernel
theorem dX10_next_108 : decode cX10_next 108 = .ok (.lmul, 1) := by decide +kernel
theorem dX10_next_109 : decode cX10_next 109 = .ok (.aload_n 0, 1) := by decide +kernel
theorem dX10_next_110 : decode cX10_next 110 = .ok (.aload_n 0, 1) := by decide +kernel
theorem dX10_next_111 : decode cX10_next 111 = .ok (.getfield 133, 3) := by decide +kernel
theorem dX10_next_114 : decode cX10_next 114 = .ok (.invokevirtual 136, 3) := by decide +kernel
theorem dX10_next_117 : decode cX10_next 117 = .ok (.bipush 97, 2) := by decide +kernel
theorem dX10_next_119 : decode cX10_next 119 = .ok (.isub, 1) := by decide +kernel
theorem dX10_next_120 : decode cX10_next 120 = .ok (.iconst 1, 1) := by decide +kernel
theorem dX10_next_121 : decode cX10_next 121 = .ok (.iadd, 1) := by decide +kernel
theorem dX10_next_122 : decode cX10_next 122 = .ok (.i2l, 1) := by decide +kernel
theorem dX10_next_123 : decode cX10_next 123 = .ok (.ladd, 1) := by decide +kernel
theorem dX10_next_124 : decode cX10_next 124 = .ok (.putfield 148, 3) := by decide +kernel
theorem dX10_next_127 : decode cX10_next 127 = .ok (.iinc 2 1, 3) := by decide +kernel
theorem dX10_next_130 : decode cX10_next 130 = .ok (.aload_n 0, 1) := by decide +kernel
theorem dX10_next_131 : decode cX10_next 131 = .ok (.dup, 1) := by decide +kernel
theorem dX10_next_132 : decode cX10_next 132 = .ok (.getfield 133, 3) := by decide +kernel
theorem dX10_next_135 : decode cX10_next 135 = .ok (.iconst 1, 1) := by decide +kernel
theorem dX10_next_136 : decode cX10_next 136 = .ok (.iadd, 1) := by decide +kernel
theorem dX10_next_137 : decode cX10_next 137 = .ok (.putfield 133, 3) := by decide +kernel
theorem dX10_next_140 : decode cX10_next 140 = .ok (.goto (-60), 3) := by decide +kernel
theorem dX10_next_143 : decode cX10_next 143 = .ok (.iload_n 2, 1) := by decide +kernel
theorem dX10_next_144 : decode cX10_next 144 = .ok (.bipush 9, 2) := by decide +kernel
theorem dX10_next_146 : decode cX10_next 146 = .ok (.if_icmp .ge 126, 3) := by decide +kernel
theorem dX10_next_149 : decode cX10_next 149 = .ok (.aload_n 0, 1) := by decide +kernel
theorem dX10_next_150 : decode cX10_next 150 = .ok (.iconst 2, 1) := by decide +kernel
theorem dX10_next_151 : decode cX10_next 151 = .ok (.putfield 139, 3) := by decide +kernel
theorem dX10_next_154 : decode cX10_next 154 = .ok (.goto 118, 3) := by decide +kernel
theorem dX10_next_157 : decode cX10_next 157 = .ok (.iload_n 1, 1) := by decide +kernel
theorem dX10_next_158 : decode cX10_next 158 = .ok (.invokestatic 152, 3) := by decide +kernel
theorem dX10_next_161 : decode cX10_next 161 = .ok (.ifCond .eq 79, 3) := by decide +kernel
theorem dX10_next_164 : decode cX10_next 164 = .ok (.aload_n 0, 1) := by decide +kernel
theorem dX10_next_165 : decode cX10_next 165 = .ok (.iconst 0, 1) := by decide +kernel
theorem dX10_next_166 : decode cX10_next 166 = .ok (.putfield 155, 3) := by decide +kernel
theorem dX10_next_169 : decode cX10_next 169 = .ok (.aload_n 0, 1) := by decide +kernel
theorem dX10_next_170 : decode cX10_next 170 = .ok (.aload_n 0, 1) := by decide +kernel
theorem dX10_next_171 : decode cX10_next 171 = .ok (.getfield 133, 3) := by decide +kernel
theorem dX10_next_174 : decode cX10_next 174 = .ok (.invokevirtual 136, 3) := by decide +kernel
theorem dX10_next_177 : decode cX10_next 177 = .ok (.invokestatic 152, 3) := by decide +kernel
theorem dX10_next_180 : decode cX10_next 180 = .ok (.ifCond .eq 47, 3) := by decide +kernel
theorem dX10_next_183 : decode cX10_next 183 = .ok (.iload_n 2, 1) := by decide +kernel
theorem dX10_next_184 : decode cX10_next 184 = .ok (.iconst 2, 1) := by decide +kernel
theorem dX10_next_185 : decode cX10_next 185 = .ok (.if_icmp .ge 26, 3) := by decide +kernel
theorem dX10_next_188 : decode cX10_next 188 = .ok (.aload_n 0, 1) := by decide +kernel
theorem dX10_next_189 : decode cX10_next 189 = .ok (.bipush 10, 2) := by decide +kernel
theorem dX10_next_191 : decode cX10_next 191 = .ok (.aload_n 0, 1) := by decide +kernel
theorem dX10_next_192 : decode cX10_next 192 = .ok (.getfield 155, 3) := by decide +kernel
theorem dX10_next_195 : decode cX10_next 195 = .ok (.imul, 1) := by decide +kernel
theorem dX10_next_196 : decode cX10_next 196 = .ok (.aload_n 0, 1) := by decide +kernel
theorem dX10_next_197 : decode cX10_next 197 = .ok (.aload_n 0, 1) := by decide +kernel
theorem dX10_next_198 : decode cX10_next 198 = .ok (.getfield 133, 3) := by decide +kernel
theorem dX10_next_201 : decode cX10_next 201 = .ok (.invokevirtual 136, 3) := by decide +kernel
theorem dX10_next_204 : decode cX10_next 204 = .ok (.iadd, 1) := by decide +kernel
theorem dX10_next_205 : decode cX10_next 205 = .ok (.bipush 48, 2) := by decide +kernel
theorem dX10_next_207 : decode cX10_next 207 = .ok (.isub, 1) := by decide +kernel
theorem dX10_next_208 : decode cX10_next 208 = .ok (.putfield 155, 3) := by decide +kernel
theorem dX10_next_211 : decode cX10_next 211 = .ok (.iinc 2 1, 3) := by decide +kernel
theorem dX10_next_214 : decode cX10_next 214 = .ok (.aload_n 0, 1) := by decide +kernel
theorem dX10_next_215 : decode cX10_next 215 = .ok (.dup, 1) := by decide +kernel
theorem dX10_next_216 : decode cX10_next 216 = .ok (.getfield 133, 3) := by decide +kernel
theorem dX10_next_219 : decode cX10_next 219 = .ok (.iconst 1, 1) := by decide +kernel
theorem dX10_next_220 : decode cX10_next 220 = .ok (.iadd, 1) := by decide +kernel
theorem dX10_next_221 : decode cX10_next 221 = .ok (.putfield 133, 3) := by decide +kernel
theorem dX10_next_224 : decode cX10_next 224 = .ok (.goto (-55), 3) := by decide +kernel
theorem dX10_next_227 : decode cX10_next 227 = .ok (.iload_n 2, 1) := by decide +kernel
theorem dX10_next_228 : decode cX10_next 228 = .ok (.iconst 3, 1) := by decide +kernel
theorem dX10_next_229 : decode cX10_next 229 = .ok (.if_icmp .ge 43, 3) := by decide +kernel
theorem dX10_next_232 : decode cX10_next 232 = .ok (.aload_n 0, 1) := by decide +kernel
theorem dX10_next_233 : decode cX10_next 233 = .ok (.iconst 3, 1) := by decide +kernel
theorem dX10_next_234 : decode cX10_next 234 = .ok (.putfield 139, 3) := by decide +kernel
theorem dX10_next_237 : decode cX10_next 237 = .ok (.goto 35, 3) := by decide +kernel
theorem dX10_next_240 : decode cX10_next 240 = .ok (.iload_n 1, 1) := by decide +kernel
theorem dX10_next_241 : decode cX10_next 241 = .ok (.bipush 44, 2) := by decide +kernel
theorem dX10_next_243 : decode cX10_next 243 = .ok (.if_icmp .eq 9, 3) := by decide +kernel
theorem dX10_next_246 : decode cX10_next 246 = .ok (.iload_n 1, 1) := by decide +kernel
theorem dX10_next_247 : decode cX10_next 247 = .ok (.bipush 59, 2) := by decide +kernel
theorem dX10_next_249 : decode cX10_next 249 = .ok (.if_icmp .ne 23, 3) := by decide +kernel
theorem dX10_next_252 : decode cX10_next 252 = .ok (.aload_n 0, 1) := by decide +kernel
theorem dX10_next_253 : decode cX10_next 253 = .ok (.iconst 4, 1) := by decide +kernel
theorem dX10_next_254 : decode cX10_next 254 = .ok (.putfield 139, 3) := by decide +kernel
theorem dX10_next_257 : decode cX10_next 257 = .ok (.aload_n 0, 1) := by decide +kernel
theorem dX10_next_258 : decode cX10_next 258 = .ok (.iload_n 1, 1) := by decide +kernel
theorem dX10_next_259 : decode cX10_next 259 = .ok (.putfield 142, 3) := by decide +kernel
theorem dX10_next_262 : decode cX10_next 262 = .ok (.aload_n 0, 1) := by decide +kernel
theorem dX10_next_263 : decode cX10_next 263 = .ok (.dup, 1) := by decide +kernel
theorem dX10_next_264 : decode cX10_next 264 = .ok (.getfield 133, 3) := by decide +kernel
theorem dX10_next_267 : decode cX10_next 267 = .ok (.iconst 1, 1) := by decide +kernel
theorem dX10_next_268 : decode cX10_next 268 = .ok (.iadd, 1) := by decide +kernel
theorem dX10_next_269 : decode cX10_next 269 = .ok (.putfield 133, 3) := by decide +kernel
theorem dX10_next_272 : decode cX10_next 272 = .ok (.return_, 1) := by decide +kernel
theorem dX10_isWord_0 : decode cX10_isWord 0 = .ok (.aload_n 0, 1) := by decide +kernel
theorem dX10_isWord_1 : decode cX10_isWord 1 = .ok (.getfield 139, 3) := by decide +kernel
theorem dX10_isWord_4 : decode cX10_isWord 4 = .ok (.iconst 2, 1) := by decide +kernel
theorem dX10_isWord_5 : decode cX10_isWord 5 = .ok (.if_icmp .ne 19, 3) := by decide +kernel
theorem dX10_isWord_8 : decode cX10_isWord 8 = .ok (.aload_n 0, 1) := by decide +kernel
theorem dX10_isWord_9 : decode cX10_isWord 9 = .ok (.getfield 148, 3) := by decide +kernel
theorem dX10_isWord_12 : decode cX10_isWord 12 = .ok (.aload_n 1, 1) := by decide +kernel
theorem dX10_isWord_13 : decode cX10_isWord 13 = .ok (.invokestatic 158, 3) := by decide +kernel
theorem dX10_isWord_16 : decode cX10_isWord 16 = .ok (.lcmp, 1) := by decide +kernel
theorem dX10_isWord_17 : decode cX10_isWord 17 = .ok (.ifCond .ne 7, 3) := by decide +kernel
theorem dX10_isWord_20 : decode cX10_isWord 20 = .ok (.iconst 1, 1) := by decide +kernel
theorem dX10_isWord_21 : decode cX10_isWord 21 = .ok (.goto 4, 3) := by decide +kernel
theorem dX10_isWord_24 : decode cX10_isWord 24 = .ok (.iconst 0, 1) := by decide +kernel
theorem dX10_isWord_25 : decode cX10_isWord 25 = .ok (.ireturn, 1) := by decide +kernel
theorem dX10_is_0 : decode cX10_is 0 = .ok (.aload_n 0, 1) := by decide +kernel
theorem dX10_is_1 : decode cX10_is 1 = .ok (.getfield 139, 3) := by decide +kernel
theorem dX10_is_4 : decode cX10_is 4 = .ok (.iconst 4, 1) := by decide +kernel
theorem dX10_is_5 : decode cX10_is 5 = .ok (.if_icmp .ne 15, 3) := by decide +kernel
theorem dX10_is_8 : decode cX10_is 8 = .ok (.aload_n 0, 1) := by decide +kernel
theorem dX10_is_9 : decode cX10_is 9 = .ok (.getfield 142, 3) := by decide +kernel
theorem dX10_is_12 : decode cX10_is 12 = .ok (.iload_n 1, 1) := by decide +kernel
theorem dX10_is_13 : decode cX10_is 13 = .ok (.if_icmp .ne 7, 3) := by decide +kernel
theorem dX10_is_16 : decode cX10_is 16 = .ok (.iconst 1, 1) := by decide +kernel
theorem dX10_is_17 : decode cX10_is 17 = .ok (.goto 4, 3) := by decide +kernel
theorem dX10_is_20 : decode cX10_is 20 = .ok (.iconst 0, 1) := by decide +kernel
theorem dX10_is_21 : decode cX10_is 21 = .ok (.ireturn, 1) := by decide +kernel
theorem dX10_needWord_0 : decode cX10_needWord 0 = .ok (.aload_n 0, 1) := by decide +kernel
theorem dX10_needWord_1 : decode cX10_needWord 1 = .ok (.aload_n 1, 1) := by decide +kernel
theorem dX10_needWord_2 : decode cX10_needWord 2 = .ok (.invokevirtual 162, 3) := by decide +kernel
theorem dX10_needWord_5 : decode cX10_needWord 5 = .ok (.ifCond .ne 9, 3) := by decide +kernel
theorem dX10_needWord_8 : decode cX10_needWord 8 = .ok (.aload_n 0, 1) := by decide +kernel
theorem dX10_needWord_9 : decode cX10_needWord 9 = .ok (.iconst 1, 1) := by decide +kernel
theorem dX10_needWord_10 : decode cX10_needWord 10 = .ok (.invokevirtual 166, 3) := by decide +kernel
theorem dX10_needWord_13 : decode cX10_needWord 13 = .ok (.athrow, 1) := by decide +kernel
theorem dX10_needWord_14 : decode cX10_needWord 14 = .ok (.aload_n 0, 1) := by decide +kernel
theorem dX10_needWord_15 : decode cX10_needWord 15 = .ok (.invokevirtual 169, 3) := by decide +kernel
theorem dX10_needWord_18 : decode cX10_needWord 18 = .ok (.return_, 1) := by decide +kernel
theorem dX10_nameHere_0 : decode cX10_nameHere 0 = .ok (.aload_n 0, 1) := by decide +kernel
theorem dX10_nameHere_1 : decode cX10_nameHere 1 = .ok (.getfield 139, 3) := by decide +kernel
theorem dX10_nameHere_4 : decode cX10_nameHere 4 = .ok (.iconst 2, 1) := by decide +kernel
theorem dX10_nameHere_5 : decode cX10_nameHere 5 = .ok (.if_icmp .eq 9, 3) := by decide +kernel
theorem dX10_nameHere_8 : decode cX10_nameHere 8 = .ok (.aload_n 0, 1) := by decide +kernel
theorem dX10_nameHere_9 : decode cX10_nameHere 9 = .ok (.iconst 1, 1) := by decide +kernel
theorem dX10_nameHere_10 : decode cX10_nameHere 10 = .ok (.invokevirtual 166, 3) := by decide +kernel
theorem dX10_nameHere_13 : decode cX10_nameHere 13 = .ok (.athrow, 1) := by decide +kernel
theorem dX10_nameHere_14 : decode cX10_nameHere 14 = .ok (.aload_n 0, 1) := by decide +kernel
theorem dX10_nameHere_15 : decode cX10_nameHere 15 = .ok (.getfield 148, 3) := by decide +kernel
theorem dX10_nameHere_18 : decode cX10_nameHere 18 = .ok (.lconst 1, 1) := by decide +kernel
theorem dX10_nameHere_19 : decode cX10_nameHere 19 = .ok (.lcmp, 1) := by decide +kernel
theorem dX10_nameHere_20 : decode cX10_nameHere 20 = .ok (.ifCond .lt 14, 3) := by decide +kernel
theorem dX10_nameHere_23 : decode cX10_nameHere 23 = .ok (.aload_n 0, 1) := by decide +kernel
theorem dX10_nameHere_24 : decode cX10_nameHere 24 = .ok (.getfield 148, 3) := by decide +kernel
theorem dX10_nameHere_27 : decode cX10_nameHere 27 = .ok (.ldc2_w 172, 3) := by decide +kernel
theorem dX10_nameHere_30 : decode cX10_nameHere 30 = .ok (.lcmp, 1) := by decide +kernel
theorem dX10_nameHere_31 : decode cX10_nameHere 31 = .ok (.ifCond .le 9, 3) := by decide +kernel
theorem dX10_nameHere_34 : decode cX10_nameHere 34 = .ok (.aload_n 0, 1) := by decide +kernel
theorem dX10_nameHere_35 : decode cX10_nameHere 35 = .ok (.iconst 2, 1) := by decide +kernel
theorem dX10_nameHere_36 : decode cX10_nameHere 36 = .ok (.invokevirtual 166, 3) := by decide +kernel
theorem dX10_nameHere_39 : decode cX10_nameHere 39 = .ok (.athrow, 1) := by decide +kernel
theorem dX10_nameHere_40 : decode cX10_nameHere 40 = .ok (.aload_n 0, 1) := by decide +kernel
theorem dX10_nameHere_41 : decode cX10_nameHere 41 = .ok (.getfield 148, 3) := by decide +kernel
theorem dX10_nameHere_44 : decode cX10_nameHere 44 = .ok (.l2i, 1) := by decide +kernel
theorem dX10_nameHere_45 : decode cX10_nameHere 45 = .ok (.iconst 1, 1) := by decide +kernel
theorem dX10_nameHere_46 : decode cX10_nameHere 46 = .ok (.isub, 1) := by decide +kernel
theorem dX10_nameHere_47 : decode cX10_nameHere 47 = .ok (.ireturn, 1) := by decide +kernel
theorem dX10_needName_0 : decode cX10_needName 0 = .ok (.aload_n 0, 1) := by decide +kernel
theorem dX10_needName_1 : decode cX10_needName 1 = .ok (.invokevirtual 174, 3) := by decide +kernel
theorem dX10_needName_4 : decode cX10_needName 4 = .ok (.istore_n 1, 1) := by decide +kernel
theorem dX10_needName_5 : decode cX10_needName 5 = .ok (.aload_n 0, 1) := by decide +kernel
theorem dX10_needName_6 : decode cX10_needName 6 = .ok (.invokevirtual 169, 3) := by decide +kernel
theorem dX10_needName_9 : decode cX10_needName 9 = .ok (.iload_n 1, 1) := by decide +kernel
theorem dX10_needName_10 : decode cX10_needName 10 = .ok (.ireturn, 1) := by decide +kernel
theorem dX10_needWhole_0 : decode cX10_needWhole 0 = .ok (.aload_n 0, 1) := by decide +kernel
theorem dX10_needWhole_1 : decode cX10_needWhole 1 = .ok (.getfield 139, 3) := by decide +kernel
theorem dX10_needWhole_4 : decode cX10_needWhole 4 = .ok (.iconst 3, 1) := by decide +kernel
theorem dX10_needWhole_5 : decode cX10_needWhole 5 = .ok (.if_icmp .eq 9, 3) := by decide +kernel
theorem dX10_needWhole_8 : decode cX10_needWhole 8 = .ok (.aload_n 0, 1) := by decide +kernel
theorem dX10_needWhole_9 : decode cX10_needWhole 9 = .ok (.iconst 1, 1) := by decide +kernel
theorem dX10_needWhole_10 : decode cX10_needWhole 10 = .ok (.invokevirtual 166, 3) := by decide +kernel
theorem dX10_needWhole_13 : decode cX10_needWhole 13 = .ok (.athrow, 1) := by decide +kernel
theorem dX10_needWhole_14 : decode cX10_needWhole 14 = .ok (.aload_n 0, 1) := by decide +kernel
theorem dX10_needWhole_15 : decode cX10_needWhole 15 = .ok (.getfield 155, 3) := by decide +kernel
theorem dX10_needWhole_18 : decode cX10_needWhole 18 = .ok (.iload_n 1, 1) := by decide +kernel
theorem dX10_needWhole_19 : decode cX10_needWhole 19 = .ok (.if_icmp .lt 9, 3) := by decide +kernel
theorem dX10_needWhole_22 : decode cX10_needWhole 22 = .ok (.aload_n 0, 1) := by decide +kernel
theorem dX10_needWhole_23 : decode cX10_needWhole 23 = .ok (.iconst 3, 1) := by decide +kernel
theorem dX10_needWhole_24 : decode cX10_needWhole 24 = .ok (.invokevirtual 166, 3) := by decide +kernel
theorem dX10_needWhole_27 : decode cX10_needWhole 27 = .ok (.athrow, 1) := by decide +kernel
theorem dX10_needWhole_28 : decode cX10_needWhole 28 = .ok (.aload_n 0, 1) := by decide +kernel
theorem dX10_needWhole_29 : decode cX10_needWhole 29 = .ok (.getfield 155, 3) := by decide +kernel
theorem dX10_needWhole_32 : decode cX10_needWhole 32 = .ok (.istore_n 2, 1) := by decide +kernel
theorem dX10_needWhole_33 : decode cX10_needWhole 33 = .ok (.aload_n 0, 1) := by decide +kernel
theorem dX10_needWhole_34 : decode cX10_needWhole 34 = .ok (.invokevirtual 169, 3) := by decide +kernel
theorem dX10_needWhole_37 : decode cX10_needWhole 37 = .ok (.iload_n 2, 1) := by decide +kernel
theorem dX10_needWhole_38 : decode cX10_needWhole 38 = .ok (.ireturn, 1) := by decide +kernel
theorem dX10_reads_0 : decode cX10_reads 0 = .ok (.aload_n 0, 1) := by decide +kernel
theorem dX10_reads_1 : decode cX10_reads 1 = .ok (.getfield 17, 3) := by decide +kernel
theorem dX10_reads_4 : decode cX10_reads 4 = .ok (.bipush 10, 2) := by decide +kernel
theorem dX10_reads_6 : decode cX10_reads 6 = .ok (.iconst 0, 1) := by decide +kernel
theorem dX10_reads_7 : decode cX10_reads 7 = .ok (.iastore, 1) := by decide +kernel
theorem dX10_reads_8 : decode cX10_reads 8 = .ok (.aload_n 0, 1) := by decide +kernel
theorem dX10_reads_9 : decode cX10_reads 9 = .ok (.invokevirtual 169, 3) := by decide +kernel
theorem dX10_reads_12 : decode cX10_reads 12 = .ok (.iconst 1, 1) := by decide +kernel
theorem dX10_reads_13 : decode cX10_reads 13 = .ok (.istore_n 1, 1) := by decide +kernel
theorem dX10_reads_14 : decode cX10_reads 14 = .ok (.iload_n 1, 1) := by decide +kernel
theorem dX10_reads_15 : decode cX10_reads 15 = .ok (.ifCond .eq 160, 3) := by decide +kernel
theorem dX10_reads_18 : decode cX10_reads 18 = .ok (.aload_n 0, 1) := by decide +kernel
theorem dX10_reads_19 : decode cX10_reads 19 = .ok (.ldc 177, 2) := by decide +kernel
theorem dX10_reads_21 : decode cX10_reads 21 = .ok (.invokevirtual 162, 3) := by decide +kernel
theorem dX10_reads_24 : decode cX10_reads 24 = .ok (.ifCond .eq 7, 3) := by decide +kernel
theorem dX10_reads_27 : decode cX10_reads 27 = .ok (.iconst 0, 1) := by decide +kernel
theorem dX10_reads_28 : decode cX10_reads 28 = .ok (.goto 69, 3) := by decide +kernel
theorem dX10_reads_31 : decode cX10_reads 31 = .ok (.aload_n 0, 1) := by decide +kernel
theorem dX10_reads_32 : decode cX10_reads 32 = .ok (.ldc 179, 2) := by decide +kernel
theorem dX10_reads_34 : decode cX10_reads 34 = .ok (.invokevirtual 162, 3) := by decide +kernel
theorem dX10_reads_37 : decode cX10_reads 37 = .ok (.ifCond .eq 7, 3) := by decide +kernel
theorem dX10_reads_40 : decode cX10_reads 40 = .ok (.iconst 1, 1) := by decide +kernel
theorem dX10_reads_41 : decode cX10_reads 41 = .ok (.goto 56, 3) := by decide +kernel
theorem dX10_reads_44 : decode cX10_reads 44 = .ok (.aload_n 0, 1) := by decide +kernel
theorem dX10_reads_45 : decode cX10_reads 45 = .ok (.ldc 181, 2) := by decide +kernel
theorem dX10_reads_47 : decode cX10_reads 47 = .ok (.invokevirtual 162, 3) := by decide +kernel
theorem dX10_reads_50 : decode cX10_reads 50 = .ok (.ifCond .eq 7, 3) := by decide +kernel
theorem dX10_reads_53 : decode cX10_reads 53 = .ok (.iconst 2, 1) := by decide +kernel
theorem dX10_reads_54 : decode cX10_reads 54 = .ok (.goto 43, 3) := by decide +kernel
theorem dX10_reads_57 : decode cX10_reads 57 = .ok (.aload_n 0, 1) := by decide +kernel
theorem dX10_reads_58 : decode cX10_reads 58 = .ok (.ldc 183, 2) := by decide +kernel
theorem dX10_reads_60 : decode cX10_reads 60 = .ok (.invokevirtual 162, 3) := by decide +kernel
theorem dX10_reads_63 : decode cX10_reads 63 = .ok (.ifCond .eq 7, 3) := by decide +kernel
theorem dX10_reads_66 : decode cX10_reads 66 = .ok (.iconst 3, 1) := by decide +kernel
theorem dX10_reads_67 : decode cX10_reads 67 = .ok (.goto 30, 3) := by decide +kernel
theorem dX10_reads_70 : decode cX10_reads 70 = .ok (.aload_n 0, 1) := by decide +kernel
theorem dX10_reads_71 : decode cX10_reads 71 = .ok (.ldc 185, 2) := by decide +kernel
theorem dX10_reads_73 : decode cX10_reads 73 = .ok (.invokevirtual 162, 3) := by decide +kernel
theorem dX10_reads_76 : decode cX10_reads 76 = .ok (.ifCond .eq 7, 3) := by decide +kernel
theorem dX10_reads_79 : decode cX10_reads 79 = .ok (.iconst 4, 1) := by decide +kernel
theorem dX10_reads_80 : decode cX10_reads 80 = .ok (.goto 17, 3) := by decide +kernel
theorem dX10_reads_83 : decode cX10_reads 83 = .ok (.aload_n 0, 1) := by decide +kernel
theorem dX10_reads_84 : decode cX10_reads 84 = .ok (.ldc 187, 2) := by decide +kernel
theorem dX10_reads_86 : decode cX10_reads 86 = .ok (.invokevirtual 162, 3) := by decide +kernel
theorem dX10_reads_89 : decode cX10_reads 89 = .ok (.ifCond .eq 7, 3) := by decide +kernel
theorem dX10_reads_92 : decode cX10_reads 92 = .ok (.iconst 5, 1) := by decide +kernel
theorem dX10_reads_93 : decode cX10_reads 93 = .ok (.goto 4, 3) := by decide +kernel
theorem dX10_reads_96 : decode cX10_reads 96 = .ok (.iconst (-1), 1) := by decide +kernel
theorem dX10_reads_97 : decode cX10_reads 97 = .ok (.istore_n 2, 1) := by decide +kernel
theorem dX10_reads_98 : decode cX10_reads 98 = .ok (.iload_n 2, 1) := by decide +kernel
theorem dX10_reads_99 : decode cX10_reads 99 = .ok (.iconst (-1), 1) := by decide +kernel
theorem dX10_reads_100 : decode cX10_reads 100 = .ok (.if_icmp .ne 9, 3) := by decide +kernel
theorem dX10_reads_103 : decode cX10_reads 103 = .ok (.aload_n 0, 1) := by decide +kernel
theorem dX10_reads_104 : decode cX10_reads 104 = .ok (.iconst 1, 1) := by decide +kernel
theorem dX10_reads_105 : decode cX10_reads 105 = .ok (.invokevirtual 166, 3) := by decide +kernel
theorem dX10_reads_108 : decode cX10_reads 108 = .ok (.athrow, 1) := by decide +kernel
theorem dX10_reads_109 : decode cX10_reads 109 = .ok (.aload_n 0, 1) := by decide +kernel
theorem dX10_reads_110 : decode cX10_reads 110 = .ok (.getfield 17, 3) := by decide +kernel
theorem dX10_reads_113 : decode cX10_reads 113 = .ok (.bipush 10, 2) := by decide +kernel
theorem dX10_reads_115 : decode cX10_reads 115 = .ok (.iaload, 1) := by decide +kernel
theorem dX10_reads_116 : decode cX10_reads 116 = .ok (.bipush 12, 2) := by decide +kernel
theorem dX10_reads_118 : decode cX10_reads 118 = .ok (.if_icmp .ne 9, 3) := by decide +kernel
theorem dX10_reads_121 : decode cX10_reads 121 = .ok (.aload_n 0, 1) := by decide +kernel
theorem dX10_reads_122 : decode cX10_reads 122 = .ok (.iconst 4, 1) := by decide +kernel
theorem dX10_reads_123 : decode cX10_reads 123 = .ok (.invokevirtual 166, 3) := by decide +kernel
theorem dX10_reads_126 : decode cX10_reads 126 = .ok (.athrow, 1) := by decide +kernel
theorem dX10_reads_127 : decode cX10_reads 127 = .ok (.aload_n 0, 1) := by decide +kernel
theorem dX10_reads_128 : decode cX10_reads 128 = .ok (.invokevirtual 169, 3) := by decide +kernel
theorem dX10_reads_131 : decode cX10_reads 131 = .ok (.aload_n 0, 1) := by decide +kernel
theorem dX10_reads_132 : decode cX10_reads 132 = .ok (.bipush 120, 2) := by decide +kernel
theorem dX10_reads_134 : decode cX10_reads 134 = .ok (.aload_n 0, 1) := by decide +kernel
theorem dX10_reads_135 : decode cX10_reads 135 = .ok (.getfield 17, 3) := by decide +kernel
theorem dX10_reads_138 : decode cX10_reads 138 = .ok (.bipush 10, 2) := by decide +kernel
theorem dX10_reads_140 : decode cX10_reads 140 = .ok (.iaload, 1) := by decide +kernel
theorem dX10_reads_141 : decode cX10_reads 141 = .ok (.iadd, 1) := by decide +kernel
theorem dX10_reads_142 : decode cX10_reads 142 = .ok (.iload_n 2, 1) := by decide +kernel
theorem dX10_reads_143 : decode cX10_reads 143 = .ok (.invokevirtual 189, 3) := by decide +kernel
theorem dX10_reads_146 : decode cX10_reads 146 = .ok (.aload_n 0, 1) := by decide +kernel
theorem dX10_reads_147 : decode cX10_reads 147 = .ok (.getfield 17, 3) := by decide +kernel
theorem dX10_reads_150 : decode cX10_reads 150 = .ok (.bipush 10, 2) := by decide +kernel
theorem dX10_reads_152 : decode cX10_reads 152 = .ok (.dup2, 1) := by decide +kernel
theorem dX10_reads_153 : decode cX10_reads 153 = .ok (.iaload, 1) := by decide +kernel
theorem dX10_reads_154 : decode cX10_reads 154 = .ok (.iconst 1, 1) := by decide +kernel
theorem dX10_reads_155 : decode cX10_reads 155 = .ok (.iadd, 1) := by decide +kernel
theorem dX10_reads_156 : decode cX10_reads 156 = .ok (.iastore, 1) := by decide +kernel
theorem dX10_reads_157 : decode cX10_reads 157 = .ok (.aload_n 0, 1) := by decide +kernel
theorem dX10_reads_158 : decode cX10_reads 158 = .ok (.bipush 59, 2) := by decide +kernel
theorem dX10_reads_160 : decode cX10_reads 160 = .ok (.invokevirtual 193, 3) := by decide +kernel
theorem dX10_reads_163 : decode cX10_reads 163 = .ok (.istore_n 1, 1) := by decide +kernel
theorem dX10_reads_164 : decode cX10_reads 164 = .ok (.iload_n 1, 1) := by decide +kernel
theorem dX10_reads_165 : decode cX10_reads 165 = .ok (.ifCond .eq 7, 3) := by decide +kernel
theorem dX10_reads_168 : decode cX10_reads 168 = .ok (.aload_n 0, 1) := by decide +kernel
theorem dX10_reads_169 : decode cX10_reads 169 = .ok (.invokevirtual 169, 3) := by decide +kernel
theorem dX10_reads_172 : decode cX10_reads 172 = .ok (.goto (-158), 3) := by decide +kernel
theorem dX10_reads_175 : decode cX10_reads 175 = .ok (.aload_n 0, 1) := by decide +kernel
theorem dX10_reads_176 : decode cX10_reads 176 = .ok (.getfield 139, 3) := by decide +kernel
theorem dX10_reads_179 : decode cX10_reads 179 = .ok (.iconst 1, 1) := by decide +kernel
theorem dX10_reads_180 : decode cX10_reads 180 = .ok (.if_icmp .eq 9, 3) := by decide +kernel
theorem dX10_reads_183 : decode cX10_reads 183 = .ok (.aload_n 0, 1) := by decide +kernel
theorem dX10_reads_184 : decode cX10_reads 184 = .ok (.iconst 1, 1) := by decide +kernel
theorem dX10_reads_185 : decode cX10_reads 185 = .ok (.invokevirtual 166, 3) := by decide +kernel
theorem dX10_reads_188 : decode cX10_reads 188 = .ok (.athrow, 1) := by decide +kernel
theorem dX10_reads_189 : decode cX10_reads 189 = .ok (.return_, 1) := by decide +kernel
theorem dX10_readLine_0 : decode cX10_readLine 0 = .ok (.aload_n 0, 1) := by decide +kernel
theorem dX10_readLine_1 : decode cX10_readLine 1 = .ok (.getfield 23, 3) := by decide +kernel
theorem dX10_readLine_4 : decode cX10_readLine 4 = .ok (.iload_n 1, 1) := by decide +kernel
theorem dX10_readLine_5 : decode cX10_readLine 5 = .ok (.iload_n 2, 1) := by decide +kernel
theorem dX10_readLine_6 : decode cX10_readLine 6 = .ok (.iastore, 1) := by decide +kernel
theorem dX10_readLine_7 : decode cX10_readLine 7 = .ok (.aload_n 0, 1) := by decide +kernel
theorem dX10_readLine_8 : decode cX10_readLine 8 = .ok (.getfield 26, 3) := by decide +kernel
theorem dX10_readLine_11 : decode cX10_readLine 11 = .ok (.iload_n 1, 1) := by decide +kernel
theorem dX10_readLine_12 : decode cX10_readLine 12 = .ok (.iconst 0, 1) := by decide +kernel
theorem dX10_readLine_13 : decode cX10_readLine 13 = .ok (.iastore, 1) := by decide +kernel
theorem dX10_readLine_14 : decode cX10_readLine 14 = .ok (.aload_n 0, 1) := by decide +kernel
theorem dX10_readLine_15 : decode cX10_readLine 15 = .ok (.getfield 32, 3) := by decide +kernel
theorem dX10_readLine_18 : decode cX10_readLine 18 = .ok (.iload_n 1, 1) := by decide +kernel
theorem dX10_readLine_19 : decode cX10_readLine 19 = .ok (.iconst (-1), 1) := by decide +kernel
theorem dX10_readLine_20 : decode cX10_readLine 20 = .ok (.iastore, 1) := by decide +kernel
theorem dX10_readLine_21 : decode cX10_readLine 21 = .ok (.iload_n 2, 1) := by decide +kernel
theorem dX10_readLine_22 : decode cX10_readLine 22 = .ok (.tableswitch 214 0 4 #[34, 65, 103, 152, 183], 34) := by decide +kernel
theorem dX10_readLine_56 : decode cX10_readLine 56 = .ok (.aload_n 0, 1) := by decide +kernel
theorem dX10_readLine_57 : decode cX10_readLine 57 = .ok (.getfield 26, 3) := by decide +kernel
theorem dX10_readLine_60 : decode cX10_readLine 60 = .ok (.iload_n 1, 1) := by decide +kernel
theorem dX10_readLine_61 : decode cX10_readLine 61 = .ok (.aload_n 0, 1) := by decide +kernel
theorem dX10_readLine_62 : decode cX10_readLine 62 = .ok (.bipush 16, 2) := by decide +kernel
theorem dX10_readLine_64 : decode cX10_readLine 64 = .ok (.invokevirtual 196, 3) := by decide +kernel
theorem dX10_readLine_67 : decode cX10_readLine 67 = .ok (.iastore, 1) := by decide +kernel
theorem dX10_readLine_68 : decode cX10_readLine 68 = .ok (.aload_n 0, 1) := by decide +kernel
theorem dX10_readLine_69 : decode cX10_readLine 69 = .ok (.ldc 199, 2) := by decide +kernel
theorem dX10_readLine_71 : decode cX10_readLine 71 = .ok (.invokevirtual 201, 3) := by decide +kernel
theorem dX10_readLine_74 : decode cX10_readLine 74 = .ok (.aload_n 0, 1) := by decide +kernel
theorem dX10_readLine_75 : decode cX10_readLine 75 = .ok (.getfield 29, 3) := by decide +kernel
theorem dX10_readLine_78 : decode cX10_readLine 78 = .ok (.iload_n 1, 1) := by decide +kernel
theorem dX10_readLine_79 : decode cX10_readLine 79 = .ok (.aload_n 0, 1) := by decide +kernel
theorem dX10_readLine_80 : decode cX10_readLine 80 = .ok (.invokevirtual 205, 3) := by decide +kernel
theorem dX10_readLine_83 : decode cX10_readLine 83 = .ok (.iastore, 1) := by decide +kernel
theorem dX10_readLine_84 : decode cX10_readLine 84 = .ok (.goto 162, 3) := by decide +kernel
theorem dX10_readLine_87 : decode cX10_readLine 87 = .ok (.aload_n 0, 1) := by decide +kernel
theorem dX10_readLine_88 : decode cX10_readLine 88 = .ok (.getfield 29, 3) := by decide +kernel
theorem dX10_readLine_91 : decode cX10_readLine 91 = .ok (.iload_n 1, 1) := by decide +kernel
theorem dX10_readLine_92 : decode cX10_readLine 92 = .ok (.aload_n 0, 1) := by decide +kernel
theorem dX10_readLine_93 : decode cX10_readLine 93 = .ok (.invokevirtual 205, 3) := by decide +kernel
theorem dX10_readLine_96 : decode cX10_readLine 96 = .ok (.iastore, 1) := by decide +kernel
theorem dX10_readLine_97 : decode cX10_readLine 97 = .ok (.aload_n 0, 1) := by decide +kernel
theorem dX10_readLine_98 : decode cX10_readLine 98 = .ok (.ldc 208, 2) := by decide +kernel
theorem dX10_readLine_100 : decode cX10_readLine 100 = .ok (.invokevirtual 201, 3) := by decide +kernel
theorem dX10_readLine_103 : decode cX10_readLine 103 = .ok (.aload_n 0, 1) := by decide +kernel
theorem dX10_readLine_104 : decode cX10_readLine 104 = .ok (.iload_n 1, 1) := by decide +kernel
theorem dX10_readLine_105 : decode cX10_readLine 105 = .ok (.invokevirtual 209, 3) := by decide +kernel
theorem dX10_readLine_108 : decode cX10_readLine 108 = .ok (.aload_n 0, 1) := by decide +kernel
theorem dX10_readLine_109 : decode cX10_readLine 109 = .ok (.getfield 32, 3) := by decide +kernel
theorem dX10_readLine_112 : decode cX10_readLine 112 = .ok (.iload_n 1, 1) := by decide +kernel
theorem dX10_readLine_113 : decode cX10_readLine 113 = .ok (.aload_n 0, 1) := by decide +kernel
theorem dX10_readLine_114 : decode cX10_readLine 114 = .ok (.getfield 35, 3) := by decide +kernel
theorem dX10_readLine_117 : decode cX10_readLine 117 = .ok (.iconst 4, 1) := by decide +kernel
theorem dX10_readLine_118 : decode cX10_readLine 118 = .ok (.iload_n 1, 1) := by decide +kernel
theorem dX10_readLine_119 : decode cX10_readLine 119 = .ok (.imul, 1) := by decide +kernel
theorem dX10_readLine_120 : decode cX10_readLine 120 = .ok (.iaload, 1) := by decide +kernel
theorem dX10_readLine_121 : decode cX10_readLine 121 = .ok (.iastore, 1) := by decide +kernel
theorem dX10_readLine_122 : decode cX10_readLine 122 = .ok (.goto 124, 3) := by decide +kernel
theorem dX10_readLine_125 : decode cX10_readLine 125 = .ok (.aload_n 0, 1) := by decide +kernel
theorem dX10_readLine_126 : decode cX10_readLine 126 = .ok (.getfield 26, 3) := by decide +kernel
theorem dX10_readLine_129 : decode cX10_readLine 129 = .ok (.iload_n 1, 1) := by decide +kernel
theorem dX10_readLine_130 : decode cX10_readLine 130 = .ok (.aload_n 0, 1) := by decide +kernel
theorem dX10_readLine_131 : decode cX10_readLine 131 = .ok (.aload_n 0, 1) := by decide +kernel
theorem dX10_readLine_132 : decode cX10_readLine 132 = .ok (.getfield 86, 3) := by decide +kernel
theorem dX10_readLine_135 : decode cX10_readLine 135 = .ok (.invokevirtual 196, 3) := by decide +kernel
theorem dX10_readLine_138 : decode cX10_readLine 138 = .ok (.iastore, 1) := by decide +kernel
theorem dX10_readLine_139 : decode cX10_readLine 139 = .ok (.aload_n 0, 1) := by decide +kernel
theorem dX10_readLine_140 : decode cX10_readLine 140 = .ok (.ldc 213, 2) := by decide +kernel
theorem dX10_readLine_142 : decode cX10_readLine 142 = .ok (.invokevirtual 201, 3) := by decide +kernel
theorem dX10_readLine_145 : decode cX10_readLine 145 = .ok (.aload_n 0, 1) := by decide +kernel
theorem dX10_readLine_146 : decode cX10_readLine 146 = .ok (.getfield 29, 3) := by decide +kernel
theorem dX10_readLine_149 : decode cX10_readLine 149 = .ok (.iload_n 1, 1) := by decide +kernel
theorem dX10_readLine_150 : decode cX10_readLine 150 = .ok (.aload_n 0, 1) := by decide +kernel
theorem dX10_readLine_151 : decode cX10_readLine 151 = .ok (.invokevirtual 205, 3) := by decide +kernel
theorem dX10_readLine_154 : decode cX10_readLine 154 = .ok (.iastore, 1) := by decide +kernel
theorem dX10_readLine_155 : decode cX10_readLine 155 = .ok (.aload_n 0, 1) := by decide +kernel
theorem dX10_readLine_156 : decode cX10_readLine 156 = .ok (.ldc 199, 2) := by decide +kernel
theorem dX10_readLine_158 : decode cX10_readLine 158 = .ok (.invokevirtual 201, 3) := by decide +kernel
theorem dX10_readLine_161 : decode cX10_readLine 161 = .ok (.aload_n 0, 1) := by decide +kernel
theorem dX10_readLine_162 : decode cX10_readLine 162 = .ok (.getfield 32, 3) := by decide +kernel
theorem dX10_readLine_165 : decode cX10_readLine 165 = .ok (.iload_n 1, 1) := by decide +kernel
theorem dX10_readLine_166 : decode cX10_readLine 166 = .ok (.aload_n 0, 1) := by decide +kernel
theorem dX10_readLine_167 : decode cX10_readLine 167 = .ok (.invokevirtual 205, 3) := by decide +kernel
theorem dX10_readLine_170 : decode cX10_readLine 170 = .ok (.iastore, 1) := by decide +kernel
theorem dX10_readLine_171 : decode cX10_readLine 171 = .ok (.goto 75, 3) := by decide +kernel
theorem dX10_readLine_174 : decode cX10_readLine 174 = .ok (.aload_n 0, 1) := by decide +kernel
theorem dX10_readLine_175 : decode cX10_readLine 175 = .ok (.getfield 29, 3) := by decide +kernel
theorem dX10_readLine_178 : decode cX10_readLine 178 = .ok (.iload_n 1, 1) := by decide +kernel
theorem dX10_readLine_179 : decode cX10_readLine 179 = .ok (.aload_n 0, 1) := by decide +kernel
theorem dX10_readLine_180 : decode cX10_readLine 180 = .ok (.invokevirtual 205, 3) := by decide +kernel
theorem dX10_readLine_183 : decode cX10_readLine 183 = .ok (.iastore, 1) := by decide +kernel
theorem dX10_readLine_184 : decode cX10_readLine 184 = .ok (.aload_n 0, 1) := by decide +kernel
theorem dX10_readLine_185 : decode cX10_readLine 185 = .ok (.ldc 215, 2) := by decide +kernel
theorem dX10_readLine_187 : decode cX10_readLine 187 = .ok (.invokevirtual 201, 3) := by decide +kernel
theorem dX10_readLine_190 : decode cX10_readLine 190 = .ok (.aload_n 0, 1) := by decide +kernel
theorem dX10_readLine_191 : decode cX10_readLine 191 = .ok (.getfield 26, 3) := by decide +kernel
theorem dX10_readLine_194 : decode cX10_readLine 194 = .ok (.iload_n 1, 1) := by decide +kernel
theorem dX10_readLine_195 : decode cX10_readLine 195 = .ok (.aload_n 0, 1) := by decide +kernel
theorem dX10_readLine_196 : decode cX10_readLine 196 = .ok (.bipush 16, 2) := by decide +kernel
theorem dX10_readLine_198 : decode cX10_readLine 198 = .ok (.invokevirtual 196, 3) := by decide +kernel
theorem dX10_readLine_201 : decode cX10_readLine 201 = .ok (.iastore, 1) := by decide +kernel
theorem dX10_readLine_202 : decode cX10_readLine 202 = .ok (.goto 44, 3) := by decide +kernel
theorem dX10_readLine_205 : decode cX10_readLine 205 = .ok (.aload_n 0, 1) := by decide +kernel
theorem dX10_readLine_206 : decode cX10_readLine 206 = .ok (.getfield 29, 3) := by decide +kernel
theorem dX10_readLine_209 : decode cX10_readLine 209 = .ok (.iload_n 1, 1) := by decide +kernel
theorem dX10_readLine_210 : decode cX10_readLine 210 = .ok (.aload_n 0, 1) := by decide +kernel
theorem dX10_readLine_211 : decode cX10_readLine 211 = .ok (.invokevirtual 205, 3) := by decide +kernel
theorem dX10_readLine_214 : decode cX10_readLine 214 = .ok (.iastore, 1) := by decide +kernel
theorem dX10_readLine_215 : decode cX10_readLine 215 = .ok (.aload_n 0, 1) := by decide +kernel
theorem dX10_readLine_216 : decode cX10_readLine 216 = .ok (.ldc 217, 2) := by decide +kernel
theorem dX10_readLine_218 : decode cX10_readLine 218 = .ok (.invokevirtual 201, 3) := by decide +kernel
theorem dX10_readLine_221 : decode cX10_readLine 221 = .ok (.aload_n 0, 1) := by decide +kernel
theorem dX10_readLine_222 : decode cX10_readLine 222 = .ok (.getfield 26, 3) := by decide +kernel
theorem dX10_readLine_225 : decode cX10_readLine 225 = .ok (.iload_n 1, 1) := by decide +kernel
theorem dX10_readLine_226 : decode cX10_readLine 226 = .ok (.aload_n 0, 1) := by decide +kernel
theorem dX10_readLine_227 : decode cX10_readLine 227 = .ok (.bipush 16, 2) := by decide +kernel
theorem dX10_readLine_229 : decode cX10_readLine 229 = .ok (.invokevirtual 196, 3) := by decide +kernel
theorem dX10_readLine_232 : decode cX10_readLine 232 = .ok (.iastore, 1) := by decide +kernel
theorem dX10_readLine_233 : decode cX10_readLine 233 = .ok (.goto 13, 3) := by decide +kernel
theorem dX10_readLine_236 : decode cX10_readLine 236 = .ok (.aload_n 0, 1) := by decide +kernel
theorem dX10_readLine_237 : decode cX10_readLine 237 = .ok (.getfield 29, 3) := by decide +kernel
theorem dX10_readLine_240 : decode cX10_readLine 240 = .ok (.iload_n 1, 1) := by decide +kernel
theorem dX10_readLine_241 : decode cX10_readLine 241 = .ok (.aload_n 0, 1) := by decide +kernel
theorem dX10_readLine_242 : decode cX10_readLine 242 = .ok (.invokevirtual 205, 3) := by decide +kernel
theorem dX10_readLine_245 : decode cX10_readLine 245 = .ok (.iastore, 1) := by decide +kernel
theorem dX10_readLine_246 : decode cX10_readLine 246 = .ok (.return_, 1) := by decide +kernel
theorem dX10_readFrom_0 : decode cX10_readFrom 0 = .ok (.iconst 1, 1) := by decide +kernel
theorem dX10_readFrom_1 : decode cX10_readFrom 1 = .ok (.istore_n 2, 1) := by decide +kernel
theorem dX10_readFrom_2 : decode cX10_readFrom 2 = .ok (.iload_n 2, 1) := by decide +kernel
theorem dX10_readFrom_3 : decode cX10_readFrom 3 = .ok (.ifCond .eq 72, 3) := by decide +kernel
theorem dX10_readFrom_6 : decode cX10_readFrom 6 = .ok (.aload_n 0, 1) := by decide +kernel
theorem dX10_readFrom_7 : decode cX10_readFrom 7 = .ok (.invokevirtual 174, 3) := by decide +kernel
theorem dX10_readFrom_10 : decode cX10_readFrom 10 = .ok (.istore_n 3, 1) := by decide +kernel
theorem dX10_readFrom_11 : decode cX10_readFrom 11 = .ok (.aload_n 0, 1) := by decide +kernel
theorem dX10_readFrom_12 : decode cX10_readFrom 12 = .ok (.getfield 26, 3) := by decide +kernel
theorem dX10_readFrom_15 : decode cX10_readFrom 15 = .ok (.iload_n 1, 1) := by decide +kernel
theorem dX10_readFrom_16 : decode cX10_readFrom 16 = .ok (.iaload, 1) := by decide +kernel
theorem dX10_readFrom_17 : decode cX10_readFrom 17 = .ok (.iconst 4, 1) := by decide +kernel
theorem dX10_readFrom_18 : decode cX10_readFrom 18 = .ok (.if_icmp .ne 9, 3) := by decide +kernel
theorem dX10_readFrom_21 : decode cX10_readFrom 21 = .ok (.aload_n 0, 1) := by decide +kernel
theorem dX10_readFrom_22 : decode cX10_readFrom 22 = .ok (.iconst 4, 1) := by decide +kernel
theorem dX10_readFrom_23 : decode cX10_readFrom 23 = .ok (.invokevirtual 166, 3) := by decide +kernel
theorem dX10_readFrom_26 : decode cX10_readFrom 26 = .ok (.athrow, 1) := by decide +kernel
theorem dX10_readFrom_27 : decode cX10_readFrom 27 = .ok (.aload_n 0, 1) := by decide +kernel
theorem dX10_readFrom_28 : decode cX10_readFrom 28 = .ok (.getfield 35, 3) := by decide +kernel
theorem dX10_readFrom_31 : decode cX10_readFrom 31 = .ok (.iconst 4, 1) := by decide +kernel
theorem dX10_readFrom_32 : decode cX10_readFrom 32 = .ok (.iload_n 1, 1) := by decide +kernel
theorem dX10_readFrom_33 : decode cX10_readFrom 33 = .ok (.imul, 1) := by decide +kernel
theorem dX10_readFrom_34 : decode cX10_readFrom 34 = .ok (.aload_n 0, 1) := by decide +kernel
theorem dX10_readFrom_35 : decode cX10_readFrom 35 = .ok (.getfield 26, 3) := by decide +kernel
theorem dX10_readFrom_38 : decode cX10_readFrom 38 = .ok (.iload_n 1, 1) := by decide +kernel
theorem dX10_readFrom_39 : decode cX10_readFrom 39 = .ok (.iaload, 1) := by decide +kernel
theorem dX10_readFrom_40 : decode cX10_readFrom 40 = .ok (.iadd, 1) := by decide +kernel
theorem dX10_readFrom_41 : decode cX10_readFrom 41 = .ok (.iload_n 3, 1) := by decide +kernel
theorem dX10_readFrom_42 : decode cX10_readFrom 42 = .ok (.iastore, 1) := by decide +kernel
theorem dX10_readFrom_43 : decode cX10_readFrom 43 = .ok (.aload_n 0, 1) := by decide +kernel
theorem dX10_readFrom_44 : decode cX10_readFrom 44 = .ok (.getfield 26, 3) := by decide +kernel
theorem dX10_readFrom_47 : decode cX10_readFrom 47 = .ok (.iload_n 1, 1) := by decide +kernel
theorem dX10_readFrom_48 : decode cX10_readFrom 48 = .ok (.dup2, 1) := by decide +kernel
theorem dX10_readFrom_49 : decode cX10_readFrom 49 = .ok (.iaload, 1) := by decide +kernel
theorem dX10_readFrom_50 : decode cX10_readFrom 50 = .ok (.iconst 1, 1) := by decide +kernel
theorem dX10_readFrom_51 : decode cX10_readFrom 51 = .ok (.iadd, 1) := by decide +kernel
theorem dX10_readFrom_52 : decode cX10_readFrom 52 = .ok (.iastore, 1) := by decide +kernel
theorem dX10_readFrom_53 : decode cX10_readFrom 53 = .ok (.aload_n 0, 1) := by decide +kernel
theorem dX10_readFrom_54 : decode cX10_readFrom 54 = .ok (.invokevirtual 169, 3) := by decide +kernel
theorem dX10_readFrom_57 : decode cX10_readFrom 57 = .ok (.aload_n 0, 1) := by decide +kernel
theorem dX10_readFrom_58 : decode cX10_readFrom 58 = .ok (.bipush 44, 2) := by decide +kernel
theorem dX10_readFrom_60 : decode cX10_readFrom 60 = .ok (.invokevirtual 193, 3) := by decide +kernel
theorem dX10_readFrom_63 : decode cX10_readFrom 63 = .ok (.istore_n 2, 1) := by decide +kernel
theorem dX10_readFrom_64 : decode cX10_readFrom 64 = .ok (.iload_n 2, 1) := by decide +kernel
theorem dX10_readFrom_65 : decode cX10_readFrom 65 = .ok (.ifCond .eq 7, 3) := by decide +kernel
theorem dX10_readFrom_68 : decode cX10_readFrom 68 = .ok (.aload_n 0, 1) := by decide +kernel
theorem dX10_readFrom_69 : decode cX10_readFrom 69 = .ok (.invokevirtual 169, 3) := by decide +kernel
theorem dX10_readFrom_72 : decode cX10_readFrom 72 = .ok (.goto (-70), 3) := by decide +kernel
theorem dX10_readFrom_75 : decode cX10_readFrom 75 = .ok (.return_, 1) := by decide +kernel
theorem dX10_feed_0 : decode cX10_feed 0 = .ok (.aload_n 0, 1) := by decide +kernel
theorem dX10_feed_1 : decode cX10_feed 1 = .ok (.iconst 0, 1) := by decide +kernel
theorem dX10_feed_2 : decode cX10_feed 2 = .ok (.putfield 80, 3) := by decide +kernel
theorem dX10_feed_5 : decode cX10_feed 5 = .ok (.aload_n 0, 1) := by decide +kernel
theorem dX10_feed_6 : decode cX10_feed 6 = .ok (.getfield 219, 3) := by decide +kernel
theorem dX10_feed_9 : decode cX10_feed 9 = .ok (.bipush 20, 2) := by decide +kernel
theorem dX10_feed_11 : decode cX10_feed 11 = .ok (.iadd, 1) := by decide +kernel
theorem dX10_feed_12 : decode cX10_feed 12 = .ok (.sipush 300, 3) := by decide +kernel
theorem dX10_feed_15 : decode cX10_feed 15 = .ok (.if_icmp .le 5, 3) := by decide +kernel
theorem dX10_feed_18 : decode cX10_feed 18 = .ok (.iconst (-1), 1) := by decide +kernel
theorem dX10_feed_19 : decode cX10_feed 19 = .ok (.ireturn, 1) := by decide +kernel
theorem dX10_feed_20 : decode cX10_feed 20 = .ok (.iconst 0, 1) := by decide +kernel
theorem dX10_feed_21 : decode cX10_feed 21 = .ok (.istore 6, 2) := by decide +kernel
theorem dX10_feed_23 : decode cX10_feed 23 = .ok (.iload 6, 2) := by decide +kernel
theorem dX10_feed_25 : decode cX10_feed 25 = .ok (.bipush 20, 2) := by decide +kernel
theorem dX10_feed_27 : decode cX10_feed 27 = .ok (.if_icmp .ge 90, 3) := by decide +kernel
theorem dX10_feed_30 : decode cX10_feed 30 = .ok (.iload 6, 2) := by decide +kernel
theorem dX10_feed_32 : decode cX10_feed 32 = .ok (.iconst 4, 1) := by decide +kernel
theorem dX10_feed_33 : decode cX10_feed 33 = .ok (.if_icmp .ge 7, 3) := by decide +kernel
theorem dX10_feed_36 : decode cX10_feed 36 = .ok (.iload_n 1, 1) := by decide +kernel
theorem dX10_feed_37 : decode cX10_feed 37 = .ok (.goto 39, 3) := by decide +kernel
theorem dX10_feed_40 : decode cX10_feed 40 = .ok (.iload 6, 2) := by decide +kernel
theorem dX10_feed_42 : decode cX10_feed 42 = .ok (.bipush 8, 2) := by decide +kernel
theorem dX10_feed_44 : decode cX10_feed 44 = .ok (.if_icmp .ge 7, 3) := by decide +kernel
theorem dX10_feed_47 : decode cX10_feed 47 = .ok (.iload_n 2, 1) := by decide +kernel
theorem dX10_feed_48 : decode cX10_feed 48 = .ok (.goto 28, 3) := by decide +kernel
theorem dX10_feed_51 : decode cX10_feed 51 = .ok (.iload 6, 2) := by decide +kernel
theorem dX10_feed_53 : decode cX10_feed 53 = .ok (.bipush 12, 2) := by decide +kernel
theorem dX10_feed_55 : decode cX10_feed 55 = .ok (.if_icmp .ge 7, 3) := by decide +kernel
theorem dX10_feed_58 : decode cX10_feed 58 = .ok (.iload_n 3, 1) := by decide +kernel
theorem dX10_feed_59 : decode cX10_feed 59 = .ok (.goto 17, 3) := by decide +kernel
theorem dX10_feed_62 : decode cX10_feed 62 = .ok (.iload 6, 2) := by decide +kernel
theorem dX10_feed_64 : decode cX10_feed 64 = .ok (.bipush 16, 2) := by decide +kernel
theorem dX10_feed_66 : decode cX10_feed 66 = .ok (.if_icmp .ge 8, 3) := by decide +kernel
theorem dX10_feed_69 : decode cX10_feed 69 = .ok (.iload 4, 2) := by decide +kernel
theorem dX10_feed_71 : decode cX10_feed 71 = .ok (.goto 5, 3) := by decide +kernel
theorem dX10_feed_74 : decode cX10_feed 74 = .ok (.iload 5, 2) := by decide +kernel
theorem dX10_feed_76 : decode cX10_feed 76 = .ok (.istore 7, 2) := by decide +kernel
theorem dX10_feed_78 : decode cX10_feed 78 = .ok (.aload_n 0, 1) := by decide +kernel
theorem dX10_feed_79 : decode cX10_feed 79 = .ok (.getfield 45, 3) := by decide +kernel
theorem dX10_feed_82 : decode cX10_feed 82 = .ok (.aload_n 0, 1) := by decide +kernel
theorem dX10_feed_83 : decode cX10_feed 83 = .ok (.getfield 219, 3) := by decide +kernel
theorem dX10_feed_86 : decode cX10_feed 86 = .ok (.iload 7, 2) := by decide +kernel
theorem dX10_feed_88 : decode cX10_feed 88 = .ok (.bipush 24, 2) := by decide +kernel
theorem dX10_feed_90 : decode cX10_feed 90 = .ok (.bipush 8, 2) := by decide +kernel
theorem dX10_feed_92 : decode cX10_feed 92 = .ok (.iload 6, 2) := by decide +kernel
theorem dX10_feed_94 : decode cX10_feed 94 = .ok (.iconst 4, 1) := by decide +kernel
theorem dX10_feed_95 : decode cX10_feed 95 = .ok (.irem, 1) := by decide +kernel
theorem dX10_feed_96 : decode cX10_feed 96 = .ok (.imul, 1) := by decide +kernel
theorem dX10_feed_97 : decode cX10_feed 97 = .ok (.isub, 1) := by decide +kernel
theorem dX10_feed_98 : decode cX10_feed 98 = .ok (.ishr, 1) := by decide +kernel
theorem dX10_feed_99 : decode cX10_feed 99 = .ok (.i2b, 1) := by decide +kernel
theorem dX10_feed_100 : decode cX10_feed 100 = .ok (.bastore, 1) := by decide +kernel
theorem dX10_feed_101 : decode cX10_feed 101 = .ok (.aload_n 0, 1) := by decide +kernel
theorem dX10_feed_102 : decode cX10_feed 102 = .ok (.dup, 1) := by decide +kernel
theorem dX10_feed_103 : decode cX10_feed 103 = .ok (.getfield 219, 3) := by decide +kernel
theorem dX10_feed_106 : decode cX10_feed 106 = .ok (.iconst 1, 1) := by decide +kernel
theorem dX10_feed_107 : decode cX10_feed 107 = .ok (.iadd, 1) := by decide +kernel
theorem dX10_feed_108 : decode cX10_feed 108 = .ok (.putfield 219, 3) := by decide +kernel
theorem dX10_feed_111 : decode cX10_feed 111 = .ok (.iinc 6 1, 3) := by decide +kernel
theorem dX10_feed_114 : decode cX10_feed 114 = .ok (.goto (-91), 3) := by decide +kernel
theorem dX10_feed_117 : decode cX10_feed 117 = .ok (.aload_n 0, 1) := by decide +kernel
theorem dX10_feed_118 : decode cX10_feed 118 = .ok (.getfield 219, 3) := by decide +kernel
theorem dX10_feed_121 : decode cX10_feed 121 = .ok (.ireturn, 1) := by decide +kernel
theorem dX10_lines_0 : decode cX10_lines 0 = .ok (.aload_n 0, 1) := by decide +kernel
theorem dX10_lines_1 : decode cX10_lines 1 = .ok (.iconst 0, 1) := by decide +kernel
theorem dX10_lines_2 : decode cX10_lines 2 = .ok (.putfield 80, 3) := by decide +kernel
theorem dX10_lines_5 : decode cX10_lines 5 = .ok (.aload_n 0, 1) := by decide +kernel
theorem dX10_lines_6 : decode cX10_lines 6 = .ok (.iload_n 1, 1) := by decide +kernel
theorem dX10_lines_7 : decode cX10_lines 7 = .ok (.invokevirtual 101, 3) := by decide +kernel
theorem dX10_lines_10 : decode cX10_lines 10 = .ok (.ifCond .ne 9, 3) := by decide +kernel
theorem dX10_lines_13 : decode cX10_lines 13 = .ok (.aload_n 0, 1) := by decide +kernel
theorem dX10_lines_14 : decode cX10_lines 14 = .ok (.iconst 1, 1) := by decide +kernel
theorem dX10_lines_15 : decode cX10_lines 15 = .ok (.invokevirtual 94, 3) := by decide +kernel
theorem dX10_lines_18 : decode cX10_lines 18 = .ok (.ireturn, 1) := by decide +kernel
theorem dX10_lines_19 : decode cX10_lines 19 = .ok (.iload_n 2, 1) := by decide +kernel
theorem dX10_lines_20 : decode cX10_lines 20 = .ok (.ifCond .lt 11, 3) := by decide +kernel
theorem dX10_lines_23 : decode cX10_lines 23 = .ok (.iload_n 2, 1) := by decide +kernel
theorem dX10_lines_24 : decode cX10_lines 24 = .ok (.aload_n 0, 1) := by decide +kernel
theorem dX10_lines_25 : decode cX10_lines 25 = .ok (.getfield 219, 3) := by decide +kernel
theorem dX10_lines_28 : decode cX10_lines 28 = .ok (.if_icmp .le 9, 3) := by decide +kernel
theorem dX10_lines_31 : decode cX10_lines 31 = .ok (.aload_n 0, 1) := by decide +kernel
theorem dX10_lines_32 : decode cX10_lines 32 = .ok (.iconst 2, 1) := by decide +kernel
theorem dX10_lines_33 : decode cX10_lines 33 = .ok (.invokevirtual 94, 3) := by decide +kernel
theorem dX10_lines_36 : decode cX10_lines 36 = .ok (.ireturn, 1) := by decide +kernel
theorem dX10_lines_37 : decode cX10_lines 37 = .ok (.aload_n 0, 1) := by decide +kernel
theorem dX10_lines_38 : decode cX10_lines 38 = .ok (.iload_n 2, 1) := by decide +kernel
theorem dX10_lines_39 : decode cX10_lines 39 = .ok (.putfield 118, 3) := by decide +kernel
theorem dX10_lines_42 : decode cX10_lines 42 = .ok (.aload_n 0, 1) := by decide +kernel
theorem dX10_lines_43 : decode cX10_lines 43 = .ok (.iconst 0, 1) := by decide +kernel
theorem dX10_lines_44 : decode cX10_lines 44 = .ok (.putfield 219, 3) := by decide +kernel
theorem dX10_lines_47 : decode cX10_lines 47 = .ok (.aload_n 0, 1) := by decide +kernel
theorem dX10_lines_48 : decode cX10_lines 48 = .ok (.iconst 0, 1) := by decide +kernel
theorem dX10_lines_49 : decode cX10_lines 49 = .ok (.putfield 133, 3) := by decide +kernel
theorem dX10_lines_52 : decode cX10_lines 52 = .ok (.aload_n 0, 1) := by decide +kernel
theorem dX10_lines_53 : decode cX10_lines 53 = .ok (.iconst 0, 1) := by decide +kernel
theorem dX10_lines_54 : decode cX10_lines 54 = .ok (.putfield 222, 3) := by decide +kernel
theorem dX10_lines_57 : decode cX10_lines 57 = .ok (.aload_n 0, 1) := by decide +kernel
theorem dX10_lines_58 : decode cX10_lines 58 = .ok (.invokevirtual 225, 3) := by decide +kernel
theorem dX10_lines_61 : decode cX10_lines 61 = .ok (.goto 27, 3) := by decide +kernel
theorem dX10_lines_64 : decode cX10_lines 64 = .ok (.astore_n 3, 1) := by decide +kernel
theorem dX10_lines_65 : decode cX10_lines 65 = .ok (.aload_n 0, 1) := by decide +kernel
theorem dX10_lines_66 : decode cX10_lines 66 = .ok (.aload_n 3, 1) := by decide +kernel
theorem dX10_lines_67 : decode cX10_lines 67 = .ok (.getfield 112, 3) := by decide +kernel
theorem dX10_lines_70 : decode cX10_lines 70 = .ok (.putfield 222, 3) := by decide +kernel
theorem dX10_lines_73 : decode cX10_lines 73 = .ok (.aload_n 0, 1) := by decide +kernel
theorem dX10_lines_74 : decode cX10_lines 74 = .ok (.iconst 4, 1) := by decide +kernel
theorem dX10_lines_75 : decode cX10_lines 75 = .ok (.putfield 83, 3) := by decide +kernel
theorem dX10_lines_78 : decode cX10_lines 78 = .ok (.aload_n 0, 1) := by decide +kernel
theorem dX10_lines_79 : decode cX10_lines 79 = .ok (.aload_n 3, 1) := by decide +kernel
theorem dX10_lines_80 : decode cX10_lines 80 = .ok (.getfield 117, 3) := by decide +kernel
theorem dX10_lines_83 : decode cX10_lines 83 = .ok (.putfield 9, 3) := by decide +kernel
theorem dX10_lines_86 : decode cX10_lines 86 = .ok (.iconst (-1), 1) := by decide +kernel
theorem dX10_lines_87 : decode cX10_lines 87 = .ok (.ireturn, 1) := by decide +kernel
theorem dX10_lines_88 : decode cX10_lines 88 = .ok (.aload_n 0, 1) := by decide +kernel
theorem dX10_lines_89 : decode cX10_lines 89 = .ok (.getfield 17, 3) := by decide +kernel
theorem dX10_lines_92 : decode cX10_lines 92 = .ok (.iload_n 1, 1) := by decide +kernel
theorem dX10_lines_93 : decode cX10_lines 93 = .ok (.aload_n 0, 1) := by decide +kernel
theorem dX10_lines_94 : decode cX10_lines 94 = .ok (.getfield 17, 3) := by decide +kernel
theorem dX10_lines_97 : decode cX10_lines 97 = .ok (.bipush 10, 2) := by decide +kernel
theorem dX10_lines_99 : decode cX10_lines 99 = .ok (.iaload, 1) := by decide +kernel
theorem dX10_lines_100 : decode cX10_lines 100 = .ok (.iastore, 1) := by decide +kernel
theorem dX10_lines_101 : decode cX10_lines 101 = .ok (.iconst 0, 1) := by decide +kernel
theorem dX10_lines_102 : decode cX10_lines 102 = .ok (.istore_n 3, 1) := by decide +kernel
theorem dX10_lines_103 : decode cX10_lines 103 = .ok (.iload_n 3, 1) := by decide +kernel
theorem dX10_lines_104 : decode cX10_lines 104 = .ok (.bipush 12, 2) := by decide +kernel
theorem dX10_lines_106 : decode cX10_lines 106 = .ok (.if_icmp .ge 134, 3) := by decide +kernel
theorem dX10_lines_109 : decode cX10_lines 109 = .ok (.aload_n 0, 1) := by decide +kernel
theorem dX10_lines_110 : decode cX10_lines 110 = .ok (.getfield 23, 3) := by decide +kernel
theorem dX10_lines_113 : decode cX10_lines 113 = .ok (.bipush 12, 2) := by decide +kernel
theorem dX10_lines_115 : decode cX10_lines 115 = .ok (.iload_n 1, 1) := by decide +kernel
theorem dX10_lines_116 : decode cX10_lines 116 = .ok (.imul, 1) := by decide +kernel
theorem dX10_lines_117 : decode cX10_lines 117 = .ok (.iload_n 3, 1) := by decide +kernel
theorem dX10_lines_118 : decode cX10_lines 118 = .ok (.iadd, 1) := by decide +kernel
theorem dX10_lines_119 : decode cX10_lines 119 = .ok (.aload_n 0, 1) := by decide +kernel
theorem dX10_lines_120 : decode cX10_lines 120 = .ok (.getfield 23, 3) := by decide +kernel
theorem dX10_lines_123 : decode cX10_lines 123 = .ok (.bipush 120, 2) := by decide +kernel
theorem dX10_lines_125 : decode cX10_lines 125 = .ok (.iload_n 3, 1) := by decide +kernel
theorem dX10_lines_126 : decode cX10_lines 126 = .ok (.iadd, 1) := by decide +kernel
theorem dX10_lines_127 : decode cX10_lines 127 = .ok (.iaload, 1) := by decide +kernel
theorem dX10_lines_128 : decode cX10_lines 128 = .ok (.iastore, 1) := by decide +kernel
theorem dX10_lines_129 : decode cX10_lines 129 = .ok (.aload_n 0, 1) := by decide +kernel
theorem dX10_lines_130 : decode cX10_lines 130 = .ok (.getfield 26, 3) := by decide +kernel
theorem dX10_lines_133 : decode cX10_lines 133 = .ok (.bipush 12, 2) := by decide +kernel
theorem dX10_lines_135 : decode cX10_lines 135 = .ok (.iload_n 1, 1) := by decide +kernel
theorem dX10_lines_136 : decode cX10_lines 136 = .ok (.imul, 1) := by decide +kernel
theorem dX10_lines_137 : decode cX10_lines 137 = .ok (.iload_n 3, 1) := by decide +kernel
theorem dX10_lines_138 : decode cX10_lines 138 = .ok (.iadd, 1) := by decide +kernel
theorem dX10_lines_139 : decode cX10_lines 139 = .ok (.aload_n 0, 1) := by decide +kernel
theorem dX10_lines_140 : decode cX10_lines 140 = .ok (.getfield 26, 3) := by decide +kernel
theorem dX10_lines_143 : decode cX10_lines 143 = .ok (.bipush 120, 2) := by decide +kernel
theorem dX10_lines_145 : decode cX10_lines 145 = .ok (.iload_n 3, 1) := by decide +kernel
theorem dX10_lines_146 : decode cX10_lines 146 = .ok (.iadd, 1) := by decide +kernel
theorem dX10_lines_147 : decode cX10_lines 147 = .ok (.iaload, 1) := by decide +kernel
theorem dX10_lines_148 : decode cX10_lines 148 = .ok (.iastore, 1) := by decide +kernel
theorem dX10_lines_149 : decode cX10_lines 149 = .ok (.aload_n 0, 1) := by decide +kernel
theorem dX10_lines_150 : decode cX10_lines 150 = .ok (.getfield 29, 3) := by decide +kernel
theorem dX10_lines_153 : decode cX10_lines 153 = .ok (.bipush 12, 2) := by decide +kernel
theorem dX10_lines_155 : decode cX10_lines 155 = .ok (.iload_n 1, 1) := by decide +kernel
theorem dX10_lines_156 : decode cX10_lines 156 = .ok (.imul, 1) := by decide +kernel
theorem dX10_lines_157 : decode cX10_lines 157 = .ok (.iload_n 3, 1) := by decide +kernel
theorem dX10_lines_158 : decode cX10_lines 158 = .ok (.iadd, 1) := by decide +kernel
theorem dX10_lines_159 : decode cX10_lines 159 = .ok (.aload_n 0, 1) := by decide +kernel
theorem dX10_lines_160 : decode cX10_lines 160 = .ok (.getfield 29, 3) := by decide +kernel
theorem dX10_lines_163 : decode cX10_lines 163 = .ok (.bipush 120, 2) := by decide +kernel
theorem dX10_lines_165 : decode cX10_lines 165 = .ok (.iload_n 3, 1) := by decide +kernel
theorem dX10_lines_166 : decode cX10_lines 166 = .ok (.iadd, 1) := by decide +kernel
theorem dX10_lines_167 : decode cX10_lines 167 = .ok (.iaload, 1) := by decide +kernel
theorem dX10_lines_168 : decode cX10_lines 168 = .ok (.iastore, 1) := by decide +kernel
theorem dX10_lines_169 : decode cX10_lines 169 = .ok (.aload_n 0, 1) := by decide +kernel
theorem dX10_lines_170 : decode cX10_lines 170 = .ok (.getfield 32, 3) := by decide +kernel
theorem dX10_lines_173 : decode cX10_lines 173 = .ok (.bipush 12, 2) := by decide +kernel
theorem dX10_lines_175 : decode cX10_lines 175 = .ok (.iload_n 1, 1) := by decide +kernel
theorem dX10_lines_176 : decode cX10_lines 176 = .ok (.imul, 1) := by decide +kernel
theorem dX10_lines_177 : decode cX10_lines 177 = .ok (.iload_n 3, 1) := by decide +kernel
theorem dX10_lines_178 : decode cX10_lines 178 = .ok (.iadd, 1) := by decide +kernel
theorem dX10_lines_179 : decode cX10_lines 179 = .ok (.aload_n 0, 1) := by decide +kernel
theorem dX10_lines_180 : decode cX10_lines 180 = .ok (.getfield 32, 3) := by decide +kernel
theorem dX10_lines_183 : decode cX10_lines 183 = .ok (.bipush 120, 2) := by decide +kernel
theorem dX10_lines_185 : decode cX10_lines 185 = .ok (.iload_n 3, 1) := by decide +kernel
theorem dX10_lines_186 : decode cX10_lines 186 = .ok (.iadd, 1) := by decide +kernel
theorem dX10_lines_187 : decode cX10_lines 187 = .ok (.iaload, 1) := by decide +kernel
theorem dX10_lines_188 : decode cX10_lines 188 = .ok (.iastore, 1) := by decide +kernel
theorem dX10_lines_189 : decode cX10_lines 189 = .ok (.iconst 0, 1) := by decide +kernel
theorem dX10_lines_190 : decode cX10_lines 190 = .ok (.istore 4, 2) := by decide +kernel
theorem dX10_lines_192 : decode cX10_lines 192 = .ok (.iload 4, 2) := by decide +kernel
theorem dX10_lines_194 : decode cX10_lines 194 = .ok (.iconst 4, 1) := by decide +kernel
theorem dX10_lines_195 : decode cX10_lines 195 = .ok (.if_icmp .ge 39, 3) := by decide +kernel
theorem dX10_lines_198 : decode cX10_lines 198 = .ok (.aload_n 0, 1) := by decide +kernel
theorem dX10_lines_199 : decode cX10_lines 199 = .ok (.getfield 35, 3) := by decide +kernel
theorem dX10_lines_202 : decode cX10_lines 202 = .ok (.iconst 4, 1) := by decide +kernel
theorem dX10_lines_203 : decode cX10_lines 203 = .ok (.bipush 12, 2) := by decide +kernel
theorem dX10_lines_205 : decode cX10_lines 205 = .ok (.iload_n 1, 1) := by decide +kernel
theorem dX10_lines_206 : decode cX10_lines 206 = .ok (.imul, 1) := by decide +kernel
theorem dX10_lines_207 : decode cX10_lines 207 = .ok (.iload_n 3, 1) := by decide +kernel
theorem dX10_lines_208 : decode cX10_lines 208 = .ok (.iadd, 1) := by decide +kernel
theorem dX10_lines_209 : decode cX10_lines 209 = .ok (.imul, 1) := by decide +kernel
theorem dX10_lines_210 : decode cX10_lines 210 = .ok (.iload 4, 2) := by decide +kernel
theorem dX10_lines_212 : decode cX10_lines 212 = .ok (.iadd, 1) := by decide +kernel
theorem dX10_lines_213 : decode cX10_lines 213 = .ok (.aload_n 0, 1) := by decide +kernel
theorem dX10_lines_214 : decode cX10_lines 214 = .ok (.getfield 35, 3) := by decide +kernel
theorem dX10_lines_217 : decode cX10_lines 217 = .ok (.iconst 4, 1) := by decide +kernel
theorem dX10_lines_218 : decode cX10_lines 218 = .ok (.bipush 120, 2) := by decide +kernel
theorem dX10_lines_220 : decode cX10_lines 220 = .ok (.iload_n 3, 1) := by decide +kernel
theorem dX10_lines_221 : decode cX10_lines 221 = .ok (.iadd, 1) := by decide +kernel
theorem dX10_lines_222 : decode cX10_lines 222 = .ok (.imul, 1) := by decide +kernel
theorem dX10_lines_223 : decode cX10_lines 223 = .ok (.iload 4, 2) := by decide +kernel
theorem dX10_lines_225 : decode cX10_lines 225 = .ok (.iadd, 1) := by decide +kernel
theorem dX10_lines_226 : decode cX10_lines 226 = .ok (.iaload, 1) := by decide +kernel
theorem dX10_lines_227 : decode cX10_lines 227 = .ok (.iastore, 1) := by decide +kernel
theorem dX10_lines_228 : decode cX10_lines 228 = .ok (.iinc 4 1, 3) := by decide +kernel
theorem dX10_lines_231 : decode cX10_lines 231 = .ok (.goto (-39), 3) := by decide +kernel
theorem dX10_lines_234 : decode cX10_lines 234 = .ok (.iinc 3 1, 3) := by decide +kernel
theorem dX10_lines_237 : decode cX10_lines 237 = .ok (.goto (-134), 3) := by decide +kernel
theorem dX10_lines_240 : decode cX10_lines 240 = .ok (.aload_n 0, 1) := by decide +kernel
theorem dX10_lines_241 : decode cX10_lines 241 = .ok (.aload_n 0, 1) := by decide +kernel
theorem dX10_lines_242 : decode cX10_lines 242 = .ok (.getfield 17, 3) := by decide +kernel
theorem dX10_lines_245 : decode cX10_lines 245 = .ok (.iload_n 1, 1) := by decide +kernel
theorem dX10_lines_246 : decode cX10_lines 246 = .ok (.iaload, 1) := by decide +kernel
theorem dX10_lines_247 : decode cX10_lines 247 = .ok (.invokevirtual 98, 3) := by decide +kernel
theorem dX10_lines_250 : decode cX10_lines 250 = .ok (.ireturn, 1) := by decide +kernel
theorem dX10_fault_0 : decode cX10_fault 0 = .ok (.aload_n 0, 1) := by decide +kernel
theorem dX10_fault_1 : decode cX10_fault 1 = .ok (.iconst 0, 1) := by decide +kernel
theorem dX10_fault_2 : decode cX10_fault 2 = .ok (.putfield 80, 3) := by decide +kernel
theorem dX10_fault_5 : decode cX10_fault 5 = .ok (.aload_n 0, 1) := by decide +kernel
theorem dX10_fault_6 : decode cX10_fault 6 = .ok (.getfield 222, 3) := by decide +kernel
theorem dX10_fault_9 : decode cX10_fault 9 = .ok (.ireturn, 1) := by decide +kernel
theorem dX10_where_0 : decode cX10_where 0 = .ok (.aload_n 0, 1) := by decide +kernel
theorem dX10_where_1 : decode cX10_where 1 = .ok (.iconst 0, 1) := by decide +kernel
theorem dX10_where_2 : decode cX10_where 2 = .ok (.putfield 80, 3) := by decide +kernel
theorem dX10_where_5 : decode cX10_where 5 = .ok (.aload_n 0, 1) := by decide +kernel
theorem dX10_where_6 : decode cX10_where 6 = .ok (.getfield 9, 3) := by decide +kernel
theorem dX10_where_9 : decode cX10_where 9 = .ok (.ireturn, 1) := by decide +kernel
theorem dX10_line_0 : decode cX10_line 0 = .ok (.aload_n 0, 1) := by decide +kernel
theorem dX10_line_1 : decode cX10_line 1 = .ok (.iconst 0, 1) := by decide +kernel
theorem dX10_line_2 : decode cX10_line 2 = .ok (.putfield 80, 3) := by decide +kernel
theorem dX10_line_5 : decode cX10_line 5 = .ok (.aload_n 0, 1) := by decide +kernel
theorem dX10_line_6 : decode cX10_line 6 = .ok (.iload_n 1, 1) := by decide +kernel
theorem dX10_line_7 : decode cX10_line 7 = .ok (.invokevirtual 101, 3) := by decide +kernel
theorem dX10_line_10 : decode cX10_line 10 = .ok (.ifCond .eq 17, 3) := by decide +kernel
theorem dX10_line_13 : decode cX10_line 13 = .ok (.iload_n 2, 1) := by decide +kernel
theorem dX10_line_14 : decode cX10_line 14 = .ok (.ifCond .lt 13, 3) := by decide +kernel
theorem dX10_line_17 : decode cX10_line 17 = .ok (.iload_n 2, 1) := by decide +kernel
theorem dX10_line_18 : decode cX10_line 18 = .ok (.aload_n 0, 1) := by decide +kernel
theorem dX10_line_19 : decode cX10_line 19 = .ok (.getfield 17, 3) := by decide +kernel
theorem dX10_line_22 : decode cX10_line 22 = .ok (.iload_n 1, 1) := by decide +kernel
theorem dX10_line_23 : decode cX10_line 23 = .ok (.iaload, 1) := by decide +kernel
theorem dX10_line_24 : decode cX10_line 24 = .ok (.if_icmp .lt 5, 3) := by decide +kernel
theorem dX10_line_27 : decode cX10_line 27 = .ok (.iconst (-1), 1) := by decide +kernel
theorem dX10_line_28 : decode cX10_line 28 = .ok (.ireturn, 1) := by decide +kernel
theorem dX10_line_29 : decode cX10_line 29 = .ok (.bipush 12, 2) := by decide +kernel
theorem dX10_line_31 : decode cX10_line 31 = .ok (.iload_n 1, 1) := by decide +kernel
theorem dX10_line_32 : decode cX10_line 32 = .ok (.imul, 1) := by decide +kernel
theorem dX10_line_33 : decode cX10_line 33 = .ok (.iload_n 2, 1) := by decide +kernel
theorem dX10_line_34 : decode cX10_line 34 = .ok (.iadd, 1) := by decide +kernel
theorem dX10_line_35 : decode cX10_line 35 = .ok (.istore 4, 2) := by decide +kernel
theorem dX10_line_37 : decode cX10_line 37 = .ok (.iload_n 3, 1) := by decide +kernel
theorem dX10_line_38 : decode cX10_line 38 = .ok (.tableswitch 62 0 3 #[30, 38, 46, 54], 30) := by decide +kernel
theorem dX10_line_68 : decode cX10_line 68 = .ok (.aload_n 0, 1) := by decide +kernel
theorem dX10_line_69 : decode cX10_line 69 = .ok (.getfield 23, 3) := by decide +kernel
theorem dX10_line_72 : decode cX10_line 72 = .ok (.iload 4, 2) := by decide +kernel
theorem dX10_line_74 : decode cX10_line 74 = .ok (.iaload, 1) := by decide +kernel
theorem dX10_line_75 : decode cX10_line 75 = .ok (.ireturn, 1) := by decide +kernel
theorem dX10_line_76 : decode cX10_line 76 = .ok (.aload_n 0, 1) := by decide +kernel
theorem dX10_line_77 : decode cX10_line 77 = .ok (.getfield 26, 3) := by decide +kernel
theorem dX10_line_80 : decode cX10_line 80 = .ok (.iload 4, 2) := by decide +kernel
theorem dX10_line_82 : decode cX10_line 82 = .ok (.iaload, 1) := by decide +kernel
theorem dX10_line_83 : decode cX10_line 83 = .ok (.ireturn, 1) := by decide +kernel
theorem dX10_line_84 : decode cX10_line 84 = .ok (.aload_n 0, 1) := by decide +kernel
theorem dX10_line_85 : decode cX10_line 85 = .ok (.getfield 29, 3) := by decide +kernel
theorem dX10_line_88 : decode cX10_line 88 = .ok (.iload 4, 2) := by decide +kernel
theorem dX10_line_90 : decode cX10_line 90 = .ok (.iaload, 1) := by decide +kernel
theorem dX10_line_91 : decode cX10_line 91 = .ok (.ireturn, 1) := by decide +kernel
theorem dX10_line_92 : decode cX10_line 92 = .ok (.aload_n 0, 1) := by decide +kernel
theorem dX10_line_93 : decode cX10_line 93 = .ok (.getfield 32, 3) := by decide +kernel
theorem dX10_line_96 : decode cX10_line 96 = .ok (.iload 4, 2) := by decide +kernel
theorem dX10_line_98 : decode cX10_line 98 = .ok (.iaload, 1) := by decide +kernel
theorem dX10_line_99 : decode cX10_line 99 = .ok (.ireturn, 1) := by decide +kernel
theorem dX10_line_100 : decode cX10_line 100 = .ok (.iconst (-1), 1) := by decide +kernel
theorem dX10_line_101 : decode cX10_line 101 = .ok (.ireturn, 1) := by decide +kernel
theorem dX10_meant_0 : decode cX10_meant 0 = .ok (.aload_n 0, 1) := by decide +kernel
theorem dX10_meant_1 : decode cX10_meant 1 = .ok (.iconst 0, 1) := by decide +kernel
theorem dX10_meant_2 : decode cX10_meant 2 = .ok (.putfield 80, 3) := by decide +kernel
theorem dX10_meant_5 : decode cX10_meant 5 = .ok (.iload_n 1, 1) := by decide +kernel
theorem dX10_meant_6 : decode cX10_meant 6 = .ok (.invokestatic 228, 3) := by decide +kernel
theorem dX10_meant_9 : decode cX10_meant 9 = .ok (.ifCond .eq 10, 3) := by decide +kernel
theorem dX10_meant_12 : decode cX10_meant 12 = .ok (.iload_n 2, 1) := by decide +kernel
theorem dX10_meant_13 : decode cX10_meant 13 = .ok (.invokestatic 228, 3) := by decide +kernel
theorem dX10_meant_16 : decode cX10_meant 16 = .ok (.ifCond .ne 9, 3) := by decide +kernel
theorem dX10_meant_19 : decode cX10_meant 19 = .ok (.aload_n 0, 1) := by decide +kernel
theorem dX10_meant_20 : decode cX10_meant 20 = .ok (.iconst 2, 1) := by decide +kernel
theorem dX10_meant_21 : decode cX10_meant 21 = .ok (.invokevirtual 105, 3) := by decide +kernel
theorem dX10_meant_24 : decode cX10_meant 24 = .ok (.ireturn, 1) := by decide +kernel
theorem dX10_meant_25 : decode cX10_meant 25 = .ok (.aload_n 0, 1) := by decide +kernel
theorem dX10_meant_26 : decode cX10_meant 26 = .ok (.getfield 20, 3) := by decide +kernel
theorem dX10_meant_29 : decode cX10_meant 29 = .ok (.iload_n 1, 1) := by decide +kernel
theorem dX10_meant_30 : decode cX10_meant 30 = .ok (.iload_n 3, 1) := by decide +kernel
theorem dX10_meant_31 : decode cX10_meant 31 = .ok (.ifCond .eq 16, 3) := by decide +kernel
theorem dX10_meant_34 : decode cX10_meant 34 = .ok (.aload_n 0, 1) := by decide +kernel
theorem dX10_meant_35 : decode cX10_meant 35 = .ok (.getfield 20, 3) := by decide +kernel
theorem dX10_meant_38 : decode cX10_meant 38 = .ok (.iload_n 1, 1) := by decide +kernel
theorem dX10_meant_39 : decode cX10_meant 39 = .ok (.iaload, 1) := by decide +kernel
theorem dX10_meant_40 : decode cX10_meant 40 = .ok (.iconst 1, 1) := by decide +kernel
theorem dX10_meant_41 : decode cX10_meant 41 = .ok (.iload_n 2, 1) := by decide +kernel
theorem dX10_meant_42 : decode cX10_meant 42 = .ok (.ishl, 1) := by decide +kernel
theorem dX10_meant_43 : decode cX10_meant 43 = .ok (.ior, 1) := by decide +kernel
theorem dX10_meant_44 : decode cX10_meant 44 = .ok (.goto 15, 3) := by decide +kernel
theorem dX10_meant_47 : decode cX10_meant 47 = .ok (.aload_n 0, 1) := by decide +kernel
theorem dX10_meant_48 : decode cX10_meant 48 = .ok (.getfield 20, 3) := by decide +kernel
theorem dX10_meant_51 : decode cX10_meant 51 = .ok (.iload_n 1, 1) := by decide +kernel
theorem dX10_meant_52 : decode cX10_meant 52 = .ok (.iaload, 1) := by decide +kernel
theorem dX10_meant_53 : decode cX10_meant 53 = .ok (.iconst 1, 1) := by decide +kernel
theorem dX10_meant_54 : decode cX10_meant 54 = .ok (.iload_n 2, 1) := by decide +kernel
theorem dX10_meant_55 : decode cX10_meant 55 = .ok (.ishl, 1) := by decide +kernel
theorem dX10_meant_56 : decode cX10_meant 56 = .ok (.iconst (-1), 1) := by decide +kernel
theorem dX10_meant_57 : decode cX10_meant 57 = .ok (.ixor, 1) := by decide +kernel
theorem dX10_meant_58 : decode cX10_meant 58 = .ok (.iand, 1) := by decide +kernel
theorem dX10_meant_59 : decode cX10_meant 59 = .ok (.iastore, 1) := by decide +kernel
theorem dX10_meant_60 : decode cX10_meant 60 = .ok (.aload_n 0, 1) := by decide +kernel
theorem dX10_meant_61 : decode cX10_meant 61 = .ok (.invokevirtual 108, 3) := by decide +kernel
theorem dX10_meant_64 : decode cX10_meant 64 = .ok (.ireturn, 1) := by decide +kernel
theorem dX10_asks_0 : decode cX10_asks 0 = .ok (.iconst 0, 1) := by decide +kernel
theorem dX10_asks_1 : decode cX10_asks 1 = .ok (.istore_n 1, 1) := by decide +kernel
theorem dX10_asks_2 : decode cX10_asks 2 = .ok (.iload_n 1, 1) := by decide +kernel
theorem dX10_asks_3 : decode cX10_asks 3 = .ok (.bipush 10, 2) := by decide +kernel
theorem dX10_asks_5 : decode cX10_asks 5 = .ok (.if_icmp .ge 31, 3) := by decide +kernel
theorem dX10_asks_8 : decode cX10_asks 8 = .ok (.aload_n 0, 1) := by decide +kernel
theorem dX10_asks_9 : decode cX10_asks 9 = .ok (.getfield 61, 3) := by decide +kernel
theorem dX10_asks_12 : decode cX10_asks 12 = .ok (.iload_n 1, 1) := by decide +kernel
theorem dX10_asks_13 : decode cX10_asks 13 = .ok (.iload_n 1, 1) := by decide +kernel
theorem dX10_asks_14 : decode cX10_asks 14 = .ok (.ifCond .ne 14, 3) := by decide +kernel
theorem dX10_asks_17 : decode cX10_asks 17 = .ok (.aload_n 0, 1) := by decide +kernel
theorem dX10_asks_18 : decode cX10_asks 18 = .ok (.getfield 86, 3) := by decide +kernel
theorem dX10_asks_21 : decode cX10_asks 21 = .ok (.ifCond .le 7, 3) := by decide +kernel
theorem dX10_asks_24 : decode cX10_asks 24 = .ok (.iconst 1, 1) := by decide +kernel
theorem dX10_asks_25 : decode cX10_asks 25 = .ok (.goto 4, 3) := by decide +kernel
theorem dX10_asks_28 : decode cX10_asks 28 = .ok (.iconst 0, 1) := by decide +kernel
theorem dX10_asks_29 : decode cX10_asks 29 = .ok (.bastore, 1) := by decide +kernel
theorem dX10_asks_30 : decode cX10_asks 30 = .ok (.iinc 1 1, 3) := by decide +kernel
theorem dX10_asks_33 : decode cX10_asks 33 = .ok (.goto (-31), 3) := by decide +kernel
theorem dX10_asks_36 : decode cX10_asks 36 = .ok (.iconst 1, 1) := by decide +kernel
theorem dX10_asks_37 : decode cX10_asks 37 = .ok (.istore_n 1, 1) := by decide +kernel
theorem dX10_asks_38 : decode cX10_asks 38 = .ok (.iload_n 1, 1) := by decide +kernel
theorem dX10_asks_39 : decode cX10_asks 39 = .ok (.ifCond .eq 100, 3) := by decide +kernel
theorem dX10_asks_42 : decode cX10_asks 42 = .ok (.iconst 0, 1) := by decide +kernel
theorem dX10_asks_43 : decode cX10_asks 43 = .ok (.istore_n 1, 1) := by decide +kernel
theorem dX10_asks_44 : decode cX10_asks 44 = .ok (.iconst 0, 1) := by decide +kernel
theorem dX10_asks_45 : decode cX10_asks 45 = .ok (.istore_n 2, 1) := by decide +kernel
theorem dX10_asks_46 : decode cX10_asks 46 = .ok (.iload_n 2, 1) := by decide +kernel
theorem dX10_asks_47 : decode cX10_asks 47 = .ok (.aload_n 0, 1) := by decide +kernel
theorem dX10_asks_48 : decode cX10_asks 48 = .ok (.getfield 86, 3) := by decide +kernel
theorem dX10_asks_51 : decode cX10_asks 51 = .ok (.if_icmp .ge 85, 3) := by decide +kernel
theorem dX10_asks_54 : decode cX10_asks 54 = .ok (.bipush 12, 2) := by decide +kernel
theorem dX10_asks_56 : decode cX10_asks 56 = .ok (.iload_n 2, 1) := by decide +kernel
theorem dX10_asks_57 : decode cX10_asks 57 = .ok (.imul, 1) := by decide +kernel
theorem dX10_asks_58 : decode cX10_asks 58 = .ok (.istore_n 3, 1) := by decide +kernel
theorem dX10_asks_59 : decode cX10_asks 59 = .ok (.iload_n 3, 1) := by decide +kernel
theorem dX10_asks_60 : decode cX10_asks 60 = .ok (.bipush 12, 2) := by decide +kernel
theorem dX10_asks_62 : decode cX10_asks 62 = .ok (.iload_n 2, 1) := by decide +kernel
theorem dX10_asks_63 : decode cX10_asks 63 = .ok (.imul, 1) := by decide +kernel
theorem dX10_asks_64 : decode cX10_asks 64 = .ok (.aload_n 0, 1) := by decide +kernel
theorem dX10_asks_65 : decode cX10_asks 65 = .ok (.getfield 17, 3) := by decide +kernel
theorem dX10_asks_68 : decode cX10_asks 68 = .ok (.iload_n 2, 1) := by decide +kernel
theorem dX10_asks_69 : decode cX10_asks 69 = .ok (.iaload, 1) := by decide +kernel
theorem dX10_asks_70 : decode cX10_asks 70 = .ok (.iadd, 1) := by decide +kernel
theorem dX10_asks_71 : decode cX10_asks 71 = .ok (.if_icmp .ge 59, 3) := by decide +kernel
theorem dX10_asks_74 : decode cX10_asks 74 = .ok (.aload_n 0, 1) := by decide +kernel
theorem dX10_asks_75 : decode cX10_asks 75 = .ok (.getfield 61, 3) := by decide +kernel
theorem dX10_asks_78 : decode cX10_asks 78 = .ok (.iload_n 2, 1) := by decide +kernel
theorem dX10_asks_79 : decode cX10_asks 79 = .ok (.baload, 1) := by decide +kernel
theorem dX10_asks_80 : decode cX10_asks 80 = .ok (.ifCond .eq 50, 3) := by decide +kernel
theorem dX10_asks_83 : decode cX10_asks 83 = .ok (.aload_n 0, 1) := by decide +kernel
theorem dX10_asks_84 : decode cX10_asks 84 = .ok (.getfield 23, 3) := by decide +kernel
theorem dX10_asks_87 : decode cX10_asks 87 = .ok (.iload_n 3, 1) := by decide +kernel
theorem dX10_asks_88 : decode cX10_asks 88 = .ok (.iaload, 1) := by decide +kernel
theorem dX10_asks_89 : decode cX10_asks 89 = .ok (.iconst 2, 1) := by decide +kernel
theorem dX10_asks_90 : decode cX10_asks 90 = .ok (.if_icmp .ne 34, 3) := by decide +kernel
theorem dX10_asks_93 : decode cX10_asks 93 = .ok (.aload_n 0, 1) := by decide +kernel
theorem dX10_asks_94 : decode cX10_asks 94 = .ok (.getfield 61, 3) := by decide +kernel
theorem dX10_asks_97 : decode cX10_asks 97 = .ok (.aload_n 0, 1) := by decide +kernel
theorem dX10_asks_98 : decode cX10_asks 98 = .ok (.getfield 26, 3) := by decide +kernel
theorem dX10_asks_101 : decode cX10_asks 101 = .ok (.iload_n 3, 1) := by decide +kernel
theorem dX10_asks_102 : decode cX10_asks 102 = .ok (.iaload, 1) := by decide +kernel
theorem dX10_asks_103 : decode cX10_asks 103 = .ok (.baload, 1) := by decide +kernel
theorem dX10_asks_104 : decode cX10_asks 104 = .ok (.ifCond .eq 6, 3) := by decide +kernel
theorem dX10_asks_107 : decode cX10_asks 107 = .ok (.goto 17, 3) := by decide +kernel
theorem dX10_asks_110 : decode cX10_asks 110 = .ok (.aload_n 0, 1) := by decide +kernel
theorem dX10_asks_111 : decode cX10_asks 111 = .ok (.getfield 61, 3) := by decide +kernel
theorem dX10_asks_114 : decode cX10_asks 114 = .ok (.aload_n 0, 1) := by decide +kernel
theorem dX10_asks_115 : decode cX10_asks 115 = .ok (.getfield 26, 3) := by decide +kernel
theorem dX10_asks_118 : decode cX10_asks 118 = .ok (.iload_n 3, 1) := by decide +kernel
theorem dX10_asks_119 : decode cX10_asks 119 = .ok (.iaload, 1) := by decide +kernel
theorem dX10_asks_120 : decode cX10_asks 120 = .ok (.iconst 1, 1) := by decide +kernel
theorem dX10_asks_121 : decode cX10_asks 121 = .ok (.bastore, 1) := by decide +kernel
theorem dX10_asks_122 : decode cX10_asks 122 = .ok (.iconst 1, 1) := by decide +kernel
theorem dX10_asks_123 : decode cX10_asks 123 = .ok (.istore_n 1, 1) := by decide +kernel
theorem dX10_asks_124 : decode cX10_asks 124 = .ok (.iinc 3 1, 3) := by decide +kernel
theorem dX10_asks_127 : decode cX10_asks 127 = .ok (.goto (-68), 3) := by decide +kernel
theorem dX10_asks_130 : decode cX10_asks 130 = .ok (.iinc 2 1, 3) := by decide +kernel
theorem dX10_asks_133 : decode cX10_asks 133 = .ok (.goto (-87), 3) := by decide +kernel
theorem dX10_asks_136 : decode cX10_asks 136 = .ok (.goto (-98), 3) := by decide +kernel
theorem dX10_asks_139 : decode cX10_asks 139 = .ok (.return_, 1) := by decide +kernel
theorem dX10_comes_0 : decode cX10_comes 0 = .ok (.aload_n 0, 1) := by decide +kernel
theorem dX10_comes_1 : decode cX10_comes 1 = .ok (.getfield 49, 3) := by decide +kernel
theorem dX10_comes_4 : decode cX10_comes 4 = .ok (.iload_n 1, 1) := by decide +kernel
theorem dX10_comes_5 : decode cX10_comes 5 = .ok (.iaload, 1) := by decide +kernel
theorem dX10_comes_6 : decode cX10_comes 6 = .ok (.istore_n 3, 1) := by decide +kernel
theorem dX10_comes_7 : decode cX10_comes 7 = .ok (.aload_n 0, 1) := by decide +kernel
theorem dX10_comes_8 : decode cX10_comes 8 = .ok (.getfield 49, 3) := by decide +kernel
theorem dX10_comes_11 : decode cX10_comes 11 = .ok (.iload_n 1, 1) := by decide +kernel
theorem dX10_comes_12 : decode cX10_comes 12 = .ok (.dup2, 1) := by decide +kernel
theorem dX10_comes_13 : decode cX10_comes 13 = .ok (.iaload, 1) := by decide +kernel
theorem dX10_comes_14 : decode cX10_comes 14 = .ok (.iload_n 2, 1) := by decide +kernel
theorem dX10_comes_15 : decode cX10_comes 15 = .ok (.aload_n 0, 1) := by decide +kernel
theorem dX10_comes_16 : decode cX10_comes 16 = .ok (.getfield 52, 3) := by decide +kernel
theorem dX10_comes_19 : decode cX10_comes 19 = .ok (.iload_n 1, 1) := by decide +kernel
theorem dX10_comes_20 : decode cX10_comes 20 = .ok (.iaload, 1) := by decide +kernel
theorem dX10_comes_21 : decode cX10_comes 21 = .ok (.iconst (-1), 1) := by decide +kernel
theorem dX10_comes_22 : decode cX10_comes 22 = .ok (.ixor, 1) := by decide +kernel
theorem dX10_comes_23 : decode cX10_comes 23 = .ok (.iand, 1) := by decide +kernel
theorem dX10_comes_24 : decode cX10_comes 24 = .ok (.ior, 1) := by decide +kernel
theorem dX10_comes_25 : decode cX10_comes 25 = .ok (.iastore, 1) := by decide +kernel
theorem dX10_comes_26 : decode cX10_comes 26 = .ok (.aload_n 0, 1) := by decide +kernel
theorem dX10_comes_27 : decode cX10_comes 27 = .ok (.getfield 49, 3) := by decide +kernel
theorem dX10_comes_30 : decode cX10_comes 30 = .ok (.iload_n 1, 1) := by decide +kernel
theorem dX10_comes_31 : decode cX10_comes 31 = .ok (.iaload, 1) := by decide +kernel
theorem dX10_comes_32 : decode cX10_comes 32 = .ok (.iload_n 3, 1) := by decide +kernel
theorem dX10_comes_33 : decode cX10_comes 33 = .ok (.if_icmp .eq 7, 3) := by decide +kernel
theorem dX10_comes_36 : decode cX10_comes 36 = .ok (.iconst 1, 1) := by decide +kernel
theorem dX10_comes_37 : decode cX10_comes 37 = .ok (.goto 4, 3) := by decide +kernel
theorem dX10_comes_40 : decode cX10_comes 40 = .ok (.iconst 0, 1) := by decide +kernel
theorem dX10_comes_41 : decode cX10_comes 41 = .ok (.ireturn, 1) := by decide +kernel
theorem dX10_works_0 : decode cX10_works 0 = .ok (.aload_n 0, 1) := by decide +kernel
theorem dX10_works_1 : decode cX10_works 1 = .ok (.invokevirtual 231, 3) := by decide +kernel
theorem dX10_works_4 : decode cX10_works 4 = .ok (.iconst 0, 1) := by decide +kernel
theorem dX10_works_5 : decode cX10_works 5 = .ok (.istore_n 1, 1) := by decide +kernel
theorem dX10_works_6 : decode cX10_works 6 = .ok (.iload_n 1, 1) := by decide +kernel
theorem dX10_works_7 : decode cX10_works 7 = .ok (.bipush 80, 2) := by decide +kernel
theorem dX10_works_9 : decode cX10_works 9 = .ok (.if_icmp .ge 23, 3) := by decide +kernel
theorem dX10_works_12 : decode cX10_works 12 = .ok (.aload_n 0, 1) := by decide +kernel
theorem dX10_works_13 : decode cX10_works 13 = .ok (.getfield 49, 3) := by decide +kernel
theorem dX10_works_16 : decode cX10_works 16 = .ok (.iload_n 1, 1) := by decide +kernel
theorem dX10_works_17 : decode cX10_works 17 = .ok (.iconst 0, 1) := by decide +kernel
theorem dX10_works_18 : decode cX10_works 18 = .ok (.iastore, 1) := by decide +kernel
theorem dX10_works_19 : decode cX10_works 19 = .ok (.aload_n 0, 1) := by decide +kernel
theorem dX10_works_20 : decode cX10_works 20 = .ok (.getfield 52, 3) := by decide +kernel
theorem dX10_works_23 : decode cX10_works 23 = .ok (.iload_n 1, 1) := by decide +kernel
theorem dX10_works_24 : decode cX10_works 24 = .ok (.iconst 0, 1) := by decide +kernel
theorem dX10_works_25 : decode cX10_works 25 = .ok (.iastore, 1) := by decide +kernel
theorem dX10_works_26 : decode cX10_works 26 = .ok (.iinc 1 1, 3) := by decide +kernel
theorem dX10_works_29 : decode cX10_works 29 = .ok (.goto (-23), 3) := by decide +kernel
theorem dX10_works_32 : decode cX10_works 32 = .ok (.iconst 0, 1) := by decide +kernel
theorem dX10_works_33 : decode cX10_works 33 = .ok (.istore_n 1, 1) := by decide +kernel
theorem dX10_works_34 : decode cX10_works 34 = .ok (.iload_n 1, 1) := by decide +kernel
theorem dX10_works_35 : decode cX10_works 35 = .ok (.bipush 10, 2) := by decide +kernel
theorem dX10_works_37 : decode cX10_works 37 = .ok (.if_icmp .ge 16, 3) := by decide +kernel
theorem dX10_works_40 : decode cX10_works 40 = .ok (.aload_n 0, 1) := by decide +kernel
theorem dX10_works_41 : decode cX10_works 41 = .ok (.getfield 55, 3) := by decide +kernel
theorem dX10_works_44 : decode cX10_works 44 = .ok (.iload_n 1, 1) := by decide +kernel
theorem dX10_works_45 : decode cX10_works 45 = .ok (.iconst 0, 1) := by decide +kernel
theorem dX10_works_46 : decode cX10_works 46 = .ok (.iastore, 1) := by decide +kernel
theorem dX10_works_47 : decode cX10_works 47 = .ok (.iinc 1 1, 3) := by decide +kernel
theorem dX10_works_50 : decode cX10_works 50 = .ok (.goto (-16), 3) := by decide +kernel
theorem dX10_works_53 : decode cX10_works 53 = .ok (.iconst 0, 1) := by decide +kernel
theorem dX10_works_54 : decode cX10_works 54 = .ok (.istore_n 1, 1) := by decide +kernel
theorem dX10_works_55 : decode cX10_works 55 = .ok (.iload_n 1, 1) := by decide +kernel
theorem dX10_works_56 : decode cX10_works 56 = .ok (.aload_n 0, 1) := by decide +kernel
theorem dX10_works_57 : decode cX10_works 57 = .ok (.getfield 86, 3) := by decide +kernel
theorem dX10_works_60 : decode cX10_works 60 = .ok (.if_icmp .ge 124, 3) := by decide +kernel
theorem dX10_works_63 : decode cX10_works 63 = .ok (.bipush 12, 2) := by decide +kernel
theorem dX10_works_65 : decode cX10_works 65 = .ok (.iload_n 1, 1) := by decide +kernel
theorem dX10_works_66 : decode cX10_works 66 = .ok (.imul, 1) := by decide +kernel
theorem dX10_works_67 : decode cX10_works 67 = .ok (.istore_n 2, 1) := by decide +kernel
theorem dX10_works_68 : decode cX10_works 68 = .ok (.iload_n 2, 1) := by decide +kernel
theorem dX10_works_69 : decode cX10_works 69 = .ok (.bipush 12, 2) := by decide +kernel
theorem dX10_works_71 : decode cX10_works 71 = .ok (.iload_n 1, 1) := by decide +kernel
theorem dX10_works_72 : decode cX10_works 72 = .ok (.imul, 1) := by decide +kernel
theorem dX10_works_73 : decode cX10_works 73 = .ok (.aload_n 0, 1) := by decide +kernel
theorem dX10_works_74 : decode cX10_works 74 = .ok (.getfield 17, 3) := by decide +kernel
theorem dX10_works_77 : decode cX10_works 77 = .ok (.iload_n 1, 1) := by decide +kernel
theorem dX10_works_78 : decode cX10_works 78 = .ok (.iaload, 1) := by decide +kernel
theorem dX10_works_79 : decode cX10_works 79 = .ok (.iadd, 1) := by decide +kernel
theorem dX10_works_80 : decode cX10_works 80 = .ok (.if_icmp .ge 98, 3) := by decide +kernel
theorem dX10_works_83 : decode cX10_works 83 = .ok (.aload_n 0, 1) := by decide +kernel
theorem dX10_works_84 : decode cX10_works 84 = .ok (.getfield 61, 3) := by decide +kernel
theorem dX10_works_87 : decode cX10_works 87 = .ok (.iload_n 1, 1) := by decide +kernel
theorem dX10_works_88 : decode cX10_works 88 = .ok (.baload, 1) := by decide +kernel
theorem dX10_works_89 : decode cX10_works 89 = .ok (.ifCond .eq 89, 3) := by decide +kernel
theorem dX10_works_92 : decode cX10_works 92 = .ok (.aload_n 0, 1) := by decide +kernel
theorem dX10_works_93 : decode cX10_works 93 = .ok (.getfield 23, 3) := by decide +kernel
theorem dX10_works_96 : decode cX10_works 96 = .ok (.iload_n 2, 1) := by decide +kernel
theorem dX10_works_97 : decode cX10_works 97 = .ok (.iaload, 1) := by decide +kernel
theorem dX10_works_98 : decode cX10_works 98 = .ok (.iconst 4, 1) := by decide +kernel
theorem dX10_works_99 : decode cX10_works 99 = .ok (.if_icmp .ne 30, 3) := by decide +kernel
theorem dX10_works_102 : decode cX10_works 102 = .ok (.aload_n 0, 1) := by decide +kernel
theorem dX10_works_103 : decode cX10_works 103 = .ok (.getfield 52, 3) := by decide +kernel
theorem dX10_works_106 : decode cX10_works 106 = .ok (.bipush 8, 2) := by decide +kernel
theorem dX10_works_108 : decode cX10_works 108 = .ok (.iload_n 1, 1) := by decide +kernel
theorem dX10_works_109 : decode cX10_works 109 = .ok (.imul, 1) := by decide +kernel
theorem dX10_works_110 : decode cX10_works 110 = .ok (.aload_n 0, 1) := by decide +kernel
theorem dX10_works_111 : decode cX10_works 111 = .ok (.getfield 29, 3) := by decide +kernel
theorem dX10_works_114 : decode cX10_works 114 = .ok (.iload_n 2, 1) := by decide +kernel
theorem dX10_works_115 : decode cX10_works 115 = .ok (.iaload, 1) := by decide +kernel
theorem dX10_works_116 : decode cX10_works 116 = .ok (.iadd, 1) := by decide +kernel
theorem dX10_works_117 : decode cX10_works 117 = .ok (.dup2, 1) := by decide +kernel
theorem dX10_works_118 : decode cX10_works 118 = .ok (.iaload, 1) := by decide +kernel
theorem dX10_works_119 : decode cX10_works 119 = .ok (.iconst 1, 1) := by decide +kernel
theorem dX10_works_120 : decode cX10_works 120 = .ok (.aload_n 0, 1) := by decide +kernel
theorem dX10_works_121 : decode cX10_works 121 = .ok (.getfield 26, 3) := by decide +kernel
theorem dX10_works_124 : decode cX10_works 124 = .ok (.iload_n 2, 1) := by decide +kernel
theorem dX10_works_125 : decode cX10_works 125 = .ok (.iaload, 1) := by decide +kernel
theorem dX10_works_126 : decode cX10_works 126 = .ok (.ishl, 1) := by decide +kernel
theorem dX10_works_127 : decode cX10_works 127 = .ok (.ior, 1) := by decide +kernel
theorem dX10_works_128 : decode cX10_works 128 = .ok (.iastore, 1) := by decide +kernel
theorem dX10_works_129 : decode cX10_works 129 = .ok (.aload_n 0, 1) := by decide +kernel
theorem dX10_works_130 : decode cX10_works 130 = .ok (.getfield 23, 3) := by decide +kernel
theorem dX10_works_133 : decode cX10_works 133 = .ok (.iload_n 2, 1) := by decide +kernel
theorem dX10_works_134 : decode cX10_works 134 = .ok (.iaload, 1) := by decide +kernel
theorem dX10_works_135 : decode cX10_works 135 = .ok (.ifCond .ne 37, 3) := by decide +kernel
theorem dX10_works_138 : decode cX10_works 138 = .ok (.aload_n 0, 1) := by decide +kernel
theorem dX10_works_139 : decode cX10_works 139 = .ok (.getfield 49, 3) := by decide +kernel
theorem dX10_works_142 : decode cX10_works 142 = .ok (.bipush 8, 2) := by decide +kernel
theorem dX10_works_144 : decode cX10_works 144 = .ok (.iload_n 1, 1) := by decide +kernel
theorem dX10_works_145 : decode cX10_works 145 = .ok (.imul, 1) := by decide +kernel
theorem dX10_works_146 : decode cX10_works 146 = .ok (.aload_n 0, 1) := by decide +kernel
theorem dX10_works_147 : decode cX10_works 147 = .ok (.getfield 29, 3) := by decide +kernel
theorem dX10_works_150 : decode cX10_works 150 = .ok (.iload_n 2, 1) := by decide +kernel
theorem dX10_works_151 : decode cX10_works 151 = .ok (.iaload, 1) := by decide +kernel
theorem dX10_works_152 : decode cX10_works 152 = .ok (.iadd, 1) := by decide +kernel
theorem dX10_works_153 : decode cX10_works 153 = .ok (.dup2, 1) := by decide +kernel
theorem dX10_works_154 : decode cX10_works 154 = .ok (.iaload, 1) := by decide +kernel
theorem dX10_works_155 : decode cX10_works 155 = .ok (.aload_n 0, 1) := by decide +kernel
theorem dX10_works_156 : decode cX10_works 156 = .ok (.getfield 13, 3) := by decide +kernel
theorem dX10_works_159 : decode cX10_works 159 = .ok (.iload_n 1, 1) := by decide +kernel
theorem dX10_works_160 : decode cX10_works 160 = .ok (.iaload, 1) := by decide +kernel
theorem dX10_works_161 : decode cX10_works 161 = .ok (.iconst 1, 1) := by decide +kernel
theorem dX10_works_162 : decode cX10_works 162 = .ok (.aload_n 0, 1) := by decide +kernel
theorem dX10_works_163 : decode cX10_works 163 = .ok (.getfield 26, 3) := by decide +kernel
theorem dX10_works_166 : decode cX10_works 166 = .ok (.iload_n 2, 1) := by decide +kernel
theorem dX10_works_167 : decode cX10_works 167 = .ok (.iaload, 1) := by decide +kernel
theorem dX10_works_168 : decode cX10_works 168 = .ok (.ishl, 1) := by decide +kernel
theorem dX10_works_169 : decode cX10_works 169 = .ok (.iand, 1) := by decide +kernel
theorem dX10_works_170 : decode cX10_works 170 = .ok (.ior, 1) := by decide +kernel
theorem dX10_works_171 : decode cX10_works 171 = .ok (.iastore, 1) := by decide +kernel
theorem dX10_works_172 : decode cX10_works 172 = .ok (.iinc 2 1, 3) := by decide +kernel
theorem dX10_works_175 : decode cX10_works 175 = .ok (.goto (-107), 3) := by decide +kernel
theorem dX10_works_178 : decode cX10_works 178 = .ok (.iinc 1 1, 3) := by decide +kernel
theorem dX10_works_181 : decode cX10_works 181 = .ok (.goto (-126), 3) := by decide +kernel
theorem dX10_works_184 : decode cX10_works 184 = .ok (.iconst 1, 1) := by decide +kernel
theorem dX10_works_185 : decode cX10_works 185 = .ok (.istore_n 1, 1) := by decide +kernel
theorem dX10_works_186 : decode cX10_works 186 = .ok (.iload_n 1, 1) := by decide +kernel
theorem dX10_works_187 : decode cX10_works 187 = .ok (.ifCond .eq 82, 3) := by decide +kernel
theorem dX10_works_190 : decode cX10_works 190 = .ok (.iconst 0, 1) := by decide +kernel
theorem dX10_works_191 : decode cX10_works 191 = .ok (.istore_n 1, 1) := by decide +kernel
theorem dX10_works_192 : decode cX10_works 192 = .ok (.iconst 0, 1) := by decide +kernel
theorem dX10_works_193 : decode cX10_works 193 = .ok (.istore_n 2, 1) := by decide +kernel
theorem dX10_works_194 : decode cX10_works 194 = .ok (.iload_n 2, 1) := by decide +kernel
theorem dX10_works_195 : decode cX10_works 195 = .ok (.aload_n 0, 1) := by decide +kernel
theorem dX10_works_196 : decode cX10_works 196 = .ok (.getfield 86, 3) := by decide +kernel
theorem dX10_works_199 : decode cX10_works 199 = .ok (.if_icmp .ge 67, 3) := by decide +kernel
theorem dX10_works_202 : decode cX10_works 202 = .ok (.bipush 12, 2) := by decide +kernel
theorem dX10_works_204 : decode cX10_works 204 = .ok (.iload_n 2, 1) := by decide +kernel
theorem dX10_works_205 : decode cX10_works 205 = .ok (.imul, 1) := by decide +kernel
theorem dX10_works_206 : decode cX10_works 206 = .ok (.istore_n 3, 1) := by decide +kernel
theorem dX10_works_207 : decode cX10_works 207 = .ok (.iload_n 3, 1) := by decide +kernel
theorem dX10_works_208 : decode cX10_works 208 = .ok (.bipush 12, 2) := by decide +kernel
theorem dX10_works_210 : decode cX10_works 210 = .ok (.iload_n 2, 1) := by decide +kernel
theorem dX10_works_211 : decode cX10_works 211 = .ok (.imul, 1) := by decide +kernel
theorem dX10_works_212 : decode cX10_works 212 = .ok (.aload_n 0, 1) := by decide +kernel
theorem dX10_works_213 : decode cX10_works 213 = .ok (.getfield 17, 3) := by decide +kernel
theorem dX10_works_216 : decode cX10_works 216 = .ok (.iload_n 2, 1) := by decide +kernel
theorem dX10_works_217 : decode cX10_works 217 = .ok (.iaload, 1) := by decide +kernel
theorem dX10_works_218 : decode cX10_works 218 = .ok (.iadd, 1) := by decide +kernel
theorem dX10_works_219 : decode cX10_works 219 = .ok (.if_icmp .ge 41, 3) := by decide +kernel
theorem dX10_works_222 : decode cX10_works 222 = .ok (.aload_n 0, 1) := by decide +kernel
theorem dX10_works_223 : decode cX10_works 223 = .ok (.getfield 61, 3) := by decide +kernel
theorem dX10_works_226 : decode cX10_works 226 = .ok (.iload_n 2, 1) := by decide +kernel
theorem dX10_works_227 : decode cX10_works 227 = .ok (.baload, 1) := by decide +kernel
theorem dX10_works_228 : decode cX10_works 228 = .ok (.ifCond .eq 32, 3) := by decide +kernel
theorem dX10_works_231 : decode cX10_works 231 = .ok (.aload_n 0, 1) := by decide +kernel
theorem dX10_works_232 : decode cX10_works 232 = .ok (.iload_n 2, 1) := by decide +kernel
theorem dX10_works_233 : decode cX10_works 233 = .ok (.iload_n 3, 1) := by decide +kernel
theorem dX10_works_234 : decode cX10_works 234 = .ok (.invokevirtual 234, 3) := by decide +kernel
theorem dX10_works_237 : decode cX10_works 237 = .ok (.istore 4, 2) := by decide +kernel
theorem dX10_works_239 : decode cX10_works 239 = .ok (.iload_n 1, 1) := by decide +kernel
theorem dX10_works_240 : decode cX10_works 240 = .ok (.ifCond .ne 8, 3) := by decide +kernel
theorem dX10_works_243 : decode cX10_works 243 = .ok (.iload 4, 2) := by decide +kernel
theorem dX10_works_245 : decode cX10_works 245 = .ok (.ifCond .eq 7, 3) := by decide +kernel
theorem dX10_works_248 : decode cX10_works 248 = .ok (.iconst 1, 1) := by decide +kernel
theorem dX10_works_249 : decode cX10_works 249 = .ok (.goto 4, 3) := by decide +kernel
theorem dX10_works_252 : decode cX10_works 252 = .ok (.iconst 0, 1) := by decide +kernel
theorem dX10_works_253 : decode cX10_works 253 = .ok (.istore_n 1, 1) := by decide +kernel
theorem dX10_works_254 : decode cX10_works 254 = .ok (.iinc 3 1, 3) := by decide +kernel
theorem dX10_works_257 : decode cX10_works 257 = .ok (.goto (-50), 3) := by decide +kernel
theorem dX10_works_260 : decode cX10_works 260 = .ok (.iinc 2 1, 3) := by decide +kernel
theorem dX10_works_263 : decode cX10_works 263 = .ok (.goto (-69), 3) := by decide +kernel
theorem dX10_works_266 : decode cX10_works 266 = .ok (.goto (-80), 3) := by decide +kernel
theorem dX10_works_269 : decode cX10_works 269 = .ok (.iconst 0, 1) := by decide +kernel
theorem dX10_works_270 : decode cX10_works 270 = .ok (.istore_n 2, 1) := by decide +kernel
theorem dX10_works_271 : decode cX10_works 271 = .ok (.iload_n 2, 1) := by decide +kernel
theorem dX10_works_272 : decode cX10_works 272 = .ok (.bipush 16, 2) := by decide +kernel
theorem dX10_works_274 : decode cX10_works 274 = .ok (.if_icmp .ge 16, 3) := by decide +kernel
theorem dX10_works_277 : decode cX10_works 277 = .ok (.aload_n 0, 1) := by decide +kernel
theorem dX10_works_278 : decode cX10_works 278 = .ok (.getfield 58, 3) := by decide +kernel
theorem dX10_works_281 : decode cX10_works 281 = .ok (.iload_n 2, 1) := by decide +kernel
theorem dX10_works_282 : decode cX10_works 282 = .ok (.iconst 0, 1) := by decide +kernel
theorem dX10_works_283 : decode cX10_works 283 = .ok (.iastore, 1) := by decide +kernel
theorem dX10_works_284 : decode cX10_works 284 = .ok (.iinc 2 1, 3) := by decide +kernel
theorem dX10_works_287 : decode cX10_works 287 = .ok (.goto (-16), 3) := by decide +kernel
theorem dX10_works_290 : decode cX10_works 290 = .ok (.iconst 0, 1) := by decide +kernel
theorem dX10_works_291 : decode cX10_works 291 = .ok (.istore_n 2, 1) := by decide +kernel
theorem dX10_works_292 : decode cX10_works 292 = .ok (.iload_n 2, 1) := by decide +kernel
theorem dX10_works_293 : decode cX10_works 293 = .ok (.aload_n 0, 1) := by decide +kernel
theorem dX10_works_294 : decode cX10_works 294 = .ok (.getfield 86, 3) := by decide +kernel
theorem dX10_works_297 : decode cX10_works 297 = .ok (.if_icmp .ge 129, 3) := by decide +kernel
theorem dX10_works_300 : decode cX10_works 300 = .ok (.bipush 12, 2) := by decide +kernel
theorem dX10_works_302 : decode cX10_works 302 = .ok (.iload_n 2, 1) := by decide +kernel
theorem dX10_works_303 : decode cX10_works 303 = .ok (.imul, 1) := by decide +kernel
theorem dX10_works_304 : decode cX10_works 304 = .ok (.istore_n 3, 1) := by decide +kernel
theorem dX10_works_305 : decode cX10_works 305 = .ok (.iload_n 3, 1) := by decide +kernel
theorem dX10_works_306 : decode cX10_works 306 = .ok (.bipush 12, 2) := by decide +kernel
theorem dX10_works_308 : decode cX10_works 308 = .ok (.iload_n 2, 1) := by decide +kernel
theorem dX10_works_309 : decode cX10_works 309 = .ok (.imul, 1) := by decide +kernel
theorem dX10_works_310 : decode cX10_works 310 = .ok (.aload_n 0, 1) := by decide +kernel
theorem dX10_works_311 : decode cX10_works 311 = .ok (.getfield 17, 3) := by decide +kernel
theorem dX10_works_314 : decode cX10_works 314 = .ok (.iload_n 2, 1) := by decide +kernel
theorem dX10_works_315 : decode cX10_works 315 = .ok (.iaload, 1) := by decide +kernel
theorem dX10_works_316 : decode cX10_works 316 = .ok (.iadd, 1) := by decide +kernel
theorem dX10_works_317 : decode cX10_works 317 = .ok (.if_icmp .ge 103, 3) := by decide +kernel
theorem dX10_works_320 : decode cX10_works 320 = .ok (.aload_n 0, 1) := by decide +kernel
theorem dX10_works_321 : decode cX10_works 321 = .ok (.getfield 61, 3) := by decide +kernel
theorem dX10_works_324 : decode cX10_works 324 = .ok (.iload_n 2, 1) := by decide +kernel
theorem dX10_works_325 : decode cX10_works 325 = .ok (.baload, 1) := by decide +kernel
theorem dX10_works_326 : decode cX10_works 326 = .ok (.ifCond .eq 94, 3) := by decide +kernel
theorem dX10_works_329 : decode cX10_works 329 = .ok (.aload_n 0, 1) := by decide +kernel
theorem dX10_works_330 : decode cX10_works 330 = .ok (.getfield 23, 3) := by decide +kernel
theorem dX10_works_333 : decode cX10_works 333 = .ok (.iload_n 3, 1) := by decide +kernel
theorem dX10_works_334 : decode cX10_works 334 = .ok (.iaload, 1) := by decide +kernel
theorem dX10_works_335 : decode cX10_works 335 = .ok (.iconst 3, 1) := by decide +kernel
theorem dX10_works_336 : decode cX10_works 336 = .ok (.if_icmp .ne 78, 3) := by decide +kernel
theorem dX10_works_339 : decode cX10_works 339 = .ok (.aload_n 0, 1) := by decide +kernel
theorem dX10_works_340 : decode cX10_works 340 = .ok (.getfield 13, 3) := by decide +kernel
theorem dX10_works_343 : decode cX10_works 343 = .ok (.iload_n 2, 1) := by decide +kernel
theorem dX10_works_344 : decode cX10_works 344 = .ok (.iaload, 1) := by decide +kernel
theorem dX10_works_345 : decode cX10_works 345 = .ok (.aload_n 0, 1) := by decide +kernel
theorem dX10_works_346 : decode cX10_works 346 = .ok (.getfield 26, 3) := by decide +kernel
theorem dX10_works_349 : decode cX10_works 349 = .ok (.iload_n 3, 1) := by decide +kernel
theorem dX10_works_350 : decode cX10_works 350 = .ok (.iaload, 1) := by decide +kernel
theorem dX10_works_351 : decode cX10_works 351 = .ok (.ishr, 1) := by decide +kernel
theorem dX10_works_352 : decode cX10_works 352 = .ok (.iconst 1, 1) := by decide +kernel
theorem dX10_works_353 : decode cX10_works 353 = .ok (.iand, 1) := by decide +kernel
theorem dX10_works_354 : decode cX10_works 354 = .ok (.ifCond .ne 6, 3) := by decide +kernel
theorem dX10_works_357 : decode cX10_works 357 = .ok (.goto 57, 3) := by decide +kernel
theorem dX10_works_360 : decode cX10_works 360 = .ok (.iconst 0, 1) := by decide +kernel
theorem dX10_works_361 : decode cX10_works 361 = .ok (.istore 4, 2) := by decide +kernel
theorem dX10_works_363 : decode cX10_works 363 = .ok (.iload 4, 2) := by decide +kernel
theorem dX10_works_365 : decode cX10_works 365 = .ok (.bipush 16, 2) := by decide +kernel
theorem dX10_works_367 : decode cX10_works 367 = .ok (.if_icmp .ge 47, 3) := by decide +kernel
theorem dX10_works_370 : decode cX10_works 370 = .ok (.aload_n 0, 1) := by decide +kernel
theorem dX10_works_371 : decode cX10_works 371 = .ok (.getfield 58, 3) := by decide +kernel
theorem dX10_works_374 : decode cX10_works 374 = .ok (.iload 4, 2) := by decide +kernel
theorem dX10_works_376 : decode cX10_works 376 = .ok (.dup2, 1) := by decide +kernel
theorem dX10_works_377 : decode cX10_works 377 = .ok (.iaload, 1) := by decide +kernel
theorem dX10_works_378 : decode cX10_works 378 = .ok (.aload_n 0, 1) := by decide +kernel
theorem dX10_works_379 : decode cX10_works 379 = .ok (.getfield 49, 3) := by decide +kernel
theorem dX10_works_382 : decode cX10_works 382 = .ok (.bipush 8, 2) := by decide +kernel
theorem dX10_works_384 : decode cX10_works 384 = .ok (.iload_n 2, 1) := by decide +kernel
theorem dX10_works_385 : decode cX10_works 385 = .ok (.imul, 1) := by decide +kernel
theorem dX10_works_386 : decode cX10_works 386 = .ok (.aload_n 0, 1) := by decide +kernel
theorem dX10_works_387 : decode cX10_works 387 = .ok (.getfield 29, 3) := by decide +kernel
theorem dX10_works_390 : decode cX10_works 390 = .ok (.iload_n 3, 1) := by decide +kernel
theorem dX10_works_391 : decode cX10_works 391 = .ok (.iaload, 1) := by decide +kernel
theorem dX10_works_392 : decode cX10_works 392 = .ok (.iadd, 1) := by decide +kernel
theorem dX10_works_393 : decode cX10_works 393 = .ok (.iaload, 1) := by decide +kernel
theorem dX10_works_394 : decode cX10_works 394 = .ok (.iload 4, 2) := by decide +kernel
theorem dX10_works_396 : decode cX10_works 396 = .ok (.ishr, 1) := by decide +kernel
theorem dX10_works_397 : decode cX10_works 397 = .ok (.iconst 1, 1) := by decide +kernel
theorem dX10_works_398 : decode cX10_works 398 = .ok (.iand, 1) := by decide +kernel
theorem dX10_works_399 : decode cX10_works 399 = .ok (.aload_n 0, 1) := by decide +kernel
theorem dX10_works_400 : decode cX10_works 400 = .ok (.getfield 26, 3) := by decide +kernel
theorem dX10_works_403 : decode cX10_works 403 = .ok (.iload_n 3, 1) := by decide +kernel
theorem dX10_works_404 : decode cX10_works 404 = .ok (.iaload, 1) := by decide +kernel
theorem dX10_works_405 : decode cX10_works 405 = .ok (.ishl, 1) := by decide +kernel
theorem dX10_works_406 : decode cX10_works 406 = .ok (.ior, 1) := by decide +kernel
theorem dX10_works_407 : decode cX10_works 407 = .ok (.iastore, 1) := by decide +kernel
theorem dX10_works_408 : decode cX10_works 408 = .ok (.iinc 4 1, 3) := by decide +kernel
theorem dX10_works_411 : decode cX10_works 411 = .ok (.goto (-48), 3) := by decide +kernel
theorem dX10_works_414 : decode cX10_works 414 = .ok (.iinc 3 1, 3) := by decide +kernel
theorem dX10_works_417 : decode cX10_works 417 = .ok (.goto (-112), 3) := by decide +kernel
theorem dX10_works_420 : decode cX10_works 420 = .ok (.iinc 2 1, 3) := by decide +kernel
theorem dX10_works_423 : decode cX10_works 423 = .ok (.goto (-131), 3) := by decide +kernel
theorem dX10_works_426 : decode cX10_works 426 = .ok (.return_, 1) := by decide +kernel
theorem dX10_goes_0 : decode cX10_goes 0 = .ok (.aload_n 0, 1) := by decide +kernel
theorem dX10_goes_1 : decode cX10_goes 1 = .ok (.getfield 23, 3) := by decide +kernel
theorem dX10_goes_4 : decode cX10_goes 4 = .ok (.iload_n 2, 1) := by decide +kernel
theorem dX10_goes_5 : decode cX10_goes 5 = .ok (.iaload, 1) := by decide +kernel
theorem dX10_goes_6 : decode cX10_goes 6 = .ok (.iconst 1, 1) := by decide +kernel
theorem dX10_goes_7 : decode cX10_goes 7 = .ok (.if_icmp .ne 66, 3) := by decide +kernel
theorem dX10_goes_10 : decode cX10_goes 10 = .ok (.iconst 0, 1) := by decide +kernel
theorem dX10_goes_11 : decode cX10_goes 11 = .ok (.istore_n 3, 1) := by decide +kernel
theorem dX10_goes_12 : decode cX10_goes 12 = .ok (.iconst 0, 1) := by decide +kernel
theorem dX10_goes_13 : decode cX10_goes 13 = .ok (.istore 4, 2) := by decide +kernel
theorem dX10_goes_15 : decode cX10_goes 15 = .ok (.iload 4, 2) := by decide +kernel
theorem dX10_goes_17 : decode cX10_goes 17 = .ok (.aload_n 0, 1) := by decide +kernel
theorem dX10_goes_18 : decode cX10_goes 18 = .ok (.getfield 26, 3) := by decide +kernel
theorem dX10_goes_21 : decode cX10_goes 21 = .ok (.iload_n 2, 1) := by decide +kernel
theorem dX10_goes_22 : decode cX10_goes 22 = .ok (.iaload, 1) := by decide +kernel
theorem dX10_goes_23 : decode cX10_goes 23 = .ok (.if_icmp .ge 33, 3) := by decide +kernel
theorem dX10_goes_26 : decode cX10_goes 26 = .ok (.iload_n 3, 1) := by decide +kernel
theorem dX10_goes_27 : decode cX10_goes 27 = .ok (.aload_n 0, 1) := by decide +kernel
theorem dX10_goes_28 : decode cX10_goes 28 = .ok (.getfield 49, 3) := by decide +kernel
theorem dX10_goes_31 : decode cX10_goes 31 = .ok (.bipush 8, 2) := by decide +kernel
theorem dX10_goes_33 : decode cX10_goes 33 = .ok (.iload_n 1, 1) := by decide +kernel
theorem dX10_goes_34 : decode cX10_goes 34 = .ok (.imul, 1) := by decide +kernel
theorem dX10_goes_35 : decode cX10_goes 35 = .ok (.aload_n 0, 1) := by decide +kernel
theorem dX10_goes_36 : decode cX10_goes 36 = .ok (.getfield 35, 3) := by decide +kernel
theorem dX10_goes_39 : decode cX10_goes 39 = .ok (.iconst 4, 1) := by decide +kernel
theorem dX10_goes_40 : decode cX10_goes 40 = .ok (.iload_n 2, 1) := by decide +kernel
theorem dX10_goes_41 : decode cX10_goes 41 = .ok (.imul, 1) := by decide +kernel
theorem dX10_goes_42 : decode cX10_goes 42 = .ok (.iload 4, 2) := by decide +kernel
theorem dX10_goes_44 : decode cX10_goes 44 = .ok (.iadd, 1) := by decide +kernel
theorem dX10_goes_45 : decode cX10_goes 45 = .ok (.iaload, 1) := by decide +kernel
theorem dX10_goes_46 : decode cX10_goes 46 = .ok (.iadd, 1) := by decide +kernel
theorem dX10_goes_47 : decode cX10_goes 47 = .ok (.iaload, 1) := by decide +kernel
theorem dX10_goes_48 : decode cX10_goes 48 = .ok (.ior, 1) := by decide +kernel
theorem dX10_goes_49 : decode cX10_goes 49 = .ok (.istore_n 3, 1) := by decide +kernel
theorem dX10_goes_50 : decode cX10_goes 50 = .ok (.iinc 4 1, 3) := by decide +kernel
theorem dX10_goes_53 : decode cX10_goes 53 = .ok (.goto (-38), 3) := by decide +kernel
theorem dX10_goes_56 : decode cX10_goes 56 = .ok (.aload_n 0, 1) := by decide +kernel
theorem dX10_goes_57 : decode cX10_goes 57 = .ok (.bipush 8, 2) := by decide +kernel
theorem dX10_goes_59 : decode cX10_goes 59 = .ok (.iload_n 1, 1) := by decide +kernel
theorem dX10_goes_60 : decode cX10_goes 60 = .ok (.imul, 1) := by decide +kernel
theorem dX10_goes_61 : decode cX10_goes 61 = .ok (.aload_n 0, 1) := by decide +kernel
theorem dX10_goes_62 : decode cX10_goes 62 = .ok (.getfield 29, 3) := by decide +kernel
theorem dX10_goes_65 : decode cX10_goes 65 = .ok (.iload_n 2, 1) := by decide +kernel
theorem dX10_goes_66 : decode cX10_goes 66 = .ok (.iaload, 1) := by decide +kernel
theorem dX10_goes_67 : decode cX10_goes 67 = .ok (.iadd, 1) := by decide +kernel
theorem dX10_goes_68 : decode cX10_goes 68 = .ok (.iload_n 3, 1) := by decide +kernel
theorem dX10_goes_69 : decode cX10_goes 69 = .ok (.invokevirtual 238, 3) := by decide +kernel
theorem dX10_goes_72 : decode cX10_goes 72 = .ok (.ireturn, 1) := by decide +kernel
theorem dX10_goes_73 : decode cX10_goes 73 = .ok (.aload_n 0, 1) := by decide +kernel
theorem dX10_goes_74 : decode cX10_goes 74 = .ok (.getfield 23, 3) := by decide +kernel
theorem dX10_goes_77 : decode cX10_goes 77 = .ok (.iload_n 2, 1) := by decide +kernel
theorem dX10_goes_78 : decode cX10_goes 78 = .ok (.iaload, 1) := by decide +kernel
theorem dX10_goes_79 : decode cX10_goes 79 = .ok (.iconst 2, 1) := by decide +kernel
theorem dX10_goes_80 : decode cX10_goes 80 = .ok (.if_icmp .ne 76, 3) := by decide +kernel
theorem dX10_goes_83 : decode cX10_goes 83 = .ok (.aload_n 0, 1) := by decide +kernel
theorem dX10_goes_84 : decode cX10_goes 84 = .ok (.bipush 8, 2) := by decide +kernel
theorem dX10_goes_86 : decode cX10_goes 86 = .ok (.aload_n 0, 1) := by decide +kernel
theorem dX10_goes_87 : decode cX10_goes 87 = .ok (.getfield 26, 3) := by decide +kernel
theorem dX10_goes_90 : decode cX10_goes 90 = .ok (.iload_n 2, 1) := by decide +kernel
theorem dX10_goes_91 : decode cX10_goes 91 = .ok (.iaload, 1) := by decide +kernel
theorem dX10_goes_92 : decode cX10_goes 92 = .ok (.imul, 1) := by decide +kernel
theorem dX10_goes_93 : decode cX10_goes 93 = .ok (.aload_n 0, 1) := by decide +kernel
theorem dX10_goes_94 : decode cX10_goes 94 = .ok (.getfield 49, 3) := by decide +kernel
theorem dX10_goes_97 : decode cX10_goes 97 = .ok (.bipush 8, 2) := by decide +kernel
theorem dX10_goes_99 : decode cX10_goes 99 = .ok (.iload_n 1, 1) := by decide +kernel
theorem dX10_goes_100 : decode cX10_goes 100 = .ok (.imul, 1) := by decide +kernel
theorem dX10_goes_101 : decode cX10_goes 101 = .ok (.aload_n 0, 1) := by decide +kernel
theorem dX10_goes_102 : decode cX10_goes 102 = .ok (.getfield 29, 3) := by decide +kernel
theorem dX10_goes_105 : decode cX10_goes 105 = .ok (.iload_n 2, 1) := by decide +kernel
theorem dX10_goes_106 : decode cX10_goes 106 = .ok (.iaload, 1) := by decide +kernel
theorem dX10_goes_107 : decode cX10_goes 107 = .ok (.iadd, 1) := by decide +kernel
theorem dX10_goes_108 : decode cX10_goes 108 = .ok (.iaload, 1) := by decide +kernel
theorem dX10_goes_109 : decode cX10_goes 109 = .ok (.invokevirtual 238, 3) := by decide +kernel
theorem dX10_goes_112 : decode cX10_goes 112 = .ok (.istore_n 3, 1) := by decide +kernel
theorem dX10_goes_113 : decode cX10_goes 113 = .ok (.aload_n 0, 1) := by decide +kernel
theorem dX10_goes_114 : decode cX10_goes 114 = .ok (.bipush 8, 2) := by decide +kernel
theorem dX10_goes_116 : decode cX10_goes 116 = .ok (.iload_n 1, 1) := by decide +kernel
theorem dX10_goes_117 : decode cX10_goes 117 = .ok (.imul, 1) := by decide +kernel
theorem dX10_goes_118 : decode cX10_goes 118 = .ok (.aload_n 0, 1) := by decide +kernel
theorem dX10_goes_119 : decode cX10_goes 119 = .ok (.getfield 32, 3) := by decide +kernel
theorem dX10_goes_122 : decode cX10_goes 122 = .ok (.iload_n 2, 1) := by decide +kernel
theorem dX10_goes_123 : decode cX10_goes 123 = .ok (.iaload, 1) := by decide +kernel
theorem dX10_goes_124 : decode cX10_goes 124 = .ok (.iadd, 1) := by decide +kernel
theorem dX10_goes_125 : decode cX10_goes 125 = .ok (.aload_n 0, 1) := by decide +kernel
theorem dX10_goes_126 : decode cX10_goes 126 = .ok (.getfield 55, 3) := by decide +kernel
theorem dX10_goes_129 : decode cX10_goes 129 = .ok (.aload_n 0, 1) := by decide +kernel
theorem dX10_goes_130 : decode cX10_goes 130 = .ok (.getfield 26, 3) := by decide +kernel
theorem dX10_goes_133 : decode cX10_goes 133 = .ok (.iload_n 2, 1) := by decide +kernel
theorem dX10_goes_134 : decode cX10_goes 134 = .ok (.iaload, 1) := by decide +kernel
theorem dX10_goes_135 : decode cX10_goes 135 = .ok (.iaload, 1) := by decide +kernel
theorem dX10_goes_136 : decode cX10_goes 136 = .ok (.invokevirtual 238, 3) := by decide +kernel
theorem dX10_goes_139 : decode cX10_goes 139 = .ok (.istore 4, 2) := by decide +kernel
theorem dX10_goes_141 : decode cX10_goes 141 = .ok (.iload_n 3, 1) := by decide +kernel
theorem dX10_goes_142 : decode cX10_goes 142 = .ok (.ifCond .ne 8, 3) := by decide +kernel
theorem dX10_goes_145 : decode cX10_goes 145 = .ok (.iload 4, 2) := by decide +kernel
theorem dX10_goes_147 : decode cX10_goes 147 = .ok (.ifCond .eq 7, 3) := by decide +kernel
theorem dX10_goes_150 : decode cX10_goes 150 = .ok (.iconst 1, 1) := by decide +kernel
theorem dX10_goes_151 : decode cX10_goes 151 = .ok (.goto 4, 3) := by decide +kernel
theorem dX10_goes_154 : decode cX10_goes 154 = .ok (.iconst 0, 1) := by decide +kernel
theorem dX10_goes_155 : decode cX10_goes 155 = .ok (.ireturn, 1) := by decide +kernel
theorem dX10_goes_156 : decode cX10_goes 156 = .ok (.aload_n 0, 1) := by decide +kernel
theorem dX10_goes_157 : decode cX10_goes 157 = .ok (.getfield 23, 3) := by decide +kernel
theorem dX10_goes_160 : decode cX10_goes 160 = .ok (.iload_n 2, 1) := by decide +kernel
theorem dX10_goes_161 : decode cX10_goes 161 = .ok (.iaload, 1) := by decide +kernel
theorem dX10_goes_162 : decode cX10_goes 162 = .ok (.iconst 5, 1) := by decide +kernel
theorem dX10_goes_163 : decode cX10_goes 163 = .ok (.if_icmp .eq 5, 3) := by decide +kernel
theorem dX10_goes_166 : decode cX10_goes 166 = .ok (.iconst 0, 1) := by decide +kernel
theorem dX10_goes_167 : decode cX10_goes 167 = .ok (.ireturn, 1) := by decide +kernel
theorem dX10_goes_168 : decode cX10_goes 168 = .ok (.aload_n 0, 1) := by decide +kernel
theorem dX10_goes_169 : decode cX10_goes 169 = .ok (.getfield 55, 3) := by decide +kernel
theorem dX10_goes_172 : decode cX10_goes 172 = .ok (.iload_n 1, 1) := by decide +kernel
theorem dX10_goes_173 : decode cX10_goes 173 = .ok (.iaload, 1) := by decide +kernel
theorem dX10_goes_174 : decode cX10_goes 174 = .ok (.istore_n 3, 1) := by decide +kernel
theorem dX10_goes_175 : decode cX10_goes 175 = .ok (.aload_n 0, 1) := by decide +kernel
theorem dX10_goes_176 : decode cX10_goes 176 = .ok (.getfield 55, 3) := by decide +kernel
theorem dX10_goes_179 : decode cX10_goes 179 = .ok (.iload_n 1, 1) := by decide +kernel
theorem dX10_goes_180 : decode cX10_goes 180 = .ok (.dup2, 1) := by decide +kernel
theorem dX10_goes_181 : decode cX10_goes 181 = .ok (.iaload, 1) := by decide +kernel
theorem dX10_goes_182 : decode cX10_goes 182 = .ok (.aload_n 0, 1) := by decide +kernel
theorem dX10_goes_183 : decode cX10_goes 183 = .ok (.getfield 49, 3) := by decide +kernel
theorem dX10_goes_186 : decode cX10_goes 186 = .ok (.bipush 8, 2) := by decide +kernel
theorem dX10_goes_188 : decode cX10_goes 188 = .ok (.iload_n 1, 1) := by decide +kernel
theorem dX10_goes_189 : decode cX10_goes 189 = .ok (.imul, 1) := by decide +kernel
theorem dX10_goes_190 : decode cX10_goes 190 = .ok (.aload_n 0, 1) := by decide +kernel
theorem dX10_goes_191 : decode cX10_goes 191 = .ok (.getfield 29, 3) := by decide +kernel
theorem dX10_goes_194 : decode cX10_goes 194 = .ok (.iload_n 2, 1) := by decide +kernel
theorem dX10_goes_195 : decode cX10_goes 195 = .ok (.iaload, 1) := by decide +kernel
theorem dX10_goes_196 : decode cX10_goes 196 = .ok (.iadd, 1) := by decide +kernel
theorem dX10_goes_197 : decode cX10_goes 197 = .ok (.iaload, 1) := by decide +kernel
theorem dX10_goes_198 : decode cX10_goes 198 = .ok (.ior, 1) := by decide +kernel
theorem dX10_goes_199 : decode cX10_goes 199 = .ok (.iastore, 1) := by decide +kernel
theorem dX10_goes_200 : decode cX10_goes 200 = .ok (.aload_n 0, 1) := by decide +kernel
theorem dX10_goes_201 : decode cX10_goes 201 = .ok (.getfield 55, 3) := by decide +kernel
theorem dX10_goes_204 : decode cX10_goes 204 = .ok (.iload_n 1, 1) := by decide +kernel
theorem dX10_goes_205 : decode cX10_goes 205 = .ok (.iaload, 1) := by decide +kernel
theorem dX10_goes_206 : decode cX10_goes 206 = .ok (.iload_n 3, 1) := by decide +kernel
theorem dX10_goes_207 : decode cX10_goes 207 = .ok (.if_icmp .eq 7, 3) := by decide +kernel
theorem dX10_goes_210 : decode cX10_goes 210 = .ok (.iconst 1, 1) := by decide +kernel
theorem dX10_goes_211 : decode cX10_goes 211 = .ok (.goto 4, 3) := by decide +kernel
theorem dX10_goes_214 : decode cX10_goes 214 = .ok (.iconst 0, 1) := by decide +kernel
theorem dX10_goes_215 : decode cX10_goes 215 = .ok (.ireturn, 1) := by decide +kernel
theorem dX10_holds_0 : decode cX10_holds 0 = .ok (.aload_n 0, 1) := by decide +kernel
theorem dX10_holds_1 : decode cX10_holds 1 = .ok (.iconst 0, 1) := by decide +kernel
theorem dX10_holds_2 : decode cX10_holds 2 = .ok (.putfield 80, 3) := by decide +kernel
theorem dX10_holds_5 : decode cX10_holds 5 = .ok (.aload_n 0, 1) := by decide +kernel
theorem dX10_holds_6 : decode cX10_holds 6 = .ok (.iload_n 1, 1) := by decide +kernel
theorem dX10_holds_7 : decode cX10_holds 7 = .ok (.invokevirtual 101, 3) := by decide +kernel
theorem dX10_holds_10 : decode cX10_holds 10 = .ok (.ifCond .eq 13, 3) := by decide +kernel
theorem dX10_holds_13 : decode cX10_holds 13 = .ok (.iload_n 2, 1) := by decide +kernel
theorem dX10_holds_14 : decode cX10_holds 14 = .ok (.iconst 0, 1) := by decide +kernel
theorem dX10_holds_15 : decode cX10_holds 15 = .ok (.bipush 7, 2) := by decide +kernel
theorem dX10_holds_17 : decode cX10_holds 17 = .ok (.invokestatic 90, 3) := by decide +kernel
theorem dX10_holds_20 : decode cX10_holds 20 = .ok (.ifCond .ne 5, 3) := by decide +kernel
theorem dX10_holds_23 : decode cX10_holds 23 = .ok (.iconst (-1), 1) := by decide +kernel
theorem dX10_holds_24 : decode cX10_holds 24 = .ok (.ireturn, 1) := by decide +kernel
theorem dX10_holds_25 : decode cX10_holds 25 = .ok (.aload_n 0, 1) := by decide +kernel
theorem dX10_holds_26 : decode cX10_holds 26 = .ok (.invokevirtual 241, 3) := by decide +kernel
theorem dX10_holds_29 : decode cX10_holds 29 = .ok (.aload_n 0, 1) := by decide +kernel
theorem dX10_holds_30 : decode cX10_holds 30 = .ok (.getfield 49, 3) := by decide +kernel
theorem dX10_holds_33 : decode cX10_holds 33 = .ok (.bipush 8, 2) := by decide +kernel
theorem dX10_holds_35 : decode cX10_holds 35 = .ok (.iload_n 1, 1) := by decide +kernel
theorem dX10_holds_36 : decode cX10_holds 36 = .ok (.imul, 1) := by decide +kernel
theorem dX10_holds_37 : decode cX10_holds 37 = .ok (.iload_n 2, 1) := by decide +kernel
theorem dX10_holds_38 : decode cX10_holds 38 = .ok (.iadd, 1) := by decide +kernel
theorem dX10_holds_39 : decode cX10_holds 39 = .ok (.iaload, 1) := by decide +kernel
theorem dX10_holds_40 : decode cX10_holds 40 = .ok (.ireturn, 1) := by decide +kernel
theorem dX10_result_0 : decode cX10_result 0 = .ok (.aload_n 0, 1) := by decide +kernel
theorem dX10_result_1 : decode cX10_result 1 = .ok (.iconst 0, 1) := by decide +kernel
theorem dX10_result_2 : decode cX10_result 2 = .ok (.putfield 80, 3) := by decide +kernel
theorem dX10_result_5 : decode cX10_result 5 = .ok (.aload_n 0, 1) := by decide +kernel
theorem dX10_result_6 : decode cX10_result 6 = .ok (.iload_n 1, 1) := by decide +kernel
theorem dX10_result_7 : decode cX10_result 7 = .ok (.invokevirtual 101, 3) := by decide +kernel
theorem dX10_result_10 : decode cX10_result 10 = .ok (.ifCond .ne 5, 3) := by decide +kernel
theorem dX10_result_13 : decode cX10_result 13 = .ok (.iconst (-1), 1) := by decide +kernel
theorem dX10_result_14 : decode cX10_result 14 = .ok (.ireturn, 1) := by decide +kernel
theorem dX10_result_15 : decode cX10_result 15 = .ok (.aload_n 0, 1) := by decide +kernel
theorem dX10_result_16 : decode cX10_result 16 = .ok (.invokevirtual 241, 3) := by decide +kernel
theorem dX10_result_19 : decode cX10_result 19 = .ok (.aload_n 0, 1) := by decide +kernel
theorem dX10_result_20 : decode cX10_result 20 = .ok (.getfield 55, 3) := by decide +kernel
theorem dX10_result_23 : decode cX10_result 23 = .ok (.iload_n 1, 1) := by decide +kernel
theorem dX10_result_24 : decode cX10_result 24 = .ok (.iaload, 1) := by decide +kernel
theorem dX10_result_25 : decode cX10_result 25 = .ok (.ireturn, 1) := by decide +kernel
theorem dX10_asked_0 : decode cX10_asked 0 = .ok (.aload_n 0, 1) := by decide +kernel
theorem dX10_asked_1 : decode cX10_asked 1 = .ok (.iconst 0, 1) := by decide +kernel
theorem dX10_asked_2 : decode cX10_asked 2 = .ok (.putfield 80, 3) := by decide +kernel
theorem dX10_asked_5 : decode cX10_asked 5 = .ok (.aload_n 0, 1) := by decide +kernel
theorem dX10_asked_6 : decode cX10_asked 6 = .ok (.iload_n 1, 1) := by decide +kernel
theorem dX10_asked_7 : decode cX10_asked 7 = .ok (.invokevirtual 101, 3) := by decide +kernel
theorem dX10_asked_10 : decode cX10_asked 10 = .ok (.ifCond .ne 5, 3) := by decide +kernel
theorem dX10_asked_13 : decode cX10_asked 13 = .ok (.iconst (-1), 1) := by decide +kernel
theorem dX10_asked_14 : decode cX10_asked 14 = .ok (.ireturn, 1) := by decide +kernel
theorem dX10_asked_15 : decode cX10_asked 15 = .ok (.aload_n 0, 1) := by decide +kernel
theorem dX10_asked_16 : decode cX10_asked 16 = .ok (.invokevirtual 231, 3) := by decide +kernel
theorem dX10_asked_19 : decode cX10_asked 19 = .ok (.aload_n 0, 1) := by decide +kernel
theorem dX10_asked_20 : decode cX10_asked 20 = .ok (.getfield 61, 3) := by decide +kernel
theorem dX10_asked_23 : decode cX10_asked 23 = .ok (.iload_n 1, 1) := by decide +kernel
theorem dX10_asked_24 : decode cX10_asked 24 = .ok (.baload, 1) := by decide +kernel
theorem dX10_asked_25 : decode cX10_asked 25 = .ok (.ifCond .eq 7, 3) := by decide +kernel
theorem dX10_asked_28 : decode cX10_asked 28 = .ok (.iconst 1, 1) := by decide +kernel
theorem dX10_asked_29 : decode cX10_asked 29 = .ok (.goto 4, 3) := by decide +kernel
theorem dX10_asked_32 : decode cX10_asked 32 = .ok (.iconst 0, 1) := by decide +kernel
theorem dX10_asked_33 : decode cX10_asked 33 = .ok (.ireturn, 1) := by decide +kernel
theorem dX10_door_0 : decode cX10_door 0 = .ok (.aload_n 0, 1) := by decide +kernel
theorem dX10_door_1 : decode cX10_door 1 = .ok (.iconst 0, 1) := by decide +kernel
theorem dX10_door_2 : decode cX10_door 2 = .ok (.putfield 80, 3) := by decide +kernel
theorem dX10_door_5 : decode cX10_door 5 = .ok (.iload_n 1, 1) := by decide +kernel
theorem dX10_door_6 : decode cX10_door 6 = .ok (.invokestatic 228, 3) := by decide +kernel
theorem dX10_door_9 : decode cX10_door 9 = .ok (.ifCond .ne 5, 3) := by decide +kernel
theorem dX10_door_12 : decode cX10_door 12 = .ok (.iconst (-1), 1) := by decide +kernel
theorem dX10_door_13 : decode cX10_door 13 = .ok (.ireturn, 1) := by decide +kernel
theorem dX10_door_14 : decode cX10_door 14 = .ok (.aload_n 0, 1) := by decide +kernel
theorem dX10_door_15 : decode cX10_door 15 = .ok (.invokevirtual 241, 3) := by decide +kernel
theorem dX10_door_18 : decode cX10_door 18 = .ok (.iconst 0, 1) := by decide +kernel
theorem dX10_door_19 : decode cX10_door 19 = .ok (.istore_n 2, 1) := by decide +kernel
theorem dX10_door_20 : decode cX10_door 20 = .ok (.iconst 0, 1) := by decide +kernel
theorem dX10_door_21 : decode cX10_door 21 = .ok (.istore_n 3, 1) := by decide +kernel
theorem dX10_door_22 : decode cX10_door 22 = .ok (.iload_n 3, 1) := by decide +kernel
theorem dX10_door_23 : decode cX10_door 23 = .ok (.bipush 16, 2) := by decide +kernel
theorem dX10_door_25 : decode cX10_door 25 = .ok (.if_icmp .ge 24, 3) := by decide +kernel
theorem dX10_door_28 : decode cX10_door 28 = .ok (.iload_n 2, 1) := by decide +kernel
theorem dX10_door_29 : decode cX10_door 29 = .ok (.aload_n 0, 1) := by decide +kernel
theorem dX10_door_30 : decode cX10_door 30 = .ok (.getfield 58, 3) := by decide +kernel
theorem dX10_door_33 : decode cX10_door 33 = .ok (.iload_n 3, 1) := by decide +kernel
theorem dX10_door_34 : decode cX10_door 34 = .ok (.iaload, 1) := by decide +kernel
theorem dX10_door_35 : decode cX10_door 35 = .ok (.iload_n 1, 1) := by decide +kernel
theorem dX10_door_36 : decode cX10_door 36 = .ok (.ishr, 1) := by decide +kernel
theorem dX10_door_37 : decode cX10_door 37 = .ok (.iconst 1, 1) := by decide +kernel
theorem dX10_door_38 : decode cX10_door 38 = .ok (.iand, 1) := by decide +kernel
theorem dX10_door_39 : decode cX10_door 39 = .ok (.iload_n 3, 1) := by decide +kernel
theorem dX10_door_40 : decode cX10_door 40 = .ok (.ishl, 1) := by decide +kernel
theorem dX10_door_41 : decode cX10_door 41 = .ok (.ior, 1) := by decide +kernel
theorem dX10_door_42 : decode cX10_door 42 = .ok (.istore_n 2, 1) := by decide +kernel
theorem dX10_door_43 : decode cX10_door 43 = .ok (.iinc 3 1, 3) := by decide +kernel
theorem dX10_door_46 : decode cX10_door 46 = .ok (.goto (-24), 3) := by decide +kernel
theorem dX10_door_49 : decode cX10_door 49 = .ok (.iload_n 2, 1) := by decide +kernel
theorem dX10_door_50 : decode cX10_door 50 = .ok (.ireturn, 1) := by decide +kernel
theorem dX10_leaks_0 : decode cX10_leaks 0 = .ok (.aload_n 0, 1) := by decide +kernel
theorem dX10_leaks_1 : decode cX10_leaks 1 = .ok (.iconst 0, 1) := by decide +kernel
theorem dX10_leaks_2 : decode cX10_leaks 2 = .ok (.putfield 80, 3) := by decide +kernel
theorem dX10_leaks_5 : decode cX10_leaks 5 = .ok (.aload_n 0, 1) := by decide +kernel
theorem dX10_leaks_6 : decode cX10_leaks 6 = .ok (.invokevirtual 241, 3) := by decide +kernel
theorem dX10_leaks_9 : decode cX10_leaks 9 = .ok (.iconst 0, 1) := by decide +kernel
theorem dX10_leaks_10 : decode cX10_leaks 10 = .ok (.istore_n 1, 1) := by decide +kernel
theorem dX10_leaks_11 : decode cX10_leaks 11 = .ok (.iconst 0, 1) := by decide +kernel
theorem dX10_leaks_12 : decode cX10_leaks 12 = .ok (.istore_n 2, 1) := by decide +kernel
