theorem dX0_init_0 : decode cX0_init 0 = .ok (.aload_n 0, 1) := by decide +kernel
theorem dX0_init_1 : decode cX0_init 1 = .ok (.invokespecial 3, 3) := by decide +kernel
theorem dX0_init_4 : decode cX0_init 4 = .ok (.aload_n 0, 1) := by decide +kernel
theorem dX0_init_5 : decode cX0_init 5 = .ok (.bipush 16, 2) := by decide +kernel
theorem dX0_init_7 : decode cX0_init 7 = .ok (.newarray .int, 2) := by decide +kernel
theorem dX0_init_9 : decode cX0_init 9 = .ok (.putfield 9, 3) := by decide +kernel
theorem dX0_init_12 : decode cX0_init 12 = .ok (.aload_n 0, 1) := by decide +kernel
theorem dX0_init_13 : decode cX0_init 13 = .ok (.bipush 16, 2) := by decide +kernel
theorem dX0_init_15 : decode cX0_init 15 = .ok (.newarray .int, 2) := by decide +kernel
theorem dX0_init_17 : decode cX0_init 17 = .ok (.putfield 15, 3) := by decide +kernel
theorem dX0_init_20 : decode cX0_init 20 = .ok (.aload_n 0, 1) := by decide +kernel
theorem dX0_init_21 : decode cX0_init 21 = .ok (.aload_n 1, 1) := by decide +kernel
theorem dX0_init_22 : decode cX0_init 22 = .ok (.putfield 18, 3) := by decide +kernel
theorem dX0_init_25 : decode cX0_init 25 = .ok (.aload_n 0, 1) := by decide +kernel
theorem dX0_init_26 : decode cX0_init 26 = .ok (.aload_n 2, 1) := by decide +kernel
theorem dX0_init_27 : decode cX0_init 27 = .ok (.putfield 22, 3) := by decide +kernel
theorem dX0_init_30 : decode cX0_init 30 = .ok (.return_, 1) := by decide +kernel
theorem dX0_tell_0 : decode cX0_tell 0 = .ok (.iconst 1, 1) := by decide +kernel
theorem dX0_tell_1 : decode cX0_tell 1 = .ok (.iload_n 1, 1) := by decide +kernel
theorem dX0_tell_2 : decode cX0_tell 2 = .ok (.ishl, 1) := by decide +kernel
theorem dX0_tell_3 : decode cX0_tell 3 = .ok (.istore 4, 2) := by decide +kernel
theorem dX0_tell_5 : decode cX0_tell 5 = .ok (.aload_n 0, 1) := by decide +kernel
theorem dX0_tell_6 : decode cX0_tell 6 = .ok (.getfield 9, 3) := by decide +kernel
theorem dX0_tell_9 : decode cX0_tell 9 = .ok (.iload_n 2, 1) := by decide +kernel
theorem dX0_tell_10 : decode cX0_tell 10 = .ok (.iload_n 3, 1) := by decide +kernel
theorem dX0_tell_11 : decode cX0_tell 11 = .ok (.ifCond .eq 15, 3) := by decide +kernel
theorem dX0_tell_14 : decode cX0_tell 14 = .ok (.aload_n 0, 1) := by decide +kernel
theorem dX0_tell_15 : decode cX0_tell 15 = .ok (.getfield 9, 3) := by decide +kernel
theorem dX0_tell_18 : decode cX0_tell 18 = .ok (.iload_n 2, 1) := by decide +kernel
theorem dX0_tell_19 : decode cX0_tell 19 = .ok (.iaload, 1) := by decide +kernel
theorem dX0_tell_20 : decode cX0_tell 20 = .ok (.iload 4, 2) := by decide +kernel
theorem dX0_tell_22 : decode cX0_tell 22 = .ok (.ior, 1) := by decide +kernel
theorem dX0_tell_23 : decode cX0_tell 23 = .ok (.goto 14, 3) := by decide +kernel
theorem dX0_tell_26 : decode cX0_tell 26 = .ok (.aload_n 0, 1) := by decide +kernel
theorem dX0_tell_27 : decode cX0_tell 27 = .ok (.getfield 9, 3) := by decide +kernel
theorem dX0_tell_30 : decode cX0_tell 30 = .ok (.iload_n 2, 1) := by decide +kernel
theorem dX0_tell_31 : decode cX0_tell 31 = .ok (.iaload, 1) := by decide +kernel
theorem dX0_tell_32 : decode cX0_tell 32 = .ok (.iload 4, 2) := by decide +kernel
theorem dX0_tell_34 : decode cX0_tell 34 = .ok (.iconst (-1), 1) := by decide +kernel
theorem dX0_tell_35 : decode cX0_tell 35 = .ok (.ixor, 1) := by decide +kernel
theorem dX0_tell_36 : decode cX0_tell 36 = .ok (.iand, 1) := by decide +kernel
theorem dX0_tell_37 : decode cX0_tell 37 = .ok (.iastore, 1) := by decide +kernel
theorem dX0_tell_38 : decode cX0_tell 38 = .ok (.return_, 1) := by decide +kernel
theorem dX0_look_0 : decode cX0_look 0 = .ok (.aload_n 0, 1) := by decide +kernel
theorem dX0_look_1 : decode cX0_look 1 = .ok (.getfield 15, 3) := by decide +kernel
theorem dX0_look_4 : decode cX0_look 4 = .ok (.iconst 0, 1) := by decide +kernel
theorem dX0_look_5 : decode cX0_look 5 = .ok (.invokestatic 26, 3) := by decide +kernel
theorem dX0_look_8 : decode cX0_look 8 = .ok (.iconst 0, 1) := by decide +kernel
theorem dX0_look_9 : decode cX0_look 9 = .ok (.istore_n 2, 1) := by decide +kernel
theorem dX0_look_10 : decode cX0_look 10 = .ok (.iload_n 2, 1) := by decide +kernel
theorem dX0_look_11 : decode cX0_look 11 = .ok (.aload_n 0, 1) := by decide +kernel
theorem dX0_look_12 : decode cX0_look 12 = .ok (.getfield 18, 3) := by decide +kernel
theorem dX0_look_15 : decode cX0_look 15 = .ok (.getfield 32, 3) := by decide +kernel
theorem dX0_look_18 : decode cX0_look 18 = .ok (.if_icmp .ge 79, 3) := by decide +kernel
theorem dX0_look_21 : decode cX0_look 21 = .ok (.aload_n 0, 1) := by decide +kernel
theorem dX0_look_22 : decode cX0_look 22 = .ok (.getfield 22, 3) := by decide +kernel
theorem dX0_look_25 : decode cX0_look 25 = .ok (.getfield 38, 3) := by decide +kernel
theorem dX0_look_28 : decode cX0_look 28 = .ok (.iload_n 2, 1) := by decide +kernel
theorem dX0_look_29 : decode cX0_look 29 = .ok (.iaload, 1) := by decide +kernel
theorem dX0_look_30 : decode cX0_look 30 = .ok (.aload_n 1, 1) := by decide +kernel
theorem dX0_look_31 : decode cX0_look 31 = .ok (.iload_n 2, 1) := by decide +kernel
theorem dX0_look_32 : decode cX0_look 32 = .ok (.iaload, 1) := by decide +kernel
theorem dX0_look_33 : decode cX0_look 33 = .ok (.iand, 1) := by decide +kernel
theorem dX0_look_34 : decode cX0_look 34 = .ok (.istore_n 3, 1) := by decide +kernel
theorem dX0_look_35 : decode cX0_look 35 = .ok (.iconst 0, 1) := by decide +kernel
theorem dX0_look_36 : decode cX0_look 36 = .ok (.istore 4, 2) := by decide +kernel
theorem dX0_look_38 : decode cX0_look 38 = .ok (.iload 4, 2) := by decide +kernel
theorem dX0_look_40 : decode cX0_look 40 = .ok (.bipush 16, 2) := by decide +kernel
theorem dX0_look_42 : decode cX0_look 42 = .ok (.if_icmp .ge 49, 3) := by decide +kernel
theorem dX0_look_45 : decode cX0_look 45 = .ok (.iload_n 3, 1) := by decide +kernel
theorem dX0_look_46 : decode cX0_look 46 = .ok (.ifCond .eq 45, 3) := by decide +kernel
theorem dX0_look_49 : decode cX0_look 49 = .ok (.iload_n 3, 1) := by decide +kernel
theorem dX0_look_50 : decode cX0_look 50 = .ok (.iload 4, 2) := by decide +kernel
theorem dX0_look_52 : decode cX0_look 52 = .ok (.invokestatic 43, 3) := by decide +kernel
theorem dX0_look_55 : decode cX0_look 55 = .ok (.ifCond .eq 30, 3) := by decide +kernel
theorem dX0_look_58 : decode cX0_look 58 = .ok (.aload_n 0, 1) := by decide +kernel
theorem dX0_look_59 : decode cX0_look 59 = .ok (.getfield 15, 3) := by decide +kernel
theorem dX0_look_62 : decode cX0_look 62 = .ok (.iload 4, 2) := by decide +kernel
theorem dX0_look_64 : decode cX0_look 64 = .ok (.dup2, 1) := by decide +kernel
theorem dX0_look_65 : decode cX0_look 65 = .ok (.iaload, 1) := by decide +kernel
theorem dX0_look_66 : decode cX0_look 66 = .ok (.aload_n 0, 1) := by decide +kernel
theorem dX0_look_67 : decode cX0_look 67 = .ok (.getfield 22, 3) := by decide +kernel
theorem dX0_look_70 : decode cX0_look 70 = .ok (.iload_n 2, 1) := by decide +kernel
theorem dX0_look_71 : decode cX0_look 71 = .ok (.bipush 9, 2) := by decide +kernel
theorem dX0_look_73 : decode cX0_look 73 = .ok (.iload 4, 2) := by decide +kernel
theorem dX0_look_75 : decode cX0_look 75 = .ok (.iadd, 1) := by decide +kernel
theorem dX0_look_76 : decode cX0_look 76 = .ok (.invokestatic 47, 3) := by decide +kernel
theorem dX0_look_79 : decode cX0_look 79 = .ok (.aload_n 1, 1) := by decide +kernel
theorem dX0_look_80 : decode cX0_look 80 = .ok (.invokevirtual 51, 3) := by decide +kernel
theorem dX0_look_83 : decode cX0_look 83 = .ok (.ior, 1) := by decide +kernel
theorem dX0_look_84 : decode cX0_look 84 = .ok (.iastore, 1) := by decide +kernel
theorem dX0_look_85 : decode cX0_look 85 = .ok (.iinc 4 1, 3) := by decide +kernel
theorem dX0_look_88 : decode cX0_look 88 = .ok (.goto (-50), 3) := by decide +kernel
theorem dX0_look_91 : decode cX0_look 91 = .ok (.iinc 2 1, 3) := by decide +kernel
theorem dX0_look_94 : decode cX0_look 94 = .ok (.goto (-84), 3) := by decide +kernel
theorem dX0_look_97 : decode cX0_look 97 = .ok (.return_, 1) := by decide +kernel
theorem dX0_misuses_0 : decode cX0_misuses 0 = .ok (.iconst 0, 1) := by decide +kernel
theorem dX0_misuses_1 : decode cX0_misuses 1 = .ok (.istore_n 1, 1) := by decide +kernel
theorem dX0_misuses_2 : decode cX0_misuses 2 = .ok (.iconst 0, 1) := by decide +kernel
theorem dX0_misuses_3 : decode cX0_misuses 3 = .ok (.istore_n 2, 1) := by decide +kernel
theorem dX0_misuses_4 : decode cX0_misuses 4 = .ok (.iload_n 2, 1) := by decide +kernel
theorem dX0_misuses_5 : decode cX0_misuses 5 = .ok (.bipush 16, 2) := by decide +kernel
theorem dX0_misuses_7 : decode cX0_misuses 7 = .ok (.if_icmp .ge 30, 3) := by decide +kernel
theorem dX0_misuses_10 : decode cX0_misuses 10 = .ok (.iload_n 1, 1) := by decide +kernel
theorem dX0_misuses_11 : decode cX0_misuses 11 = .ok (.aload_n 0, 1) := by decide +kernel
theorem dX0_misuses_12 : decode cX0_misuses 12 = .ok (.getfield 15, 3) := by decide +kernel
theorem dX0_misuses_15 : decode cX0_misuses 15 = .ok (.iload_n 2, 1) := by decide +kernel
theorem dX0_misuses_16 : decode cX0_misuses 16 = .ok (.iaload, 1) := by decide +kernel
theorem dX0_misuses_17 : decode cX0_misuses 17 = .ok (.aload_n 0, 1) := by decide +kernel
theorem dX0_misuses_18 : decode cX0_misuses 18 = .ok (.getfield 9, 3) := by decide +kernel
theorem dX0_misuses_21 : decode cX0_misuses 21 = .ok (.iload_n 2, 1) := by decide +kernel
theorem dX0_misuses_22 : decode cX0_misuses 22 = .ok (.iaload, 1) := by decide +kernel
theorem dX0_misuses_23 : decode cX0_misuses 23 = .ok (.iconst (-1), 1) := by decide +kernel
theorem dX0_misuses_24 : decode cX0_misuses 24 = .ok (.ixor, 1) := by decide +kernel
theorem dX0_misuses_25 : decode cX0_misuses 25 = .ok (.iand, 1) := by decide +kernel
theorem dX0_misuses_26 : decode cX0_misuses 26 = .ok (.invokestatic 55, 3) := by decide +kernel
theorem dX0_misuses_29 : decode cX0_misuses 29 = .ok (.iadd, 1) := by decide +kernel
theorem dX0_misuses_30 : decode cX0_misuses 30 = .ok (.istore_n 1, 1) := by decide +kernel
theorem dX0_misuses_31 : decode cX0_misuses 31 = .ok (.iinc 2 1, 3) := by decide +kernel
theorem dX0_misuses_34 : decode cX0_misuses 34 = .ok (.goto (-30), 3) := by decide +kernel
theorem dX0_misuses_37 : decode cX0_misuses 37 = .ok (.iload_n 1, 1) := by decide +kernel
theorem dX0_misuses_38 : decode cX0_misuses 38 = .ok (.ireturn, 1) := by decide +kernel
theorem dX0_services_0 : decode cX0_services 0 = .ok (.iconst 0, 1) := by decide +kernel
theorem dX0_services_1 : decode cX0_services 1 = .ok (.istore_n 1, 1) := by decide +kernel
theorem dX0_services_2 : decode cX0_services 2 = .ok (.iconst 0, 1) := by decide +kernel
theorem dX0_services_3 : decode cX0_services 3 = .ok (.istore_n 2, 1) := by decide +kernel
theorem dX0_services_4 : decode cX0_services 4 = .ok (.iload_n 2, 1) := by decide +kernel
theorem dX0_services_5 : decode cX0_services 5 = .ok (.bipush 16, 2) := by decide +kernel
theorem dX0_services_7 : decode cX0_services 7 = .ok (.if_icmp .ge 28, 3) := by decide +kernel
theorem dX0_services_10 : decode cX0_services 10 = .ok (.iload_n 1, 1) := by decide +kernel
theorem dX0_services_11 : decode cX0_services 11 = .ok (.aload_n 0, 1) := by decide +kernel
theorem dX0_services_12 : decode cX0_services 12 = .ok (.getfield 15, 3) := by decide +kernel
theorem dX0_services_15 : decode cX0_services 15 = .ok (.iload_n 2, 1) := by decide +kernel
theorem dX0_services_16 : decode cX0_services 16 = .ok (.iaload, 1) := by decide +kernel
theorem dX0_services_17 : decode cX0_services 17 = .ok (.aload_n 0, 1) := by decide +kernel
theorem dX0_services_18 : decode cX0_services 18 = .ok (.getfield 9, 3) := by decide +kernel
theorem dX0_services_21 : decode cX0_services 21 = .ok (.iload_n 2, 1) := by decide +kernel
theorem dX0_services_22 : decode cX0_services 22 = .ok (.iaload, 1) := by decide +kernel
theorem dX0_services_23 : decode cX0_services 23 = .ok (.iand, 1) := by decide +kernel
theorem dX0_services_24 : decode cX0_services 24 = .ok (.invokestatic 55, 3) := by decide +kernel
theorem dX0_services_27 : decode cX0_services 27 = .ok (.iadd, 1) := by decide +kernel
theorem dX0_services_28 : decode cX0_services 28 = .ok (.istore_n 1, 1) := by decide +kernel
theorem dX0_services_29 : decode cX0_services 29 = .ok (.iinc 2 1, 3) := by decide +kernel
theorem dX0_services_32 : decode cX0_services 32 = .ok (.goto (-28), 3) := by decide +kernel
theorem dX0_services_35 : decode cX0_services 35 = .ok (.iload_n 1, 1) := by decide +kernel
theorem dX0_services_36 : decode cX0_services 36 = .ok (.ireturn, 1) := by decide +kernel
theorem dX0_misuseAt_0 : decode cX0_misuseAt 0 = .ok (.iconst 0, 1) := by decide +kernel
theorem dX0_misuseAt_1 : decode cX0_misuseAt 1 = .ok (.istore_n 2, 1) := by decide +kernel
theorem dX0_misuseAt_2 : decode cX0_misuseAt 2 = .ok (.iconst 0, 1) := by decide +kernel
theorem dX0_misuseAt_3 : decode cX0_misuseAt 3 = .ok (.istore_n 3, 1) := by decide +kernel
theorem dX0_misuseAt_4 : decode cX0_misuseAt 4 = .ok (.iload_n 3, 1) := by decide +kernel
theorem dX0_misuseAt_5 : decode cX0_misuseAt 5 = .ok (.bipush 16, 2) := by decide +kernel
theorem dX0_misuseAt_7 : decode cX0_misuseAt 7 = .ok (.if_icmp .ge 65, 3) := by decide +kernel
theorem dX0_misuseAt_10 : decode cX0_misuseAt 10 = .ok (.iconst 0, 1) := by decide +kernel
theorem dX0_misuseAt_11 : decode cX0_misuseAt 11 = .ok (.istore 4, 2) := by decide +kernel
theorem dX0_misuseAt_13 : decode cX0_misuseAt 13 = .ok (.iload 4, 2) := by decide +kernel
theorem dX0_misuseAt_15 : decode cX0_misuseAt 15 = .ok (.bipush 16, 2) := by decide +kernel
theorem dX0_misuseAt_17 : decode cX0_misuseAt 17 = .ok (.if_icmp .ge 49, 3) := by decide +kernel
theorem dX0_misuseAt_20 : decode cX0_misuseAt 20 = .ok (.aload_n 0, 1) := by decide +kernel
theorem dX0_misuseAt_21 : decode cX0_misuseAt 21 = .ok (.getfield 15, 3) := by decide +kernel
theorem dX0_misuseAt_24 : decode cX0_misuseAt 24 = .ok (.iload 4, 2) := by decide +kernel
theorem dX0_misuseAt_26 : decode cX0_misuseAt 26 = .ok (.iaload, 1) := by decide +kernel
theorem dX0_misuseAt_27 : decode cX0_misuseAt 27 = .ok (.aload_n 0, 1) := by decide +kernel
theorem dX0_misuseAt_28 : decode cX0_misuseAt 28 = .ok (.getfield 9, 3) := by decide +kernel
theorem dX0_misuseAt_31 : decode cX0_misuseAt 31 = .ok (.iload 4, 2) := by decide +kernel
theorem dX0_misuseAt_33 : decode cX0_misuseAt 33 = .ok (.iaload, 1) := by decide +kernel
theorem dX0_misuseAt_34 : decode cX0_misuseAt 34 = .ok (.iconst (-1), 1) := by decide +kernel
theorem dX0_misuseAt_35 : decode cX0_misuseAt 35 = .ok (.ixor, 1) := by decide +kernel
theorem dX0_misuseAt_36 : decode cX0_misuseAt 36 = .ok (.iand, 1) := by decide +kernel
theorem dX0_misuseAt_37 : decode cX0_misuseAt 37 = .ok (.iload_n 3, 1) := by decide +kernel
theorem dX0_misuseAt_38 : decode cX0_misuseAt 38 = .ok (.invokestatic 43, 3) := by decide +kernel
theorem dX0_misuseAt_41 : decode cX0_misuseAt 41 = .ok (.ifCond .eq 19, 3) := by decide +kernel
theorem dX0_misuseAt_44 : decode cX0_misuseAt 44 = .ok (.iload_n 2, 1) := by decide +kernel
theorem dX0_misuseAt_45 : decode cX0_misuseAt 45 = .ok (.iload_n 1, 1) := by decide +kernel
theorem dX0_misuseAt_46 : decode cX0_misuseAt 46 = .ok (.if_icmp .ne 11, 3) := by decide +kernel
theorem dX0_misuseAt_49 : decode cX0_misuseAt 49 = .ok (.bipush 100, 2) := by decide +kernel
theorem dX0_misuseAt_51 : decode cX0_misuseAt 51 = .ok (.iload_n 3, 1) := by decide +kernel
theorem dX0_misuseAt_52 : decode cX0_misuseAt 52 = .ok (.imul, 1) := by decide +kernel
theorem dX0_misuseAt_53 : decode cX0_misuseAt 53 = .ok (.iload 4, 2) := by decide +kernel
theorem dX0_misuseAt_55 : decode cX0_misuseAt 55 = .ok (.iadd, 1) := by decide +kernel
theorem dX0_misuseAt_56 : decode cX0_misuseAt 56 = .ok (.ireturn, 1) := by decide +kernel
theorem dX0_misuseAt_57 : decode cX0_misuseAt 57 = .ok (.iinc 2 1, 3) := by decide +kernel
theorem dX0_misuseAt_60 : decode cX0_misuseAt 60 = .ok (.iinc 4 1, 3) := by decide +kernel
theorem dX0_misuseAt_63 : decode cX0_misuseAt 63 = .ok (.goto (-50), 3) := by decide +kernel
theorem dX0_misuseAt_66 : decode cX0_misuseAt 66 = .ok (.iinc 3 1, 3) := by decide +kernel
theorem dX0_misuseAt_69 : decode cX0_misuseAt 69 = .ok (.goto (-65), 3) := by decide +kernel
theorem dX0_misuseAt_72 : decode cX0_misuseAt 72 = .ok (.iconst (-1), 1) := by decide +kernel
theorem dX0_misuseAt_73 : decode cX0_misuseAt 73 = .ok (.ireturn, 1) := by decide +kernel
theorem dX0_toldPairs_0 : decode cX0_toldPairs 0 = .ok (.iconst 0, 1) := by decide +kernel
theorem dX0_toldPairs_1 : decode cX0_toldPairs 1 = .ok (.istore_n 1, 1) := by decide +kernel
theorem dX0_toldPairs_2 : decode cX0_toldPairs 2 = .ok (.iconst 0, 1) := by decide +kernel
theorem dX0_toldPairs_3 : decode cX0_toldPairs 3 = .ok (.istore_n 2, 1) := by decide +kernel
theorem dX0_toldPairs_4 : decode cX0_toldPairs 4 = .ok (.iload_n 2, 1) := by decide +kernel
theorem dX0_toldPairs_5 : decode cX0_toldPairs 5 = .ok (.bipush 16, 2) := by decide +kernel
theorem dX0_toldPairs_7 : decode cX0_toldPairs 7 = .ok (.if_icmp .ge 21, 3) := by decide +kernel
theorem dX0_toldPairs_10 : decode cX0_toldPairs 10 = .ok (.iload_n 1, 1) := by decide +kernel
theorem dX0_toldPairs_11 : decode cX0_toldPairs 11 = .ok (.aload_n 0, 1) := by decide +kernel
theorem dX0_toldPairs_12 : decode cX0_toldPairs 12 = .ok (.getfield 9, 3) := by decide +kernel
theorem dX0_toldPairs_15 : decode cX0_toldPairs 15 = .ok (.iload_n 2, 1) := by decide +kernel
theorem dX0_toldPairs_16 : decode cX0_toldPairs 16 = .ok (.iaload, 1) := by decide +kernel
theorem dX0_toldPairs_17 : decode cX0_toldPairs 17 = .ok (.invokestatic 55, 3) := by decide +kernel
theorem dX0_toldPairs_20 : decode cX0_toldPairs 20 = .ok (.iadd, 1) := by decide +kernel
theorem dX0_toldPairs_21 : decode cX0_toldPairs 21 = .ok (.istore_n 1, 1) := by decide +kernel
theorem dX0_toldPairs_22 : decode cX0_toldPairs 22 = .ok (.iinc 2 1, 3) := by decide +kernel
theorem dX0_toldPairs_25 : decode cX0_toldPairs 25 = .ok (.goto (-21), 3) := by decide +kernel
theorem dX0_toldPairs_28 : decode cX0_toldPairs 28 = .ok (.iload_n 1, 1) := by decide +kernel
theorem dX0_toldPairs_29 : decode cX0_toldPairs 29 = .ok (.ireturn, 1) := by decide +kernel
theorem dX1_init_0 : decode cX1_init 0 = .ok (.aload_n 0, 1) := by decide +kernel
theorem dX1_init_1 : decode cX1_init 1 = .ok (.invokespecial 3, 3) := by decide +kernel
theorem dX1_init_4 : decode cX1_init 4 = .ok (.aload_n 0, 1) := by decide +kernel
theorem dX1_init_5 : decode cX1_init 5 = .ok (.bipush 10, 2) := by decide +kernel
theorem dX1_init_7 : decode cX1_init 7 = .ok (.newarray .int, 2) := by decide +kernel
theorem dX1_init_9 : decode cX1_init 9 = .ok (.putfield 9, 3) := by decide +kernel
theorem dX1_init_12 : decode cX1_init 12 = .ok (.aload_n 0, 1) := by decide +kernel
theorem dX1_init_13 : decode cX1_init 13 = .ok (.bipush 10, 2) := by decide +kernel
theorem dX1_init_15 : decode cX1_init 15 = .ok (.newarray .int, 2) := by decide +kernel
theorem dX1_init_17 : decode cX1_init 17 = .ok (.putfield 15, 3) := by decide +kernel
theorem dX1_init_20 : decode cX1_init 20 = .ok (.aload_n 0, 1) := by decide +kernel
theorem dX1_init_21 : decode cX1_init 21 = .ok (.bipush 10, 2) := by decide +kernel
theorem dX1_init_23 : decode cX1_init 23 = .ok (.newarray .int, 2) := by decide +kernel
theorem dX1_init_25 : decode cX1_init 25 = .ok (.putfield 18, 3) := by decide +kernel
theorem dX1_init_28 : decode cX1_init 28 = .ok (.aload_n 0, 1) := by decide +kernel
theorem dX1_init_29 : decode cX1_init 29 = .ok (.sipush 250, 3) := by decide +kernel
theorem dX1_init_32 : decode cX1_init 32 = .ok (.newarray .int, 2) := by decide +kernel
theorem dX1_init_34 : decode cX1_init 34 = .ok (.putfield 21, 3) := by decide +kernel
theorem dX1_init_37 : decode cX1_init 37 = .ok (.aload_n 0, 1) := by decide +kernel
theorem dX1_init_38 : decode cX1_init 38 = .ok (.sipush 480, 3) := by decide +kernel
theorem dX1_init_41 : decode cX1_init 41 = .ok (.newarray .int, 2) := by decide +kernel
theorem dX1_init_43 : decode cX1_init 43 = .ok (.putfield 24, 3) := by decide +kernel
theorem dX1_init_46 : decode cX1_init 46 = .ok (.aload_n 0, 1) := by decide +kernel
theorem dX1_init_47 : decode cX1_init 47 = .ok (.sipush 480, 3) := by decide +kernel
theorem dX1_init_50 : decode cX1_init 50 = .ok (.newarray .int, 2) := by decide +kernel
theorem dX1_init_52 : decode cX1_init 52 = .ok (.putfield 27, 3) := by decide +kernel
theorem dX1_init_55 : decode cX1_init 55 = .ok (.aload_n 0, 1) := by decide +kernel
theorem dX1_init_56 : decode cX1_init 56 = .ok (.sipush 480, 3) := by decide +kernel
theorem dX1_init_59 : decode cX1_init 59 = .ok (.newarray .int, 2) := by decide +kernel
theorem dX1_init_61 : decode cX1_init 61 = .ok (.putfield 30, 3) := by decide +kernel
theorem dX1_init_64 : decode cX1_init 64 = .ok (.aload_n 0, 1) := by decide +kernel
theorem dX1_init_65 : decode cX1_init 65 = .ok (.bipush 10, 2) := by decide +kernel
theorem dX1_init_67 : decode cX1_init 67 = .ok (.sipush 250, 3) := by decide +kernel
theorem dX1_init_70 : decode cX1_init 70 = .ok (.multianewarray 33 2, 4) := by decide +kernel
theorem dX1_init_74 : decode cX1_init 74 = .ok (.putfield 35, 3) := by decide +kernel
theorem dX1_init_77 : decode cX1_init 77 = .ok (.aload_n 0, 1) := by decide +kernel
theorem dX1_init_78 : decode cX1_init 78 = .ok (.aload_n 1, 1) := by decide +kernel
theorem dX1_init_79 : decode cX1_init 79 = .ok (.putfield 38, 3) := by decide +kernel
theorem dX1_init_82 : decode cX1_init 82 = .ok (.return_, 1) := by decide +kernel
theorem dX1_isLive_0 : decode cX1_isLive 0 = .ok (.aload_n 0, 1) := by decide +kernel
theorem dX1_isLive_1 : decode cX1_isLive 1 = .ok (.getfield 42, 3) := by decide +kernel
theorem dX1_isLive_4 : decode cX1_isLive 4 = .ok (.iload_n 1, 1) := by decide +kernel
theorem dX1_isLive_5 : decode cX1_isLive 5 = .ok (.invokestatic 46, 3) := by decide +kernel
theorem dX1_isLive_8 : decode cX1_isLive 8 = .ok (.ireturn, 1) := by decide +kernel
theorem dX1_uses_0 : decode cX1_uses 0 = .ok (.aload_n 0, 1) := by decide +kernel
theorem dX1_uses_1 : decode cX1_uses 1 = .ok (.getfield 15, 3) := by decide +kernel
theorem dX1_uses_4 : decode cX1_uses 4 = .ok (.iload_n 1, 1) := by decide +kernel
theorem dX1_uses_5 : decode cX1_uses 5 = .ok (.iaload, 1) := by decide +kernel
theorem dX1_uses_6 : decode cX1_uses 6 = .ok (.aload_n 0, 1) := by decide +kernel
theorem dX1_uses_7 : decode cX1_uses 7 = .ok (.getfield 18, 3) := by decide +kernel
theorem dX1_uses_10 : decode cX1_uses 10 = .ok (.iload_n 1, 1) := by decide +kernel
theorem dX1_uses_11 : decode cX1_uses 11 = .ok (.iaload, 1) := by decide +kernel
theorem dX1_uses_12 : decode cX1_uses 12 = .ok (.ior, 1) := by decide +kernel
theorem dX1_uses_13 : decode cX1_uses 13 = .ok (.ireturn, 1) := by decide +kernel
theorem dX1_usesOfHelpers_0 : decode cX1_usesOfHelpers 0 = .ok (.iconst 0, 1) := by decide +kernel
theorem dX1_usesOfHelpers_1 : decode cX1_usesOfHelpers 1 = .ok (.istore_n 2, 1) := by decide +kernel
theorem dX1_usesOfHelpers_2 : decode cX1_usesOfHelpers 2 = .ok (.iconst 0, 1) := by decide +kernel
theorem dX1_usesOfHelpers_3 : decode cX1_usesOfHelpers 3 = .ok (.istore_n 3, 1) := by decide +kernel
theorem dX1_usesOfHelpers_4 : decode cX1_usesOfHelpers 4 = .ok (.iload_n 3, 1) := by decide +kernel
theorem dX1_usesOfHelpers_5 : decode cX1_usesOfHelpers 5 = .ok (.aload_n 0, 1) := by decide +kernel
theorem dX1_usesOfHelpers_6 : decode cX1_usesOfHelpers 6 = .ok (.getfield 38, 3) := by decide +kernel
theorem dX1_usesOfHelpers_9 : decode cX1_usesOfHelpers 9 = .ok (.getfield 50, 3) := by decide +kernel
theorem dX1_usesOfHelpers_12 : decode cX1_usesOfHelpers 12 = .ok (.if_icmp .ge 48, 3) := by decide +kernel
theorem dX1_usesOfHelpers_15 : decode cX1_usesOfHelpers 15 = .ok (.aload_n 0, 1) := by decide +kernel
theorem dX1_usesOfHelpers_16 : decode cX1_usesOfHelpers 16 = .ok (.iload_n 1, 1) := by decide +kernel
theorem dX1_usesOfHelpers_17 : decode cX1_usesOfHelpers 17 = .ok (.invokevirtual 55, 3) := by decide +kernel
theorem dX1_usesOfHelpers_20 : decode cX1_usesOfHelpers 20 = .ok (.ifCond .eq 40, 3) := by decide +kernel
theorem dX1_usesOfHelpers_23 : decode cX1_usesOfHelpers 23 = .ok (.aload_n 0, 1) := by decide +kernel
theorem dX1_usesOfHelpers_24 : decode cX1_usesOfHelpers 24 = .ok (.getfield 9, 3) := by decide +kernel
theorem dX1_usesOfHelpers_27 : decode cX1_usesOfHelpers 27 = .ok (.iload_n 1, 1) := by decide +kernel
theorem dX1_usesOfHelpers_28 : decode cX1_usesOfHelpers 28 = .ok (.iaload, 1) := by decide +kernel
theorem dX1_usesOfHelpers_29 : decode cX1_usesOfHelpers 29 = .ok (.iload_n 3, 1) := by decide +kernel
theorem dX1_usesOfHelpers_30 : decode cX1_usesOfHelpers 30 = .ok (.invokestatic 46, 3) := by decide +kernel
theorem dX1_usesOfHelpers_33 : decode cX1_usesOfHelpers 33 = .ok (.ifCond .eq 21, 3) := by decide +kernel
theorem dX1_usesOfHelpers_36 : decode cX1_usesOfHelpers 36 = .ok (.iload_n 2, 1) := by decide +kernel
theorem dX1_usesOfHelpers_37 : decode cX1_usesOfHelpers 37 = .ok (.aload_n 0, 1) := by decide +kernel
theorem dX1_usesOfHelpers_38 : decode cX1_usesOfHelpers 38 = .ok (.iload_n 3, 1) := by decide +kernel
theorem dX1_usesOfHelpers_39 : decode cX1_usesOfHelpers 39 = .ok (.invokevirtual 59, 3) := by decide +kernel
theorem dX1_usesOfHelpers_42 : decode cX1_usesOfHelpers 42 = .ok (.aload_n 0, 1) := by decide +kernel
theorem dX1_usesOfHelpers_43 : decode cX1_usesOfHelpers 43 = .ok (.getfield 38, 3) := by decide +kernel
theorem dX1_usesOfHelpers_46 : decode cX1_usesOfHelpers 46 = .ok (.getfield 63, 3) := by decide +kernel
theorem dX1_usesOfHelpers_49 : decode cX1_usesOfHelpers 49 = .ok (.iload_n 3, 1) := by decide +kernel
theorem dX1_usesOfHelpers_50 : decode cX1_usesOfHelpers 50 = .ok (.iaload, 1) := by decide +kernel
theorem dX1_usesOfHelpers_51 : decode cX1_usesOfHelpers 51 = .ok (.iand, 1) := by decide +kernel
theorem dX1_usesOfHelpers_52 : decode cX1_usesOfHelpers 52 = .ok (.ior, 1) := by decide +kernel
theorem dX1_usesOfHelpers_53 : decode cX1_usesOfHelpers 53 = .ok (.istore_n 2, 1) := by decide +kernel
theorem dX1_usesOfHelpers_54 : decode cX1_usesOfHelpers 54 = .ok (.iinc 3 1, 3) := by decide +kernel
theorem dX1_usesOfHelpers_57 : decode cX1_usesOfHelpers 57 = .ok (.goto (-53), 3) := by decide +kernel
theorem dX1_usesOfHelpers_60 : decode cX1_usesOfHelpers 60 = .ok (.iload_n 2, 1) := by decide +kernel
theorem dX1_usesOfHelpers_61 : decode cX1_usesOfHelpers 61 = .ok (.ireturn, 1) := by decide +kernel
theorem dX1_secretsAt_0 : decode cX1_secretsAt 0 = .ok (.iconst 0, 1) := by decide +kernel
theorem dX1_secretsAt_1 : decode cX1_secretsAt 1 = .ok (.istore_n 3, 1) := by decide +kernel
theorem dX1_secretsAt_2 : decode cX1_secretsAt 2 = .ok (.iconst 0, 1) := by decide +kernel
theorem dX1_secretsAt_3 : decode cX1_secretsAt 3 = .ok (.istore 4, 2) := by decide +kernel
theorem dX1_secretsAt_5 : decode cX1_secretsAt 5 = .ok (.iload 4, 2) := by decide +kernel
theorem dX1_secretsAt_7 : decode cX1_secretsAt 7 = .ok (.aload_n 0, 1) := by decide +kernel
theorem dX1_secretsAt_8 : decode cX1_secretsAt 8 = .ok (.getfield 38, 3) := by decide +kernel
theorem dX1_secretsAt_11 : decode cX1_secretsAt 11 = .ok (.getfield 50, 3) := by decide +kernel
theorem dX1_secretsAt_14 : decode cX1_secretsAt 14 = .ok (.if_icmp .ge 26, 3) := by decide +kernel
theorem dX1_secretsAt_17 : decode cX1_secretsAt 17 = .ok (.iload_n 3, 1) := by decide +kernel
theorem dX1_secretsAt_18 : decode cX1_secretsAt 18 = .ok (.aload_n 0, 1) := by decide +kernel
theorem dX1_secretsAt_19 : decode cX1_secretsAt 19 = .ok (.getfield 35, 3) := by decide +kernel
theorem dX1_secretsAt_22 : decode cX1_secretsAt 22 = .ok (.iload 4, 2) := by decide +kernel
theorem dX1_secretsAt_24 : decode cX1_secretsAt 24 = .ok (.aaload, 1) := by decide +kernel
theorem dX1_secretsAt_25 : decode cX1_secretsAt 25 = .ok (.iload_n 1, 1) := by decide +kernel
theorem dX1_secretsAt_26 : decode cX1_secretsAt 26 = .ok (.iaload, 1) := by decide +kernel
theorem dX1_secretsAt_27 : decode cX1_secretsAt 27 = .ok (.aload_n 2, 1) := by decide +kernel
theorem dX1_secretsAt_28 : decode cX1_secretsAt 28 = .ok (.iload 4, 2) := by decide +kernel
theorem dX1_secretsAt_30 : decode cX1_secretsAt 30 = .ok (.iaload, 1) := by decide +kernel
theorem dX1_secretsAt_31 : decode cX1_secretsAt 31 = .ok (.iand, 1) := by decide +kernel
theorem dX1_secretsAt_32 : decode cX1_secretsAt 32 = .ok (.ior, 1) := by decide +kernel
theorem dX1_secretsAt_33 : decode cX1_secretsAt 33 = .ok (.istore_n 3, 1) := by decide +kernel
theorem dX1_secretsAt_34 : decode cX1_secretsAt 34 = .ok (.iinc 4 1, 3) := by decide +kernel
theorem dX1_secretsAt_37 : decode cX1_secretsAt 37 = .ok (.goto (-32), 3) := by decide +kernel
theorem dX1_secretsAt_40 : decode cX1_secretsAt 40 = .ok (.iload_n 3, 1) := by decide +kernel
theorem dX1_secretsAt_41 : decode cX1_secretsAt 41 = .ok (.ireturn, 1) := by decide +kernel
theorem dX1_trace_0 : decode cX1_trace 0 = .ok (.aload_n 0, 1) := by decide +kernel
theorem dX1_trace_1 : decode cX1_trace 1 = .ok (.invokevirtual 66, 3) := by decide +kernel
theorem dX1_trace_4 : decode cX1_trace 4 = .ok (.aload_n 0, 1) := by decide +kernel
theorem dX1_trace_5 : decode cX1_trace 5 = .ok (.iconst 0, 1) := by decide +kernel
theorem dX1_trace_6 : decode cX1_trace 6 = .ok (.putfield 69, 3) := by decide +kernel
theorem dX1_trace_9 : decode cX1_trace 9 = .ok (.aload_n 0, 1) := by decide +kernel
theorem dX1_trace_10 : decode cX1_trace 10 = .ok (.getfield 15, 3) := by decide +kernel
theorem dX1_trace_13 : decode cX1_trace 13 = .ok (.iconst 0, 1) := by decide +kernel
theorem dX1_trace_14 : decode cX1_trace 14 = .ok (.invokestatic 72, 3) := by decide +kernel
theorem dX1_trace_17 : decode cX1_trace 17 = .ok (.aload_n 0, 1) := by decide +kernel
theorem dX1_trace_18 : decode cX1_trace 18 = .ok (.getfield 18, 3) := by decide +kernel
theorem dX1_trace_21 : decode cX1_trace 21 = .ok (.iconst 0, 1) := by decide +kernel
theorem dX1_trace_22 : decode cX1_trace 22 = .ok (.invokestatic 72, 3) := by decide +kernel
theorem dX1_trace_25 : decode cX1_trace 25 = .ok (.aload_n 0, 1) := by decide +kernel
theorem dX1_trace_26 : decode cX1_trace 26 = .ok (.getfield 21, 3) := by decide +kernel
theorem dX1_trace_29 : decode cX1_trace 29 = .ok (.iconst 0, 1) := by decide +kernel
theorem dX1_trace_30 : decode cX1_trace 30 = .ok (.invokestatic 72, 3) := by decide +kernel
theorem dX1_trace_33 : decode cX1_trace 33 = .ok (.iconst 0, 1) := by decide +kernel
theorem dX1_trace_34 : decode cX1_trace 34 = .ok (.istore_n 1, 1) := by decide +kernel
theorem dX1_trace_35 : decode cX1_trace 35 = .ok (.iload_n 1, 1) := by decide +kernel
theorem dX1_trace_36 : decode cX1_trace 36 = .ok (.aload_n 0, 1) := by decide +kernel
theorem dX1_trace_37 : decode cX1_trace 37 = .ok (.getfield 38, 3) := by decide +kernel
theorem dX1_trace_40 : decode cX1_trace 40 = .ok (.getfield 50, 3) := by decide +kernel
theorem dX1_trace_43 : decode cX1_trace 43 = .ok (.if_icmp .ge 53, 3) := by decide +kernel
theorem dX1_trace_46 : decode cX1_trace 46 = .ok (.aload_n 0, 1) := by decide +kernel
theorem dX1_trace_47 : decode cX1_trace 47 = .ok (.iload_n 1, 1) := by decide +kernel
theorem dX1_trace_48 : decode cX1_trace 48 = .ok (.invokevirtual 55, 3) := by decide +kernel
theorem dX1_trace_51 : decode cX1_trace 51 = .ok (.ifCond .eq 18, 3) := by decide +kernel
theorem dX1_trace_54 : decode cX1_trace 54 = .ok (.aload_n 0, 1) := by decide +kernel
theorem dX1_trace_55 : decode cX1_trace 55 = .ok (.getfield 38, 3) := by decide +kernel
theorem dX1_trace_58 : decode cX1_trace 58 = .ok (.getfield 78, 3) := by decide +kernel
theorem dX1_trace_61 : decode cX1_trace 61 = .ok (.iload_n 1, 1) := by decide +kernel
theorem dX1_trace_62 : decode cX1_trace 62 = .ok (.aaload, 1) := by decide +kernel
theorem dX1_trace_63 : decode cX1_trace 63 = .ok (.getfield 82, 3) := by decide +kernel
theorem dX1_trace_66 : decode cX1_trace 66 = .ok (.goto 4, 3) := by decide +kernel
theorem dX1_trace_69 : decode cX1_trace 69 = .ok (.iconst 0, 1) := by decide +kernel
theorem dX1_trace_70 : decode cX1_trace 70 = .ok (.istore_n 2, 1) := by decide +kernel
theorem dX1_trace_71 : decode cX1_trace 71 = .ok (.iconst 0, 1) := by decide +kernel
theorem dX1_trace_72 : decode cX1_trace 72 = .ok (.istore_n 3, 1) := by decide +kernel
theorem dX1_trace_73 : decode cX1_trace 73 = .ok (.iload_n 3, 1) := by decide +kernel
theorem dX1_trace_74 : decode cX1_trace 74 = .ok (.iload_n 2, 1) := by decide +kernel
theorem dX1_trace_75 : decode cX1_trace 75 = .ok (.if_icmp .ge 15, 3) := by decide +kernel
theorem dX1_trace_78 : decode cX1_trace 78 = .ok (.aload_n 0, 1) := by decide +kernel
theorem dX1_trace_79 : decode cX1_trace 79 = .ok (.iload_n 1, 1) := by decide +kernel
theorem dX1_trace_80 : decode cX1_trace 80 = .ok (.iload_n 3, 1) := by decide +kernel
theorem dX1_trace_81 : decode cX1_trace 81 = .ok (.invokevirtual 85, 3) := by decide +kernel
theorem dX1_trace_84 : decode cX1_trace 84 = .ok (.iinc 3 1, 3) := by decide +kernel
theorem dX1_trace_87 : decode cX1_trace 87 = .ok (.goto (-14), 3) := by decide +kernel
theorem dX1_trace_90 : decode cX1_trace 90 = .ok (.iinc 1 1, 3) := by decide +kernel
theorem dX1_trace_93 : decode cX1_trace 93 = .ok (.goto (-58), 3) := by decide +kernel
theorem dX1_trace_96 : decode cX1_trace 96 = .ok (.iconst 0, 1) := by decide +kernel
theorem dX1_trace_97 : decode cX1_trace 97 = .ok (.istore_n 1, 1) := by decide +kernel
theorem dX1_trace_98 : decode cX1_trace 98 = .ok (.iload_n 1, 1) := by decide +kernel
theorem dX1_trace_99 : decode cX1_trace 99 = .ok (.aload_n 0, 1) := by decide +kernel
theorem dX1_trace_100 : decode cX1_trace 100 = .ok (.getfield 38, 3) := by decide +kernel
theorem dX1_trace_103 : decode cX1_trace 103 = .ok (.getfield 50, 3) := by decide +kernel
theorem dX1_trace_106 : decode cX1_trace 106 = .ok (.if_icmp .ge 14, 3) := by decide +kernel
theorem dX1_trace_109 : decode cX1_trace 109 = .ok (.aload_n 0, 1) := by decide +kernel
theorem dX1_trace_110 : decode cX1_trace 110 = .ok (.iload_n 1, 1) := by decide +kernel
theorem dX1_trace_111 : decode cX1_trace 111 = .ok (.invokevirtual 89, 3) := by decide +kernel
theorem dX1_trace_114 : decode cX1_trace 114 = .ok (.iinc 1 1, 3) := by decide +kernel
theorem dX1_trace_117 : decode cX1_trace 117 = .ok (.goto (-19), 3) := by decide +kernel
theorem dX1_trace_120 : decode cX1_trace 120 = .ok (.return_, 1) := by decide +kernel
theorem dX1_findLive_0 : decode cX1_findLive 0 = .ok (.iconst 0, 1) := by decide +kernel
theorem dX1_findLive_1 : decode cX1_findLive 1 = .ok (.istore_n 1, 1) := by decide +kernel
theorem dX1_findLive_2 : decode cX1_findLive 2 = .ok (.iload_n 1, 1) := by decide +kernel
theorem dX1_findLive_3 : decode cX1_findLive 3 = .ok (.bipush 10, 2) := by decide +kernel
theorem dX1_findLive_5 : decode cX1_findLive 5 = .ok (.if_icmp .ge 27, 3) := by decide +kernel
theorem dX1_findLive_8 : decode cX1_findLive 8 = .ok (.aload_n 0, 1) := by decide +kernel
theorem dX1_findLive_9 : decode cX1_findLive 9 = .ok (.getfield 9, 3) := by decide +kernel
theorem dX1_findLive_12 : decode cX1_findLive 12 = .ok (.iload_n 1, 1) := by decide +kernel
theorem dX1_findLive_13 : decode cX1_findLive 13 = .ok (.aload_n 0, 1) := by decide +kernel
theorem dX1_findLive_14 : decode cX1_findLive 14 = .ok (.getfield 38, 3) := by decide +kernel
theorem dX1_findLive_17 : decode cX1_findLive 17 = .ok (.getfield 78, 3) := by decide +kernel
theorem dX1_findLive_20 : decode cX1_findLive 20 = .ok (.iload_n 1, 1) := by decide +kernel
theorem dX1_findLive_21 : decode cX1_findLive 21 = .ok (.aaload, 1) := by decide +kernel
theorem dX1_findLive_22 : decode cX1_findLive 22 = .ok (.invokevirtual 93, 3) := by decide +kernel
theorem dX1_findLive_25 : decode cX1_findLive 25 = .ok (.iastore, 1) := by decide +kernel
theorem dX1_findLive_26 : decode cX1_findLive 26 = .ok (.iinc 1 1, 3) := by decide +kernel
theorem dX1_findLive_29 : decode cX1_findLive 29 = .ok (.goto (-27), 3) := by decide +kernel
theorem dX1_findLive_32 : decode cX1_findLive 32 = .ok (.iconst 0, 1) := by decide +kernel
theorem dX1_findLive_33 : decode cX1_findLive 33 = .ok (.istore_n 1, 1) := by decide +kernel
theorem dX1_findLive_34 : decode cX1_findLive 34 = .ok (.iload_n 1, 1) := by decide +kernel
theorem dX1_findLive_35 : decode cX1_findLive 35 = .ok (.bipush 10, 2) := by decide +kernel
theorem dX1_findLive_37 : decode cX1_findLive 37 = .ok (.if_icmp .ge 51, 3) := by decide +kernel
theorem dX1_findLive_40 : decode cX1_findLive 40 = .ok (.iconst 0, 1) := by decide +kernel
theorem dX1_findLive_41 : decode cX1_findLive 41 = .ok (.istore_n 2, 1) := by decide +kernel
theorem dX1_findLive_42 : decode cX1_findLive 42 = .ok (.iload_n 2, 1) := by decide +kernel
theorem dX1_findLive_43 : decode cX1_findLive 43 = .ok (.bipush 10, 2) := by decide +kernel
theorem dX1_findLive_45 : decode cX1_findLive 45 = .ok (.if_icmp .ge 37, 3) := by decide +kernel
theorem dX1_findLive_48 : decode cX1_findLive 48 = .ok (.aload_n 0, 1) := by decide +kernel
theorem dX1_findLive_49 : decode cX1_findLive 49 = .ok (.getfield 9, 3) := by decide +kernel
theorem dX1_findLive_52 : decode cX1_findLive 52 = .ok (.iload_n 2, 1) := by decide +kernel
theorem dX1_findLive_53 : decode cX1_findLive 53 = .ok (.iaload, 1) := by decide +kernel
theorem dX1_findLive_54 : decode cX1_findLive 54 = .ok (.iload_n 1, 1) := by decide +kernel
theorem dX1_findLive_55 : decode cX1_findLive 55 = .ok (.invokestatic 46, 3) := by decide +kernel
theorem dX1_findLive_58 : decode cX1_findLive 58 = .ok (.ifCond .eq 18, 3) := by decide +kernel
theorem dX1_findLive_61 : decode cX1_findLive 61 = .ok (.aload_n 0, 1) := by decide +kernel
theorem dX1_findLive_62 : decode cX1_findLive 62 = .ok (.getfield 9, 3) := by decide +kernel
theorem dX1_findLive_65 : decode cX1_findLive 65 = .ok (.iload_n 2, 1) := by decide +kernel
theorem dX1_findLive_66 : decode cX1_findLive 66 = .ok (.dup2, 1) := by decide +kernel
theorem dX1_findLive_67 : decode cX1_findLive 67 = .ok (.iaload, 1) := by decide +kernel
theorem dX1_findLive_68 : decode cX1_findLive 68 = .ok (.aload_n 0, 1) := by decide +kernel
theorem dX1_findLive_69 : decode cX1_findLive 69 = .ok (.getfield 9, 3) := by decide +kernel
theorem dX1_findLive_72 : decode cX1_findLive 72 = .ok (.iload_n 1, 1) := by decide +kernel
theorem dX1_findLive_73 : decode cX1_findLive 73 = .ok (.iaload, 1) := by decide +kernel
theorem dX1_findLive_74 : decode cX1_findLive 74 = .ok (.ior, 1) := by decide +kernel
theorem dX1_findLive_75 : decode cX1_findLive 75 = .ok (.iastore, 1) := by decide +kernel
theorem dX1_findLive_76 : decode cX1_findLive 76 = .ok (.iinc 2 1, 3) := by decide +kernel
theorem dX1_findLive_79 : decode cX1_findLive 79 = .ok (.goto (-37), 3) := by decide +kernel
theorem dX1_findLive_82 : decode cX1_findLive 82 = .ok (.iinc 1 1, 3) := by decide +kernel
theorem dX1_findLive_85 : decode cX1_findLive 85 = .ok (.goto (-51), 3) := by decide +kernel
theorem dX1_findLive_88 : decode cX1_findLive 88 = .ok (.aload_n 0, 1) := by decide +kernel
theorem dX1_findLive_89 : decode cX1_findLive 89 = .ok (.aload_n 0, 1) := by decide +kernel
theorem dX1_findLive_90 : decode cX1_findLive 90 = .ok (.getfield 38, 3) := by decide +kernel
theorem dX1_findLive_93 : decode cX1_findLive 93 = .ok (.getfield 50, 3) := by decide +kernel
theorem dX1_findLive_96 : decode cX1_findLive 96 = .ok (.ifCond .ne 7, 3) := by decide +kernel
theorem dX1_findLive_99 : decode cX1_findLive 99 = .ok (.iconst 0, 1) := by decide +kernel
theorem dX1_findLive_100 : decode cX1_findLive 100 = .ok (.goto 11, 3) := by decide +kernel
theorem dX1_findLive_103 : decode cX1_findLive 103 = .ok (.iconst 1, 1) := by decide +kernel
theorem dX1_findLive_104 : decode cX1_findLive 104 = .ok (.aload_n 0, 1) := by decide +kernel
theorem dX1_findLive_105 : decode cX1_findLive 105 = .ok (.getfield 9, 3) := by decide +kernel
theorem dX1_findLive_108 : decode cX1_findLive 108 = .ok (.iconst 0, 1) := by decide +kernel
theorem dX1_findLive_109 : decode cX1_findLive 109 = .ok (.iaload, 1) := by decide +kernel
theorem dX1_findLive_110 : decode cX1_findLive 110 = .ok (.ior, 1) := by decide +kernel
theorem dX1_findLive_111 : decode cX1_findLive 111 = .ok (.putfield 42, 3) := by decide +kernel
theorem dX1_findLive_114 : decode cX1_findLive 114 = .ok (.return_, 1) := by decide +kernel
theorem dX1_note_0 : decode cX1_note 0 = .ok (.aload_n 0, 1) := by decide +kernel
theorem dX1_note_1 : decode cX1_note 1 = .ok (.getfield 38, 3) := by decide +kernel
theorem dX1_note_4 : decode cX1_note 4 = .ok (.getfield 78, 3) := by decide +kernel
theorem dX1_note_7 : decode cX1_note 7 = .ok (.iload_n 1, 1) := by decide +kernel
theorem dX1_note_8 : decode cX1_note 8 = .ok (.aaload, 1) := by decide +kernel
theorem dX1_note_9 : decode cX1_note 9 = .ok (.astore_n 3, 1) := by decide +kernel
theorem dX1_note_10 : decode cX1_note 10 = .ok (.aload_n 3, 1) := by decide +kernel
theorem dX1_note_11 : decode cX1_note 11 = .ok (.getfield 97, 3) := by decide +kernel
theorem dX1_note_14 : decode cX1_note 14 = .ok (.iload_n 2, 1) := by decide +kernel
theorem dX1_note_15 : decode cX1_note 15 = .ok (.iaload, 1) := by decide +kernel
theorem dX1_note_16 : decode cX1_note 16 = .ok (.istore 4, 2) := by decide +kernel
theorem dX1_note_18 : decode cX1_note 18 = .ok (.iload_n 1, 1) := by decide +kernel
theorem dX1_note_19 : decode cX1_note 19 = .ok (.aload_n 3, 1) := by decide +kernel
theorem dX1_note_20 : decode cX1_note 20 = .ok (.getfield 100, 3) := by decide +kernel
theorem dX1_note_23 : decode cX1_note 23 = .ok (.iload_n 2, 1) := by decide +kernel
theorem dX1_note_24 : decode cX1_note 24 = .ok (.iaload, 1) := by decide +kernel
theorem dX1_note_25 : decode cX1_note 25 = .ok (.invokestatic 103, 3) := by decide +kernel
theorem dX1_note_28 : decode cX1_note 28 = .ok (.istore 5, 2) := by decide +kernel
theorem dX1_note_30 : decode cX1_note 30 = .ok (.bipush 100, 2) := by decide +kernel
theorem dX1_note_32 : decode cX1_note 32 = .ok (.iload_n 1, 1) := by decide +kernel
theorem dX1_note_33 : decode cX1_note 33 = .ok (.imul, 1) := by decide +kernel
theorem dX1_note_34 : decode cX1_note 34 = .ok (.iload_n 2, 1) := by decide +kernel
theorem dX1_note_35 : decode cX1_note 35 = .ok (.iadd, 1) := by decide +kernel
theorem dX1_note_36 : decode cX1_note 36 = .ok (.istore 6, 2) := by decide +kernel
theorem dX1_note_38 : decode cX1_note 38 = .ok (.aload_n 3, 1) := by decide +kernel
theorem dX1_note_39 : decode cX1_note 39 = .ok (.getfield 107, 3) := by decide +kernel
theorem dX1_note_42 : decode cX1_note 42 = .ok (.iload_n 2, 1) := by decide +kernel
theorem dX1_note_43 : decode cX1_note 43 = .ok (.iaload, 1) := by decide +kernel
theorem dX1_note_44 : decode cX1_note 44 = .ok (.tableswitch 151 0 4 #[36, 52, 61, 101, 134], 36) := by decide +kernel
theorem dX1_note_80 : decode cX1_note 80 = .ok (.aload_n 0, 1) := by decide +kernel
theorem dX1_note_81 : decode cX1_note 81 = .ok (.getfield 15, 3) := by decide +kernel
theorem dX1_note_84 : decode cX1_note 84 = .ok (.iload_n 1, 1) := by decide +kernel
theorem dX1_note_85 : decode cX1_note 85 = .ok (.dup2, 1) := by decide +kernel
theorem dX1_note_86 : decode cX1_note 86 = .ok (.iaload, 1) := by decide +kernel
theorem dX1_note_87 : decode cX1_note 87 = .ok (.iconst 1, 1) := by decide +kernel
theorem dX1_note_88 : decode cX1_note 88 = .ok (.iload 4, 2) := by decide +kernel
theorem dX1_note_90 : decode cX1_note 90 = .ok (.ishl, 1) := by decide +kernel
theorem dX1_note_91 : decode cX1_note 91 = .ok (.ior, 1) := by decide +kernel
theorem dX1_note_92 : decode cX1_note 92 = .ok (.iastore, 1) := by decide +kernel
theorem dX1_note_93 : decode cX1_note 93 = .ok (.goto 116, 3) := by decide +kernel
theorem dX1_note_96 : decode cX1_note 96 = .ok (.aload_n 0, 1) := by decide +kernel
theorem dX1_note_97 : decode cX1_note 97 = .ok (.iload_n 1, 1) := by decide +kernel
theorem dX1_note_98 : decode cX1_note 98 = .ok (.iload_n 2, 1) := by decide +kernel
theorem dX1_note_99 : decode cX1_note 99 = .ok (.invokevirtual 110, 3) := by decide +kernel
theorem dX1_note_102 : decode cX1_note 102 = .ok (.goto 107, 3) := by decide +kernel
theorem dX1_note_105 : decode cX1_note 105 = .ok (.aload_n 0, 1) := by decide +kernel
theorem dX1_note_106 : decode cX1_note 106 = .ok (.iload 5, 2) := by decide +kernel
theorem dX1_note_108 : decode cX1_note 108 = .ok (.iload 4, 2) := by decide +kernel
theorem dX1_note_110 : decode cX1_note 110 = .ok (.iconst 0, 1) := by decide +kernel
theorem dX1_note_111 : decode cX1_note 111 = .ok (.invokestatic 103, 3) := by decide +kernel
theorem dX1_note_114 : decode cX1_note 114 = .ok (.iload 6, 2) := by decide +kernel
theorem dX1_note_116 : decode cX1_note 116 = .ok (.invokevirtual 113, 3) := by decide +kernel
theorem dX1_note_119 : decode cX1_note 119 = .ok (.aload_n 0, 1) := by decide +kernel
theorem dX1_note_120 : decode cX1_note 120 = .ok (.iload 4, 2) := by decide +kernel
theorem dX1_note_122 : decode cX1_note 122 = .ok (.bipush 8, 2) := by decide +kernel
theorem dX1_note_124 : decode cX1_note 124 = .ok (.invokestatic 103, 3) := by decide +kernel
theorem dX1_note_127 : decode cX1_note 127 = .ok (.iload_n 1, 1) := by decide +kernel
theorem dX1_note_128 : decode cX1_note 128 = .ok (.aload_n 3, 1) := by decide +kernel
theorem dX1_note_129 : decode cX1_note 129 = .ok (.getfield 117, 3) := by decide +kernel
theorem dX1_note_132 : decode cX1_note 132 = .ok (.iload_n 2, 1) := by decide +kernel
theorem dX1_note_133 : decode cX1_note 133 = .ok (.iaload, 1) := by decide +kernel
theorem dX1_note_134 : decode cX1_note 134 = .ok (.invokestatic 103, 3) := by decide +kernel
theorem dX1_note_137 : decode cX1_note 137 = .ok (.iload 6, 2) := by decide +kernel
theorem dX1_note_139 : decode cX1_note 139 = .ok (.invokevirtual 113, 3) := by decide +kernel
theorem dX1_note_142 : decode cX1_note 142 = .ok (.goto 67, 3) := by decide +kernel
theorem dX1_note_145 : decode cX1_note 145 = .ok (.aload_n 0, 1) := by decide +kernel
theorem dX1_note_146 : decode cX1_note 146 = .ok (.getfield 18, 3) := by decide +kernel
theorem dX1_note_149 : decode cX1_note 149 = .ok (.iload_n 1, 1) := by decide +kernel
theorem dX1_note_150 : decode cX1_note 150 = .ok (.dup2, 1) := by decide +kernel
theorem dX1_note_151 : decode cX1_note 151 = .ok (.iaload, 1) := by decide +kernel
theorem dX1_note_152 : decode cX1_note 152 = .ok (.iconst 1, 1) := by decide +kernel
theorem dX1_note_153 : decode cX1_note 153 = .ok (.iload 4, 2) := by decide +kernel
theorem dX1_note_155 : decode cX1_note 155 = .ok (.ishl, 1) := by decide +kernel
theorem dX1_note_156 : decode cX1_note 156 = .ok (.ior, 1) := by decide +kernel
theorem dX1_note_157 : decode cX1_note 157 = .ok (.iastore, 1) := by decide +kernel
theorem dX1_note_158 : decode cX1_note 158 = .ok (.aload_n 0, 1) := by decide +kernel
theorem dX1_note_159 : decode cX1_note 159 = .ok (.iload 5, 2) := by decide +kernel
theorem dX1_note_161 : decode cX1_note 161 = .ok (.iload_n 1, 1) := by decide +kernel
theorem dX1_note_162 : decode cX1_note 162 = .ok (.bipush 9, 2) := by decide +kernel
theorem dX1_note_164 : decode cX1_note 164 = .ok (.iload 4, 2) := by decide +kernel
theorem dX1_note_166 : decode cX1_note 166 = .ok (.iadd, 1) := by decide +kernel
theorem dX1_note_167 : decode cX1_note 167 = .ok (.invokestatic 103, 3) := by decide +kernel
theorem dX1_note_170 : decode cX1_note 170 = .ok (.iload 6, 2) := by decide +kernel
theorem dX1_note_172 : decode cX1_note 172 = .ok (.invokevirtual 113, 3) := by decide +kernel
theorem dX1_note_175 : decode cX1_note 175 = .ok (.goto 34, 3) := by decide +kernel
theorem dX1_note_178 : decode cX1_note 178 = .ok (.aload_n 0, 1) := by decide +kernel
theorem dX1_note_179 : decode cX1_note 179 = .ok (.getfield 21, 3) := by decide +kernel
theorem dX1_note_182 : decode cX1_note 182 = .ok (.iload 5, 2) := by decide +kernel
theorem dX1_note_184 : decode cX1_note 184 = .ok (.dup2, 1) := by decide +kernel
theorem dX1_note_185 : decode cX1_note 185 = .ok (.iaload, 1) := by decide +kernel
theorem dX1_note_186 : decode cX1_note 186 = .ok (.iconst 1, 1) := by decide +kernel
theorem dX1_note_187 : decode cX1_note 187 = .ok (.iload 4, 2) := by decide +kernel
theorem dX1_note_189 : decode cX1_note 189 = .ok (.ishl, 1) := by decide +kernel
theorem dX1_note_190 : decode cX1_note 190 = .ok (.ior, 1) := by decide +kernel
theorem dX1_note_191 : decode cX1_note 191 = .ok (.iastore, 1) := by decide +kernel
theorem dX1_note_192 : decode cX1_note 192 = .ok (.goto 17, 3) := by decide +kernel
theorem dX1_note_195 : decode cX1_note 195 = .ok (.aload_n 0, 1) := by decide +kernel
theorem dX1_note_196 : decode cX1_note 196 = .ok (.iload 5, 2) := by decide +kernel
theorem dX1_note_198 : decode cX1_note 198 = .ok (.iload_n 1, 1) := by decide +kernel
theorem dX1_note_199 : decode cX1_note 199 = .ok (.bipush 8, 2) := by decide +kernel
theorem dX1_note_201 : decode cX1_note 201 = .ok (.invokestatic 103, 3) := by decide +kernel
theorem dX1_note_204 : decode cX1_note 204 = .ok (.iload 6, 2) := by decide +kernel
theorem dX1_note_206 : decode cX1_note 206 = .ok (.invokevirtual 113, 3) := by decide +kernel
theorem dX1_note_209 : decode cX1_note 209 = .ok (.return_, 1) := by decide +kernel
theorem dX1_noteLet_0 : decode cX1_noteLet 0 = .ok (.aload_n 0, 1) := by decide +kernel
theorem dX1_noteLet_1 : decode cX1_noteLet 1 = .ok (.getfield 38, 3) := by decide +kernel
theorem dX1_noteLet_4 : decode cX1_noteLet 4 = .ok (.getfield 78, 3) := by decide +kernel
theorem dX1_noteLet_7 : decode cX1_noteLet 7 = .ok (.iload_n 1, 1) := by decide +kernel
theorem dX1_noteLet_8 : decode cX1_noteLet 8 = .ok (.aaload, 1) := by decide +kernel
theorem dX1_noteLet_9 : decode cX1_noteLet 9 = .ok (.astore_n 3, 1) := by decide +kernel
theorem dX1_noteLet_10 : decode cX1_noteLet 10 = .ok (.iconst 0, 1) := by decide +kernel
theorem dX1_noteLet_11 : decode cX1_noteLet 11 = .ok (.istore 4, 2) := by decide +kernel
theorem dX1_noteLet_13 : decode cX1_noteLet 13 = .ok (.iload 4, 2) := by decide +kernel
theorem dX1_noteLet_15 : decode cX1_noteLet 15 = .ok (.bipush 8, 2) := by decide +kernel
theorem dX1_noteLet_17 : decode cX1_noteLet 17 = .ok (.if_icmp .ge 49, 3) := by decide +kernel
theorem dX1_noteLet_20 : decode cX1_noteLet 20 = .ok (.aload_n 3, 1) := by decide +kernel
theorem dX1_noteLet_21 : decode cX1_noteLet 21 = .ok (.getfield 120, 3) := by decide +kernel
theorem dX1_noteLet_24 : decode cX1_noteLet 24 = .ok (.iload_n 2, 1) := by decide +kernel
theorem dX1_noteLet_25 : decode cX1_noteLet 25 = .ok (.iaload, 1) := by decide +kernel
theorem dX1_noteLet_26 : decode cX1_noteLet 26 = .ok (.iload 4, 2) := by decide +kernel
theorem dX1_noteLet_28 : decode cX1_noteLet 28 = .ok (.invokestatic 46, 3) := by decide +kernel
theorem dX1_noteLet_31 : decode cX1_noteLet 31 = .ok (.ifCond .eq 29, 3) := by decide +kernel
theorem dX1_noteLet_34 : decode cX1_noteLet 34 = .ok (.aload_n 0, 1) := by decide +kernel
theorem dX1_noteLet_35 : decode cX1_noteLet 35 = .ok (.iload_n 1, 1) := by decide +kernel
theorem dX1_noteLet_36 : decode cX1_noteLet 36 = .ok (.iload 4, 2) := by decide +kernel
theorem dX1_noteLet_38 : decode cX1_noteLet 38 = .ok (.invokestatic 103, 3) := by decide +kernel
theorem dX1_noteLet_41 : decode cX1_noteLet 41 = .ok (.iload_n 1, 1) := by decide +kernel
theorem dX1_noteLet_42 : decode cX1_noteLet 42 = .ok (.aload_n 3, 1) := by decide +kernel
theorem dX1_noteLet_43 : decode cX1_noteLet 43 = .ok (.getfield 100, 3) := by decide +kernel
theorem dX1_noteLet_46 : decode cX1_noteLet 46 = .ok (.iload_n 2, 1) := by decide +kernel
theorem dX1_noteLet_47 : decode cX1_noteLet 47 = .ok (.iaload, 1) := by decide +kernel
theorem dX1_noteLet_48 : decode cX1_noteLet 48 = .ok (.invokestatic 103, 3) := by decide +kernel
theorem dX1_noteLet_51 : decode cX1_noteLet 51 = .ok (.bipush 100, 2) := by decide +kernel
theorem dX1_noteLet_53 : decode cX1_noteLet 53 = .ok (.iload_n 1, 1) := by decide +kernel
theorem dX1_noteLet_54 : decode cX1_noteLet 54 = .ok (.imul, 1) := by decide +kernel
theorem dX1_noteLet_55 : decode cX1_noteLet 55 = .ok (.iload_n 2, 1) := by decide +kernel
theorem dX1_noteLet_56 : decode cX1_noteLet 56 = .ok (.iadd, 1) := by decide +kernel
theorem dX1_noteLet_57 : decode cX1_noteLet 57 = .ok (.invokevirtual 113, 3) := by decide +kernel
theorem dX1_noteLet_60 : decode cX1_noteLet 60 = .ok (.iinc 4 1, 3) := by decide +kernel
theorem dX1_noteLet_63 : decode cX1_noteLet 63 = .ok (.goto (-50), 3) := by decide +kernel
theorem dX1_noteLet_66 : decode cX1_noteLet 66 = .ok (.return_, 1) := by decide +kernel
theorem dX1_link_0 : decode cX1_link 0 = .ok (.aload_n 0, 1) := by decide +kernel
theorem dX1_link_1 : decode cX1_link 1 = .ok (.getfield 69, 3) := by decide +kernel
theorem dX1_link_4 : decode cX1_link 4 = .ok (.sipush 480, 3) := by decide +kernel
theorem dX1_link_7 : decode cX1_link 7 = .ok (.if_icmp .ge 43, 3) := by decide +kernel
theorem dX1_link_10 : decode cX1_link 10 = .ok (.aload_n 0, 1) := by decide +kernel
theorem dX1_link_11 : decode cX1_link 11 = .ok (.getfield 24, 3) := by decide +kernel
theorem dX1_link_14 : decode cX1_link 14 = .ok (.aload_n 0, 1) := by decide +kernel
theorem dX1_link_15 : decode cX1_link 15 = .ok (.getfield 69, 3) := by decide +kernel
theorem dX1_link_18 : decode cX1_link 18 = .ok (.iload_n 1, 1) := by decide +kernel
theorem dX1_link_19 : decode cX1_link 19 = .ok (.iastore, 1) := by decide +kernel
theorem dX1_link_20 : decode cX1_link 20 = .ok (.aload_n 0, 1) := by decide +kernel
theorem dX1_link_21 : decode cX1_link 21 = .ok (.getfield 27, 3) := by decide +kernel
theorem dX1_link_24 : decode cX1_link 24 = .ok (.aload_n 0, 1) := by decide +kernel
theorem dX1_link_25 : decode cX1_link 25 = .ok (.getfield 69, 3) := by decide +kernel
theorem dX1_link_28 : decode cX1_link 28 = .ok (.iload_n 2, 1) := by decide +kernel
theorem dX1_link_29 : decode cX1_link 29 = .ok (.iastore, 1) := by decide +kernel
theorem dX1_link_30 : decode cX1_link 30 = .ok (.aload_n 0, 1) := by decide +kernel
theorem dX1_link_31 : decode cX1_link 31 = .ok (.getfield 30, 3) := by decide +kernel
theorem dX1_link_34 : decode cX1_link 34 = .ok (.aload_n 0, 1) := by decide +kernel
theorem dX1_link_35 : decode cX1_link 35 = .ok (.getfield 69, 3) := by decide +kernel
theorem dX1_link_38 : decode cX1_link 38 = .ok (.iload_n 3, 1) := by decide +kernel
theorem dX1_link_39 : decode cX1_link 39 = .ok (.iastore, 1) := by decide +kernel
theorem dX1_link_40 : decode cX1_link 40 = .ok (.aload_n 0, 1) := by decide +kernel
theorem dX1_link_41 : decode cX1_link 41 = .ok (.dup, 1) := by decide +kernel
theorem dX1_link_42 : decode cX1_link 42 = .ok (.getfield 69, 3) := by decide +kernel
theorem dX1_link_45 : decode cX1_link 45 = .ok (.iconst 1, 1) := by decide +kernel
theorem dX1_link_46 : decode cX1_link 46 = .ok (.iadd, 1) := by decide +kernel
theorem dX1_link_47 : decode cX1_link 47 = .ok (.putfield 69, 3) := by decide +kernel
theorem dX1_link_50 : decode cX1_link 50 = .ok (.return_, 1) := by decide +kernel
theorem dX1_spread_0 : decode cX1_spread 0 = .ok (.aload_n 0, 1) := by decide +kernel
theorem dX1_spread_1 : decode cX1_spread 1 = .ok (.getfield 35, 3) := by decide +kernel
theorem dX1_spread_4 : decode cX1_spread 4 = .ok (.iload_n 1, 1) := by decide +kernel
theorem dX1_spread_5 : decode cX1_spread 5 = .ok (.aaload, 1) := by decide +kernel
theorem dX1_spread_6 : decode cX1_spread 6 = .ok (.astore_n 2, 1) := by decide +kernel
theorem dX1_spread_7 : decode cX1_spread 7 = .ok (.aload_n 2, 1) := by decide +kernel
theorem dX1_spread_8 : decode cX1_spread 8 = .ok (.iconst 0, 1) := by decide +kernel
theorem dX1_spread_9 : decode cX1_spread 9 = .ok (.invokestatic 72, 3) := by decide +kernel
theorem dX1_spread_12 : decode cX1_spread 12 = .ok (.aload_n 0, 1) := by decide +kernel
theorem dX1_spread_13 : decode cX1_spread 13 = .ok (.iload_n 1, 1) := by decide +kernel
theorem dX1_spread_14 : decode cX1_spread 14 = .ok (.aload_n 2, 1) := by decide +kernel
theorem dX1_spread_15 : decode cX1_spread 15 = .ok (.invokevirtual 123, 3) := by decide +kernel
theorem dX1_spread_18 : decode cX1_spread 18 = .ok (.istore_n 3, 1) := by decide +kernel
theorem dX1_spread_19 : decode cX1_spread 19 = .ok (.iconst 0, 1) := by decide +kernel
theorem dX1_spread_20 : decode cX1_spread 20 = .ok (.istore 4, 2) := by decide +kernel
theorem dX1_spread_22 : decode cX1_spread 22 = .ok (.iload 4, 2) := by decide +kernel
theorem dX1_spread_24 : decode cX1_spread 24 = .ok (.sipush 250, 3) := by decide +kernel
theorem dX1_spread_27 : decode cX1_spread 27 = .ok (.if_icmp .ge 92, 3) := by decide +kernel
theorem dX1_spread_30 : decode cX1_spread 30 = .ok (.iload_n 3, 1) := by decide +kernel
theorem dX1_spread_31 : decode cX1_spread 31 = .ok (.ifCond .eq 88, 3) := by decide +kernel
theorem dX1_spread_34 : decode cX1_spread 34 = .ok (.iconst 0, 1) := by decide +kernel
theorem dX1_spread_35 : decode cX1_spread 35 = .ok (.istore_n 3, 1) := by decide +kernel
theorem dX1_spread_36 : decode cX1_spread 36 = .ok (.iconst 0, 1) := by decide +kernel
theorem dX1_spread_37 : decode cX1_spread 37 = .ok (.istore 5, 2) := by decide +kernel
theorem dX1_spread_39 : decode cX1_spread 39 = .ok (.iload 5, 2) := by decide +kernel
theorem dX1_spread_41 : decode cX1_spread 41 = .ok (.aload_n 0, 1) := by decide +kernel
theorem dX1_spread_42 : decode cX1_spread 42 = .ok (.getfield 69, 3) := by decide +kernel
theorem dX1_spread_45 : decode cX1_spread 45 = .ok (.if_icmp .ge 68, 3) := by decide +kernel
theorem dX1_spread_48 : decode cX1_spread 48 = .ok (.aload_n 0, 1) := by decide +kernel
theorem dX1_spread_49 : decode cX1_spread 49 = .ok (.getfield 27, 3) := by decide +kernel
theorem dX1_spread_52 : decode cX1_spread 52 = .ok (.iload 5, 2) := by decide +kernel
theorem dX1_spread_54 : decode cX1_spread 54 = .ok (.iaload, 1) := by decide +kernel
theorem dX1_spread_55 : decode cX1_spread 55 = .ok (.istore 6, 2) := by decide +kernel
theorem dX1_spread_57 : decode cX1_spread 57 = .ok (.aload_n 2, 1) := by decide +kernel
theorem dX1_spread_58 : decode cX1_spread 58 = .ok (.aload_n 0, 1) := by decide +kernel
theorem dX1_spread_59 : decode cX1_spread 59 = .ok (.getfield 24, 3) := by decide +kernel
theorem dX1_spread_62 : decode cX1_spread 62 = .ok (.iload 5, 2) := by decide +kernel
theorem dX1_spread_64 : decode cX1_spread 64 = .ok (.iaload, 1) := by decide +kernel
theorem dX1_spread_65 : decode cX1_spread 65 = .ok (.iaload, 1) := by decide +kernel
theorem dX1_spread_66 : decode cX1_spread 66 = .ok (.aload_n 0, 1) := by decide +kernel
theorem dX1_spread_67 : decode cX1_spread 67 = .ok (.getfield 21, 3) := by decide +kernel
theorem dX1_spread_70 : decode cX1_spread 70 = .ok (.iload 6, 2) := by decide +kernel
theorem dX1_spread_72 : decode cX1_spread 72 = .ok (.iaload, 1) := by decide +kernel
theorem dX1_spread_73 : decode cX1_spread 73 = .ok (.iconst (-1), 1) := by decide +kernel
theorem dX1_spread_74 : decode cX1_spread 74 = .ok (.ixor, 1) := by decide +kernel
theorem dX1_spread_75 : decode cX1_spread 75 = .ok (.iand, 1) := by decide +kernel
theorem dX1_spread_76 : decode cX1_spread 76 = .ok (.aload_n 2, 1) := by decide +kernel
theorem dX1_spread_77 : decode cX1_spread 77 = .ok (.iload 6, 2) := by decide +kernel
theorem dX1_spread_79 : decode cX1_spread 79 = .ok (.iaload, 1) := by decide +kernel
theorem dX1_spread_80 : decode cX1_spread 80 = .ok (.iconst (-1), 1) := by decide +kernel
theorem dX1_spread_81 : decode cX1_spread 81 = .ok (.ixor, 1) := by decide +kernel
theorem dX1_spread_82 : decode cX1_spread 82 = .ok (.iand, 1) := by decide +kernel
theorem dX1_spread_83 : decode cX1_spread 83 = .ok (.istore 7, 2) := by decide +kernel
theorem dX1_spread_85 : decode cX1_spread 85 = .ok (.aload_n 2, 1) := by decide +kernel
theorem dX1_spread_86 : decode cX1_spread 86 = .ok (.iload 6, 2) := by decide +kernel
theorem dX1_spread_88 : decode cX1_spread 88 = .ok (.dup2, 1) := by decide +kernel
theorem dX1_spread_89 : decode cX1_spread 89 = .ok (.iaload, 1) := by decide +kernel
theorem dX1_spread_90 : decode cX1_spread 90 = .ok (.iload 7, 2) := by decide +kernel
theorem dX1_spread_92 : decode cX1_spread 92 = .ok (.ior, 1) := by decide +kernel
theorem dX1_spread_93 : decode cX1_spread 93 = .ok (.iastore, 1) := by decide +kernel
theorem dX1_spread_94 : decode cX1_spread 94 = .ok (.iload_n 3, 1) := by decide +kernel
theorem dX1_spread_95 : decode cX1_spread 95 = .ok (.iload 7, 2) := by decide +kernel
theorem dX1_spread_97 : decode cX1_spread 97 = .ok (.ifCond .eq 7, 3) := by decide +kernel
theorem dX1_spread_100 : decode cX1_spread 100 = .ok (.iconst 1, 1) := by decide +kernel
theorem dX1_spread_101 : decode cX1_spread 101 = .ok (.goto 4, 3) := by decide +kernel
theorem dX1_spread_104 : decode cX1_spread 104 = .ok (.iconst 0, 1) := by decide +kernel
theorem dX1_spread_105 : decode cX1_spread 105 = .ok (.ior, 1) := by decide +kernel
theorem dX1_spread_106 : decode cX1_spread 106 = .ok (.istore_n 3, 1) := by decide +kernel
theorem dX1_spread_107 : decode cX1_spread 107 = .ok (.iinc 5 1, 3) := by decide +kernel
theorem dX1_spread_110 : decode cX1_spread 110 = .ok (.goto (-71), 3) := by decide +kernel
theorem dX1_spread_113 : decode cX1_spread 113 = .ok (.iinc 4 1, 3) := by decide +kernel
theorem dX1_spread_116 : decode cX1_spread 116 = .ok (.goto (-94), 3) := by decide +kernel
theorem dX1_spread_119 : decode cX1_spread 119 = .ok (.return_, 1) := by decide +kernel
theorem dX1_seed_0 : decode cX1_seed 0 = .ok (.aload_n 0, 1) := by decide +kernel
theorem dX1_seed_1 : decode cX1_seed 1 = .ok (.getfield 38, 3) := by decide +kernel
theorem dX1_seed_4 : decode cX1_seed 4 = .ok (.getfield 78, 3) := by decide +kernel
theorem dX1_seed_7 : decode cX1_seed 7 = .ok (.iload_n 1, 1) := by decide +kernel
theorem dX1_seed_8 : decode cX1_seed 8 = .ok (.aaload, 1) := by decide +kernel
theorem dX1_seed_9 : decode cX1_seed 9 = .ok (.astore_n 3, 1) := by decide +kernel
theorem dX1_seed_10 : decode cX1_seed 10 = .ok (.iconst 0, 1) := by decide +kernel
theorem dX1_seed_11 : decode cX1_seed 11 = .ok (.istore 4, 2) := by decide +kernel
theorem dX1_seed_13 : decode cX1_seed 13 = .ok (.iload 4, 2) := by decide +kernel
theorem dX1_seed_15 : decode cX1_seed 15 = .ok (.aload_n 3, 1) := by decide +kernel
theorem dX1_seed_16 : decode cX1_seed 16 = .ok (.getfield 82, 3) := by decide +kernel
theorem dX1_seed_19 : decode cX1_seed 19 = .ok (.if_icmp .ge 53, 3) := by decide +kernel
theorem dX1_seed_22 : decode cX1_seed 22 = .ok (.aload_n 0, 1) := by decide +kernel
theorem dX1_seed_23 : decode cX1_seed 23 = .ok (.getfield 15, 3) := by decide +kernel
theorem dX1_seed_26 : decode cX1_seed 26 = .ok (.iload_n 1, 1) := by decide +kernel
theorem dX1_seed_27 : decode cX1_seed 27 = .ok (.iaload, 1) := by decide +kernel
theorem dX1_seed_28 : decode cX1_seed 28 = .ok (.ifCond .eq 44, 3) := by decide +kernel
theorem dX1_seed_31 : decode cX1_seed 31 = .ok (.aload_n 3, 1) := by decide +kernel
theorem dX1_seed_32 : decode cX1_seed 32 = .ok (.getfield 107, 3) := by decide +kernel
theorem dX1_seed_35 : decode cX1_seed 35 = .ok (.iload 4, 2) := by decide +kernel
theorem dX1_seed_37 : decode cX1_seed 37 = .ok (.iaload, 1) := by decide +kernel
theorem dX1_seed_38 : decode cX1_seed 38 = .ok (.ifCond .ne 28, 3) := by decide +kernel
theorem dX1_seed_41 : decode cX1_seed 41 = .ok (.aload_n 2, 1) := by decide +kernel
theorem dX1_seed_42 : decode cX1_seed 42 = .ok (.iload_n 1, 1) := by decide +kernel
theorem dX1_seed_43 : decode cX1_seed 43 = .ok (.aload_n 3, 1) := by decide +kernel
theorem dX1_seed_44 : decode cX1_seed 44 = .ok (.getfield 100, 3) := by decide +kernel
theorem dX1_seed_47 : decode cX1_seed 47 = .ok (.iload 4, 2) := by decide +kernel
theorem dX1_seed_49 : decode cX1_seed 49 = .ok (.iaload, 1) := by decide +kernel
theorem dX1_seed_50 : decode cX1_seed 50 = .ok (.invokestatic 103, 3) := by decide +kernel
theorem dX1_seed_53 : decode cX1_seed 53 = .ok (.dup2, 1) := by decide +kernel
theorem dX1_seed_54 : decode cX1_seed 54 = .ok (.iaload, 1) := by decide +kernel
theorem dX1_seed_55 : decode cX1_seed 55 = .ok (.iconst 1, 1) := by decide +kernel
theorem dX1_seed_56 : decode cX1_seed 56 = .ok (.aload_n 3, 1) := by decide +kernel
theorem dX1_seed_57 : decode cX1_seed 57 = .ok (.getfield 97, 3) := by decide +kernel
theorem dX1_seed_60 : decode cX1_seed 60 = .ok (.iload 4, 2) := by decide +kernel
theorem dX1_seed_62 : decode cX1_seed 62 = .ok (.iaload, 1) := by decide +kernel
theorem dX1_seed_63 : decode cX1_seed 63 = .ok (.ishl, 1) := by decide +kernel
theorem dX1_seed_64 : decode cX1_seed 64 = .ok (.ior, 1) := by decide +kernel
theorem dX1_seed_65 : decode cX1_seed 65 = .ok (.iastore, 1) := by decide +kernel
theorem dX1_seed_66 : decode cX1_seed 66 = .ok (.iinc 4 1, 3) := by decide +kernel
theorem dX1_seed_69 : decode cX1_seed 69 = .ok (.goto (-56), 3) := by decide +kernel
theorem dX1_seed_72 : decode cX1_seed 72 = .ok (.aload_n 0, 1) := by decide +kernel
theorem dX1_seed_73 : decode cX1_seed 73 = .ok (.getfield 15, 3) := by decide +kernel
theorem dX1_seed_76 : decode cX1_seed 76 = .ok (.iload_n 1, 1) := by decide +kernel
theorem dX1_seed_77 : decode cX1_seed 77 = .ok (.iaload, 1) := by decide +kernel
theorem dX1_seed_78 : decode cX1_seed 78 = .ok (.ifCond .eq 7, 3) := by decide +kernel
theorem dX1_seed_81 : decode cX1_seed 81 = .ok (.iconst 1, 1) := by decide +kernel
theorem dX1_seed_82 : decode cX1_seed 82 = .ok (.goto 4, 3) := by decide +kernel
theorem dX1_seed_85 : decode cX1_seed 85 = .ok (.iconst 0, 1) := by decide +kernel
theorem dX1_seed_86 : decode cX1_seed 86 = .ok (.ireturn, 1) := by decide +kernel
theorem dX2_init_0 : decode cX2_init 0 = .ok (.aload_n 0, 1) := by decide +kernel
theorem dX2_init_1 : decode cX2_init 1 = .ok (.invokespecial 3, 3) := by decide +kernel
theorem dX2_init_4 : decode cX2_init 4 = .ok (.aload_n 0, 1) := by decide +kernel
theorem dX2_init_5 : decode cX2_init 5 = .ok (.bipush 10, 2) := by decide +kernel
theorem dX2_init_7 : decode cX2_init 7 = .ok (.newarray .int, 2) := by decide +kernel
theorem dX2_init_9 : decode cX2_init 9 = .ok (.putfield 9, 3) := by decide +kernel
theorem dX2_init_12 : decode cX2_init 12 = .ok (.aload_n 0, 1) := by decide +kernel
theorem dX2_init_13 : decode cX2_init 13 = .ok (.bipush 10, 2) := by decide +kernel
theorem dX2_init_15 : decode cX2_init 15 = .ok (.anewarray 15, 3) := by decide +kernel
theorem dX2_init_18 : decode cX2_init 18 = .ok (.putfield 17, 3) := by decide +kernel
theorem dX2_init_21 : decode cX2_init 21 = .ok (.iconst 0, 1) := by decide +kernel
theorem dX2_init_22 : decode cX2_init 22 = .ok (.istore_n 1, 1) := by decide +kernel
theorem dX2_init_23 : decode cX2_init 23 = .ok (.iload_n 1, 1) := by decide +kernel
theorem dX2_init_24 : decode cX2_init 24 = .ok (.bipush 10, 2) := by decide +kernel
theorem dX2_init_26 : decode cX2_init 26 = .ok (.if_icmp .ge 22, 3) := by decide +kernel
theorem dX2_init_29 : decode cX2_init 29 = .ok (.aload_n 0, 1) := by decide +kernel
theorem dX2_init_30 : decode cX2_init 30 = .ok (.getfield 17, 3) := by decide +kernel
theorem dX2_init_33 : decode cX2_init 33 = .ok (.iload_n 1, 1) := by decide +kernel
theorem dX2_init_34 : decode cX2_init 34 = .ok (.new 15, 3) := by decide +kernel
theorem dX2_init_37 : decode cX2_init 37 = .ok (.dup, 1) := by decide +kernel
theorem dX2_init_38 : decode cX2_init 38 = .ok (.invokespecial 21, 3) := by decide +kernel
theorem dX2_init_41 : decode cX2_init 41 = .ok (.aastore, 1) := by decide +kernel
theorem dX2_init_42 : decode cX2_init 42 = .ok (.iinc 1 1, 3) := by decide +kernel
theorem dX2_init_45 : decode cX2_init 45 = .ok (.goto (-22), 3) := by decide +kernel
theorem dX2_init_48 : decode cX2_init 48 = .ok (.return_, 1) := by decide +kernel
theorem dX2_has_0 : decode cX2_has 0 = .ok (.iload_n 1, 1) := by decide +kernel
theorem dX2_has_1 : decode cX2_has 1 = .ok (.ifCond .lt 15, 3) := by decide +kernel
theorem dX2_has_4 : decode cX2_has 4 = .ok (.iload_n 1, 1) := by decide +kernel
theorem dX2_has_5 : decode cX2_has 5 = .ok (.aload_n 0, 1) := by decide +kernel
theorem dX2_has_6 : decode cX2_has 6 = .ok (.getfield 22, 3) := by decide +kernel
theorem dX2_has_9 : decode cX2_has 9 = .ok (.if_icmp .ge 7, 3) := by decide +kernel
theorem dX2_has_12 : decode cX2_has 12 = .ok (.iconst 1, 1) := by decide +kernel
theorem dX2_has_13 : decode cX2_has 13 = .ok (.goto 4, 3) := by decide +kernel
theorem dX2_has_16 : decode cX2_has 16 = .ok (.iconst 0, 1) := by decide +kernel
theorem dX2_has_17 : decode cX2_has 17 = .ok (.ireturn, 1) := by decide +kernel
theorem dX2_add_0 : decode cX2_add 0 = .ok (.aload_n 0, 1) := by decide +kernel
theorem dX2_add_1 : decode cX2_add 1 = .ok (.getfield 22, 3) := by decide +kernel
theorem dX2_add_4 : decode cX2_add 4 = .ok (.bipush 10, 2) := by decide +kernel
theorem dX2_add_6 : decode cX2_add 6 = .ok (.if_icmp .lt 5, 3) := by decide +kernel
theorem dX2_add_9 : decode cX2_add 9 = .ok (.iconst (-1), 1) := by decide +kernel
theorem dX2_add_10 : decode cX2_add 10 = .ok (.ireturn, 1) := by decide +kernel
theorem dX2_add_11 : decode cX2_add 11 = .ok (.aload_n 0, 1) := by decide +kernel
theorem dX2_add_12 : decode cX2_add 12 = .ok (.getfield 9, 3) := by decide +kernel
theorem dX2_add_15 : decode cX2_add 15 = .ok (.aload_n 0, 1) := by decide +kernel
theorem dX2_add_16 : decode cX2_add 16 = .ok (.getfield 22, 3) := by decide +kernel
theorem dX2_add_19 : decode cX2_add 19 = .ok (.iload_n 1, 1) := by decide +kernel
theorem dX2_add_20 : decode cX2_add 20 = .ok (.iastore, 1) := by decide +kernel
theorem dX2_add_21 : decode cX2_add 21 = .ok (.aload_n 0, 1) := by decide +kernel
theorem dX2_add_22 : decode cX2_add 22 = .ok (.dup, 1) := by decide +kernel
theorem dX2_add_23 : decode cX2_add 23 = .ok (.getfield 22, 3) := by decide +kernel
theorem dX2_add_26 : decode cX2_add 26 = .ok (.iconst 1, 1) := by decide +kernel
theorem dX2_add_27 : decode cX2_add 27 = .ok (.iadd, 1) := by decide +kernel
theorem dX2_add_28 : decode cX2_add 28 = .ok (.putfield 22, 3) := by decide +kernel
theorem dX2_add_31 : decode cX2_add 31 = .ok (.aload_n 0, 1) := by decide +kernel
theorem dX2_add_32 : decode cX2_add 32 = .ok (.getfield 22, 3) := by decide +kernel
theorem dX2_add_35 : decode cX2_add 35 = .ok (.iconst 1, 1) := by decide +kernel
theorem dX2_add_36 : decode cX2_add 36 = .ok (.isub, 1) := by decide +kernel
theorem dX2_add_37 : decode cX2_add 37 = .ok (.ireturn, 1) := by decide +kernel
theorem dX2_allLines_0 : decode cX2_allLines 0 = .ok (.iconst 0, 1) := by decide +kernel
theorem dX2_allLines_1 : decode cX2_allLines 1 = .ok (.istore_n 1, 1) := by decide +kernel
theorem dX2_allLines_2 : decode cX2_allLines 2 = .ok (.iconst 0, 1) := by decide +kernel
theorem dX2_allLines_3 : decode cX2_allLines 3 = .ok (.istore_n 2, 1) := by decide +kernel
theorem dX2_allLines_4 : decode cX2_allLines 4 = .ok (.iload_n 2, 1) := by decide +kernel
theorem dX2_allLines_5 : decode cX2_allLines 5 = .ok (.aload_n 0, 1) := by decide +kernel
theorem dX2_allLines_6 : decode cX2_allLines 6 = .ok (.getfield 22, 3) := by decide +kernel
theorem dX2_allLines_9 : decode cX2_allLines 9 = .ok (.if_icmp .ge 21, 3) := by decide +kernel
theorem dX2_allLines_12 : decode cX2_allLines 12 = .ok (.iload_n 1, 1) := by decide +kernel
theorem dX2_allLines_13 : decode cX2_allLines 13 = .ok (.aload_n 0, 1) := by decide +kernel
theorem dX2_allLines_14 : decode cX2_allLines 14 = .ok (.getfield 17, 3) := by decide +kernel
theorem dX2_allLines_17 : decode cX2_allLines 17 = .ok (.iload_n 2, 1) := by decide +kernel
theorem dX2_allLines_18 : decode cX2_allLines 18 = .ok (.aaload, 1) := by decide +kernel
theorem dX2_allLines_19 : decode cX2_allLines 19 = .ok (.getfield 26, 3) := by decide +kernel
theorem dX2_allLines_22 : decode cX2_allLines 22 = .ok (.iadd, 1) := by decide +kernel
theorem dX2_allLines_23 : decode cX2_allLines 23 = .ok (.istore_n 1, 1) := by decide +kernel
theorem dX2_allLines_24 : decode cX2_allLines 24 = .ok (.iinc 2 1, 3) := by decide +kernel
theorem dX2_allLines_27 : decode cX2_allLines 27 = .ok (.goto (-23), 3) := by decide +kernel
theorem dX2_allLines_30 : decode cX2_allLines 30 = .ok (.iload_n 1, 1) := by decide +kernel
theorem dX2_allLines_31 : decode cX2_allLines 31 = .ok (.ireturn, 1) := by decide +kernel
theorem dX2_allGrants_0 : decode cX2_allGrants 0 = .ok (.iconst 0, 1) := by decide +kernel
theorem dX2_allGrants_1 : decode cX2_allGrants 1 = .ok (.istore_n 1, 1) := by decide +kernel
theorem dX2_allGrants_2 : decode cX2_allGrants 2 = .ok (.iconst 0, 1) := by decide +kernel
theorem dX2_allGrants_3 : decode cX2_allGrants 3 = .ok (.istore_n 2, 1) := by decide +kernel
theorem dX2_allGrants_4 : decode cX2_allGrants 4 = .ok (.iload_n 2, 1) := by decide +kernel
theorem dX2_allGrants_5 : decode cX2_allGrants 5 = .ok (.aload_n 0, 1) := by decide +kernel
theorem dX2_allGrants_6 : decode cX2_allGrants 6 = .ok (.getfield 22, 3) := by decide +kernel
theorem dX2_allGrants_9 : decode cX2_allGrants 9 = .ok (.if_icmp .ge 21, 3) := by decide +kernel
theorem dX2_allGrants_12 : decode cX2_allGrants 12 = .ok (.iload_n 1, 1) := by decide +kernel
theorem dX2_allGrants_13 : decode cX2_allGrants 13 = .ok (.aload_n 0, 1) := by decide +kernel
theorem dX2_allGrants_14 : decode cX2_allGrants 14 = .ok (.getfield 9, 3) := by decide +kernel
theorem dX2_allGrants_17 : decode cX2_allGrants 17 = .ok (.iload_n 2, 1) := by decide +kernel
theorem dX2_allGrants_18 : decode cX2_allGrants 18 = .ok (.iaload, 1) := by decide +kernel
theorem dX2_allGrants_19 : decode cX2_allGrants 19 = .ok (.invokestatic 27, 3) := by decide +kernel
theorem dX2_allGrants_22 : decode cX2_allGrants 22 = .ok (.iadd, 1) := by decide +kernel
theorem dX2_allGrants_23 : decode cX2_allGrants 23 = .ok (.istore_n 1, 1) := by decide +kernel
theorem dX2_allGrants_24 : decode cX2_allGrants 24 = .ok (.iinc 2 1, 3) := by decide +kernel
theorem dX2_allGrants_27 : decode cX2_allGrants 27 = .ok (.goto (-23), 3) := by decide +kernel
theorem dX2_allGrants_30 : decode cX2_allGrants 30 = .ok (.iload_n 1, 1) := by decide +kernel
theorem dX2_allGrants_31 : decode cX2_allGrants 31 = .ok (.ireturn, 1) := by decide +kernel
theorem dX3_init_0 : decode cX3_init 0 = .ok (.aload_n 0, 1) := by decide +kernel
theorem dX3_init_1 : decode cX3_init 1 = .ok (.invokespecial 3, 3) := by decide +kernel
theorem dX3_init_4 : decode cX3_init 4 = .ok (.aload_n 0, 1) := by decide +kernel
theorem dX3_init_5 : decode cX3_init 5 = .ok (.new 9, 3) := by decide +kernel
theorem dX3_init_8 : decode cX3_init 8 = .ok (.dup, 1) := by decide +kernel
theorem dX3_init_9 : decode cX3_init 9 = .ok (.invokespecial 11, 3) := by decide +kernel
theorem dX3_init_12 : decode cX3_init 12 = .ok (.putfield 12, 3) := by decide +kernel
theorem dX3_init_15 : decode cX3_init 15 = .ok (.aload_n 0, 1) := by decide +kernel
theorem dX3_init_16 : decode cX3_init 16 = .ok (.aload_n 1, 1) := by decide +kernel
theorem dX3_init_17 : decode cX3_init 17 = .ok (.putfield 18, 3) := by decide +kernel
theorem dX3_init_20 : decode cX3_init 20 = .ok (.return_, 1) := by decide +kernel
theorem dX3_read_0 : decode cX3_read 0 = .ok (.aload_n 0, 1) := by decide +kernel
theorem dX3_read_1 : decode cX3_read 1 = .ok (.getfield 12, 3) := by decide +kernel
theorem dX3_read_4 : decode cX3_read 4 = .ok (.iconst 0, 1) := by decide +kernel
theorem dX3_read_5 : decode cX3_read 5 = .ok (.putfield 22, 3) := by decide +kernel
theorem dX3_read_8 : decode cX3_read 8 = .ok (.aload_n 0, 1) := by decide +kernel
theorem dX3_read_9 : decode cX3_read 9 = .ok (.iconst 0, 1) := by decide +kernel
theorem dX3_read_10 : decode cX3_read 10 = .ok (.putfield 26, 3) := by decide +kernel
theorem dX3_read_13 : decode cX3_read 13 = .ok (.aload_n 0, 1) := by decide +kernel
theorem dX3_read_14 : decode cX3_read 14 = .ok (.iconst (-1), 1) := by decide +kernel
theorem dX3_read_15 : decode cX3_read 15 = .ok (.putfield 29, 3) := by decide +kernel
theorem dX3_read_18 : decode cX3_read 18 = .ok (.aload_n 0, 1) := by decide +kernel
theorem dX3_read_19 : decode cX3_read 19 = .ok (.iload_n 1, 1) := by decide +kernel
theorem dX3_read_20 : decode cX3_read 20 = .ok (.putfield 32, 3) := by decide +kernel
theorem dX3_read_23 : decode cX3_read 23 = .ok (.aload_n 0, 1) := by decide +kernel
theorem dX3_read_24 : decode cX3_read 24 = .ok (.iload_n 2, 1) := by decide +kernel
theorem dX3_read_25 : decode cX3_read 25 = .ok (.putfield 35, 3) := by decide +kernel
theorem dX3_read_28 : decode cX3_read 28 = .ok (.aload_n 0, 1) := by decide +kernel
theorem dX3_read_29 : decode cX3_read 29 = .ok (.iconst 0, 1) := by decide +kernel
theorem dX3_read_30 : decode cX3_read 30 = .ok (.putfield 38, 3) := by decide +kernel
theorem dX3_read_33 : decode cX3_read 33 = .ok (.aload_n 0, 1) := by decide +kernel
theorem dX3_read_34 : decode cX3_read 34 = .ok (.invokevirtual 41, 3) := by decide +kernel
theorem dX3_read_37 : decode cX3_read 37 = .ok (.iconst 0, 1) := by decide +kernel
theorem dX3_read_38 : decode cX3_read 38 = .ok (.istore_n 3, 1) := by decide +kernel
theorem dX3_read_39 : decode cX3_read 39 = .ok (.iload_n 3, 1) := by decide +kernel
theorem dX3_read_40 : decode cX3_read 40 = .ok (.bipush 12, 2) := by decide +kernel
theorem dX3_read_42 : decode cX3_read 42 = .ok (.if_icmp .gt 45, 3) := by decide +kernel
theorem dX3_read_45 : decode cX3_read 45 = .ok (.aload_n 0, 1) := by decide +kernel
theorem dX3_read_46 : decode cX3_read 46 = .ok (.invokevirtual 44, 3) := by decide +kernel
theorem dX3_read_49 : decode cX3_read 49 = .ok (.ifCond .ne 5, 3) := by decide +kernel
theorem dX3_read_52 : decode cX3_read 52 = .ok (.iconst 0, 1) := by decide +kernel
theorem dX3_read_53 : decode cX3_read 53 = .ok (.ireturn, 1) := by decide +kernel
theorem dX3_read_54 : decode cX3_read 54 = .ok (.aload_n 0, 1) := by decide +kernel
theorem dX3_read_55 : decode cX3_read 55 = .ok (.getfield 48, 3) := by decide +kernel
theorem dX3_read_58 : decode cX3_read 58 = .ok (.ifCond .ne 5, 3) := by decide +kernel
theorem dX3_read_61 : decode cX3_read 61 = .ok (.iconst 1, 1) := by decide +kernel
theorem dX3_read_62 : decode cX3_read 62 = .ok (.ireturn, 1) := by decide +kernel
theorem dX3_read_63 : decode cX3_read 63 = .ok (.aload_n 0, 1) := by decide +kernel
theorem dX3_read_64 : decode cX3_read 64 = .ok (.getfield 48, 3) := by decide +kernel
theorem dX3_read_67 : decode cX3_read 67 = .ok (.iconst 4, 1) := by decide +kernel
theorem dX3_read_68 : decode cX3_read 68 = .ok (.if_icmp .eq 9, 3) := by decide +kernel
theorem dX3_read_71 : decode cX3_read 71 = .ok (.aload_n 0, 1) := by decide +kernel
theorem dX3_read_72 : decode cX3_read 72 = .ok (.iconst 1, 1) := by decide +kernel
theorem dX3_read_73 : decode cX3_read 73 = .ok (.invokevirtual 51, 3) := by decide +kernel
theorem dX3_read_76 : decode cX3_read 76 = .ok (.ireturn, 1) := by decide +kernel
theorem dX3_read_77 : decode cX3_read 77 = .ok (.aload_n 0, 1) := by decide +kernel
theorem dX3_read_78 : decode cX3_read 78 = .ok (.invokevirtual 41, 3) := by decide +kernel
theorem dX3_read_81 : decode cX3_read 81 = .ok (.iinc 3 1, 3) := by decide +kernel
theorem dX3_read_84 : decode cX3_read 84 = .ok (.goto (-45), 3) := by decide +kernel
theorem dX3_read_87 : decode cX3_read 87 = .ok (.aload_n 0, 1) := by decide +kernel
theorem dX3_read_88 : decode cX3_read 88 = .ok (.iconst 4, 1) := by decide +kernel
theorem dX3_read_89 : decode cX3_read 89 = .ok (.invokevirtual 51, 3) := by decide +kernel
theorem dX3_read_92 : decode cX3_read 92 = .ok (.ireturn, 1) := by decide +kernel
theorem dX3_readLine_0 : decode cX3_readLine 0 = .ok (.aload_n 0, 1) := by decide +kernel
theorem dX3_readLine_1 : decode cX3_readLine 1 = .ok (.invokevirtual 55, 3) := by decide +kernel
theorem dX3_readLine_4 : decode cX3_readLine 4 = .ok (.istore_n 1, 1) := by decide +kernel
theorem dX3_readLine_5 : decode cX3_readLine 5 = .ok (.iload_n 1, 1) := by decide +kernel
theorem dX3_readLine_6 : decode cX3_readLine 6 = .ok (.iconst (-1), 1) := by decide +kernel
theorem dX3_readLine_7 : decode cX3_readLine 7 = .ok (.if_icmp .ne 9, 3) := by decide +kernel
theorem dX3_readLine_10 : decode cX3_readLine 10 = .ok (.aload_n 0, 1) := by decide +kernel
theorem dX3_readLine_11 : decode cX3_readLine 11 = .ok (.iconst 1, 1) := by decide +kernel
theorem dX3_readLine_12 : decode cX3_readLine 12 = .ok (.invokevirtual 51, 3) := by decide +kernel
theorem dX3_readLine_15 : decode cX3_readLine 15 = .ok (.ireturn, 1) := by decide +kernel
theorem dX3_readLine_16 : decode cX3_readLine 16 = .ok (.aload_n 0, 1) := by decide +kernel
theorem dX3_readLine_17 : decode cX3_readLine 17 = .ok (.getfield 12, 3) := by decide +kernel
theorem dX3_readLine_20 : decode cX3_readLine 20 = .ok (.getfield 22, 3) := by decide +kernel
theorem dX3_readLine_23 : decode cX3_readLine 23 = .ok (.bipush 12, 2) := by decide +kernel
theorem dX3_readLine_25 : decode cX3_readLine 25 = .ok (.if_icmp .lt 9, 3) := by decide +kernel
theorem dX3_readLine_28 : decode cX3_readLine 28 = .ok (.aload_n 0, 1) := by decide +kernel
theorem dX3_readLine_29 : decode cX3_readLine 29 = .ok (.iconst 4, 1) := by decide +kernel
theorem dX3_readLine_30 : decode cX3_readLine 30 = .ok (.invokevirtual 51, 3) := by decide +kernel
theorem dX3_readLine_33 : decode cX3_readLine 33 = .ok (.ireturn, 1) := by decide +kernel
theorem dX3_readLine_34 : decode cX3_readLine 34 = .ok (.aload_n 0, 1) := by decide +kernel
theorem dX3_readLine_35 : decode cX3_readLine 35 = .ok (.invokevirtual 41, 3) := by decide +kernel
theorem dX3_readLine_38 : decode cX3_readLine 38 = .ok (.iload_n 1, 1) := by decide +kernel
theorem dX3_readLine_39 : decode cX3_readLine 39 = .ok (.tableswitch 160 0 4 #[33, 72, 77, 82, 121], 33) := by decide +kernel
theorem dX3_readLine_72 : decode cX3_readLine 72 = .ok (.aload_n 0, 1) := by decide +kernel
theorem dX3_readLine_73 : decode cX3_readLine 73 = .ok (.bipush 16, 2) := by decide +kernel
theorem dX3_readLine_75 : decode cX3_readLine 75 = .ok (.invokevirtual 59, 3) := by decide +kernel
theorem dX3_readLine_78 : decode cX3_readLine 78 = .ok (.ifCond .eq 31, 3) := by decide +kernel
theorem dX3_readLine_81 : decode cX3_readLine 81 = .ok (.aload_n 0, 1) := by decide +kernel
theorem dX3_readLine_82 : decode cX3_readLine 82 = .ok (.ldc 62, 2) := by decide +kernel
theorem dX3_readLine_84 : decode cX3_readLine 84 = .ok (.invokevirtual 64, 3) := by decide +kernel
theorem dX3_readLine_87 : decode cX3_readLine 87 = .ok (.ifCond .eq 22, 3) := by decide +kernel
theorem dX3_readLine_90 : decode cX3_readLine 90 = .ok (.aload_n 0, 1) := by decide +kernel
theorem dX3_readLine_91 : decode cX3_readLine 91 = .ok (.invokevirtual 68, 3) := by decide +kernel
theorem dX3_readLine_94 : decode cX3_readLine 94 = .ok (.ifCond .eq 15, 3) := by decide +kernel
theorem dX3_readLine_97 : decode cX3_readLine 97 = .ok (.aload_n 0, 1) := by decide +kernel
theorem dX3_readLine_98 : decode cX3_readLine 98 = .ok (.iconst 0, 1) := by decide +kernel
theorem dX3_readLine_99 : decode cX3_readLine 99 = .ok (.invokevirtual 71, 3) := by decide +kernel
theorem dX3_readLine_102 : decode cX3_readLine 102 = .ok (.ifCond .eq 7, 3) := by decide +kernel
theorem dX3_readLine_105 : decode cX3_readLine 105 = .ok (.iconst 1, 1) := by decide +kernel
theorem dX3_readLine_106 : decode cX3_readLine 106 = .ok (.goto 4, 3) := by decide +kernel
theorem dX3_readLine_109 : decode cX3_readLine 109 = .ok (.iconst 0, 1) := by decide +kernel
theorem dX3_readLine_110 : decode cX3_readLine 110 = .ok (.ireturn, 1) := by decide +kernel
theorem dX3_readLine_111 : decode cX3_readLine 111 = .ok (.aload_n 0, 1) := by decide +kernel
theorem dX3_readLine_112 : decode cX3_readLine 112 = .ok (.invokevirtual 74, 3) := by decide +kernel
theorem dX3_readLine_115 : decode cX3_readLine 115 = .ok (.ireturn, 1) := by decide +kernel
theorem dX3_readLine_116 : decode cX3_readLine 116 = .ok (.aload_n 0, 1) := by decide +kernel
theorem dX3_readLine_117 : decode cX3_readLine 117 = .ok (.invokevirtual 77, 3) := by decide +kernel
theorem dX3_readLine_120 : decode cX3_readLine 120 = .ok (.ireturn, 1) := by decide +kernel
theorem dX3_readLine_121 : decode cX3_readLine 121 = .ok (.aload_n 0, 1) := by decide +kernel
theorem dX3_readLine_122 : decode cX3_readLine 122 = .ok (.invokevirtual 68, 3) := by decide +kernel
theorem dX3_readLine_125 : decode cX3_readLine 125 = .ok (.ifCond .eq 33, 3) := by decide +kernel
theorem dX3_readLine_128 : decode cX3_readLine 128 = .ok (.aload_n 0, 1) := by decide +kernel
theorem dX3_readLine_129 : decode cX3_readLine 129 = .ok (.ldc 80, 2) := by decide +kernel
theorem dX3_readLine_131 : decode cX3_readLine 131 = .ok (.invokevirtual 64, 3) := by decide +kernel
theorem dX3_readLine_134 : decode cX3_readLine 134 = .ok (.ifCond .eq 24, 3) := by decide +kernel
theorem dX3_readLine_137 : decode cX3_readLine 137 = .ok (.aload_n 0, 1) := by decide +kernel
theorem dX3_readLine_138 : decode cX3_readLine 138 = .ok (.bipush 16, 2) := by decide +kernel
theorem dX3_readLine_140 : decode cX3_readLine 140 = .ok (.invokevirtual 59, 3) := by decide +kernel
theorem dX3_readLine_143 : decode cX3_readLine 143 = .ok (.ifCond .eq 15, 3) := by decide +kernel
theorem dX3_readLine_146 : decode cX3_readLine 146 = .ok (.aload_n 0, 1) := by decide +kernel
theorem dX3_readLine_147 : decode cX3_readLine 147 = .ok (.iconst 3, 1) := by decide +kernel
theorem dX3_readLine_148 : decode cX3_readLine 148 = .ok (.invokevirtual 71, 3) := by decide +kernel
theorem dX3_readLine_151 : decode cX3_readLine 151 = .ok (.ifCond .eq 7, 3) := by decide +kernel
theorem dX3_readLine_154 : decode cX3_readLine 154 = .ok (.iconst 1, 1) := by decide +kernel
theorem dX3_readLine_155 : decode cX3_readLine 155 = .ok (.goto 4, 3) := by decide +kernel
theorem dX3_readLine_158 : decode cX3_readLine 158 = .ok (.iconst 0, 1) := by decide +kernel
theorem dX3_readLine_159 : decode cX3_readLine 159 = .ok (.ireturn, 1) := by decide +kernel
theorem dX3_readLine_160 : decode cX3_readLine 160 = .ok (.aload_n 0, 1) := by decide +kernel
theorem dX3_readLine_161 : decode cX3_readLine 161 = .ok (.invokevirtual 68, 3) := by decide +kernel
theorem dX3_readLine_164 : decode cX3_readLine 164 = .ok (.ifCond .eq 33, 3) := by decide +kernel
theorem dX3_readLine_167 : decode cX3_readLine 167 = .ok (.aload_n 0, 1) := by decide +kernel
theorem dX3_readLine_168 : decode cX3_readLine 168 = .ok (.ldc 82, 2) := by decide +kernel
theorem dX3_readLine_170 : decode cX3_readLine 170 = .ok (.invokevirtual 64, 3) := by decide +kernel
theorem dX3_readLine_173 : decode cX3_readLine 173 = .ok (.ifCond .eq 24, 3) := by decide +kernel
theorem dX3_readLine_176 : decode cX3_readLine 176 = .ok (.aload_n 0, 1) := by decide +kernel
theorem dX3_readLine_177 : decode cX3_readLine 177 = .ok (.bipush 16, 2) := by decide +kernel
theorem dX3_readLine_179 : decode cX3_readLine 179 = .ok (.invokevirtual 59, 3) := by decide +kernel
theorem dX3_readLine_182 : decode cX3_readLine 182 = .ok (.ifCond .eq 15, 3) := by decide +kernel
theorem dX3_readLine_185 : decode cX3_readLine 185 = .ok (.aload_n 0, 1) := by decide +kernel
theorem dX3_readLine_186 : decode cX3_readLine 186 = .ok (.iconst 4, 1) := by decide +kernel
theorem dX3_readLine_187 : decode cX3_readLine 187 = .ok (.invokevirtual 71, 3) := by decide +kernel
theorem dX3_readLine_190 : decode cX3_readLine 190 = .ok (.ifCond .eq 7, 3) := by decide +kernel
theorem dX3_readLine_193 : decode cX3_readLine 193 = .ok (.iconst 1, 1) := by decide +kernel
theorem dX3_readLine_194 : decode cX3_readLine 194 = .ok (.goto 4, 3) := by decide +kernel
theorem dX3_readLine_197 : decode cX3_readLine 197 = .ok (.iconst 0, 1) := by decide +kernel
theorem dX3_readLine_198 : decode cX3_readLine 198 = .ok (.ireturn, 1) := by decide +kernel
theorem dX3_readLine_199 : decode cX3_readLine 199 = .ok (.aload_n 0, 1) := by decide +kernel
theorem dX3_readLine_200 : decode cX3_readLine 200 = .ok (.iconst 0, 1) := by decide +kernel
theorem dX3_readLine_201 : decode cX3_readLine 201 = .ok (.putfield 84, 3) := by decide +kernel
theorem dX3_readLine_204 : decode cX3_readLine 204 = .ok (.aload_n 0, 1) := by decide +kernel
theorem dX3_readLine_205 : decode cX3_readLine 205 = .ok (.invokevirtual 68, 3) := by decide +kernel
theorem dX3_readLine_208 : decode cX3_readLine 208 = .ok (.ifCond .eq 15, 3) := by decide +kernel
theorem dX3_readLine_211 : decode cX3_readLine 211 = .ok (.aload_n 0, 1) := by decide +kernel
theorem dX3_readLine_212 : decode cX3_readLine 212 = .ok (.iconst 5, 1) := by decide +kernel
theorem dX3_readLine_213 : decode cX3_readLine 213 = .ok (.invokevirtual 71, 3) := by decide +kernel
theorem dX3_readLine_216 : decode cX3_readLine 216 = .ok (.ifCond .eq 7, 3) := by decide +kernel
theorem dX3_readLine_219 : decode cX3_readLine 219 = .ok (.iconst 1, 1) := by decide +kernel
theorem dX3_readLine_220 : decode cX3_readLine 220 = .ok (.goto 4, 3) := by decide +kernel
theorem dX3_readLine_223 : decode cX3_readLine 223 = .ok (.iconst 0, 1) := by decide +kernel
theorem dX3_readLine_224 : decode cX3_readLine 224 = .ok (.ireturn, 1) := by decide +kernel
theorem dX3_keep_0 : decode cX3_keep 0 = .ok (.aload_n 0, 1) := by decide +kernel
theorem dX3_keep_1 : decode cX3_keep 1 = .ok (.getfield 12, 3) := by decide +kernel
theorem dX3_keep_4 : decode cX3_keep 4 = .ok (.iload_n 1, 1) := by decide +kernel
theorem dX3_keep_5 : decode cX3_keep 5 = .ok (.aload_n 0, 1) := by decide +kernel
theorem dX3_keep_6 : decode cX3_keep 6 = .ok (.getfield 84, 3) := by decide +kernel
theorem dX3_keep_9 : decode cX3_keep 9 = .ok (.aload_n 0, 1) := by decide +kernel
theorem dX3_keep_10 : decode cX3_keep 10 = .ok (.getfield 87, 3) := by decide +kernel
theorem dX3_keep_13 : decode cX3_keep 13 = .ok (.iconst (-1), 1) := by decide +kernel
theorem dX3_keep_14 : decode cX3_keep 14 = .ok (.iconst 0, 1) := by decide +kernel
theorem dX3_keep_15 : decode cX3_keep 15 = .ok (.invokevirtual 90, 3) := by decide +kernel
theorem dX3_keep_18 : decode cX3_keep 18 = .ok (.ireturn, 1) := by decide +kernel
theorem dX3_readLet_0 : decode cX3_readLet 0 = .ok (.aload_n 0, 1) := by decide +kernel
theorem dX3_readLet_1 : decode cX3_readLet 1 = .ok (.invokevirtual 68, 3) := by decide +kernel
theorem dX3_readLet_4 : decode cX3_readLet 4 = .ok (.ifCond .eq 12, 3) := by decide +kernel
theorem dX3_readLet_7 : decode cX3_readLet 7 = .ok (.aload_n 0, 1) := by decide +kernel
theorem dX3_readLet_8 : decode cX3_readLet 8 = .ok (.ldc 94, 2) := by decide +kernel
theorem dX3_readLet_10 : decode cX3_readLet 10 = .ok (.invokevirtual 64, 3) := by decide +kernel
theorem dX3_readLet_13 : decode cX3_readLet 13 = .ok (.ifCond .ne 5, 3) := by decide +kernel
theorem dX3_readLet_16 : decode cX3_readLet 16 = .ok (.iconst 0, 1) := by decide +kernel
theorem dX3_readLet_17 : decode cX3_readLet 17 = .ok (.ireturn, 1) := by decide +kernel
theorem dX3_readLet_18 : decode cX3_readLet 18 = .ok (.aload_n 0, 1) := by decide +kernel
theorem dX3_readLet_19 : decode cX3_readLet 19 = .ok (.getfield 87, 3) := by decide +kernel
theorem dX3_readLet_22 : decode cX3_readLet 22 = .ok (.istore_n 1, 1) := by decide +kernel
theorem dX3_readLet_23 : decode cX3_readLet 23 = .ok (.iconst (-1), 1) := by decide +kernel
theorem dX3_readLet_24 : decode cX3_readLet 24 = .ok (.istore_n 2, 1) := by decide +kernel
theorem dX3_readLet_25 : decode cX3_readLet 25 = .ok (.iconst 0, 1) := by decide +kernel
theorem dX3_readLet_26 : decode cX3_readLet 26 = .ok (.istore_n 3, 1) := by decide +kernel
theorem dX3_readLet_27 : decode cX3_readLet 27 = .ok (.iconst 1, 1) := by decide +kernel
theorem dX3_readLet_28 : decode cX3_readLet 28 = .ok (.istore 4, 2) := by decide +kernel
theorem dX3_readLet_30 : decode cX3_readLet 30 = .ok (.iload 4, 2) := by decide +kernel
theorem dX3_readLet_32 : decode cX3_readLet 32 = .ok (.iconst 4, 1) := by decide +kernel
theorem dX3_readLet_33 : decode cX3_readLet 33 = .ok (.if_icmp .gt 68, 3) := by decide +kernel
theorem dX3_readLet_36 : decode cX3_readLet 36 = .ok (.aload_n 0, 1) := by decide +kernel
theorem dX3_readLet_37 : decode cX3_readLet 37 = .ok (.invokevirtual 68, 3) := by decide +kernel
theorem dX3_readLet_40 : decode cX3_readLet 40 = .ok (.ifCond .ne 5, 3) := by decide +kernel
theorem dX3_readLet_43 : decode cX3_readLet 43 = .ok (.iconst 0, 1) := by decide +kernel
theorem dX3_readLet_44 : decode cX3_readLet 44 = .ok (.ireturn, 1) := by decide +kernel
theorem dX3_readLet_45 : decode cX3_readLet 45 = .ok (.iload_n 3, 1) := by decide +kernel
theorem dX3_readLet_46 : decode cX3_readLet 46 = .ok (.iconst 1, 1) := by decide +kernel
theorem dX3_readLet_47 : decode cX3_readLet 47 = .ok (.aload_n 0, 1) := by decide +kernel
theorem dX3_readLet_48 : decode cX3_readLet 48 = .ok (.getfield 87, 3) := by decide +kernel
theorem dX3_readLet_51 : decode cX3_readLet 51 = .ok (.ishl, 1) := by decide +kernel
theorem dX3_readLet_52 : decode cX3_readLet 52 = .ok (.ior, 1) := by decide +kernel
theorem dX3_readLet_53 : decode cX3_readLet 53 = .ok (.istore_n 3, 1) := by decide +kernel
theorem dX3_readLet_54 : decode cX3_readLet 54 = .ok (.iload 4, 2) := by decide +kernel
theorem dX3_readLet_56 : decode cX3_readLet 56 = .ok (.iconst 1, 1) := by decide +kernel
theorem dX3_readLet_57 : decode cX3_readLet 57 = .ok (.if_icmp .ne 10, 3) := by decide +kernel
theorem dX3_readLet_60 : decode cX3_readLet 60 = .ok (.aload_n 0, 1) := by decide +kernel
theorem dX3_readLet_61 : decode cX3_readLet 61 = .ok (.getfield 87, 3) := by decide +kernel
theorem dX3_readLet_64 : decode cX3_readLet 64 = .ok (.goto 4, 3) := by decide +kernel
theorem dX3_readLet_67 : decode cX3_readLet 67 = .ok (.iload_n 2, 1) := by decide +kernel
theorem dX3_readLet_68 : decode cX3_readLet 68 = .ok (.istore_n 2, 1) := by decide +kernel
theorem dX3_readLet_69 : decode cX3_readLet 69 = .ok (.aload_n 0, 1) := by decide +kernel
theorem dX3_readLet_70 : decode cX3_readLet 70 = .ok (.getfield 48, 3) := by decide +kernel
theorem dX3_readLet_73 : decode cX3_readLet 73 = .ok (.iconst 3, 1) := by decide +kernel
theorem dX3_readLet_74 : decode cX3_readLet 74 = .ok (.if_icmp .eq 17, 3) := by decide +kernel
theorem dX3_readLet_77 : decode cX3_readLet 77 = .ok (.aload_n 0, 1) := by decide +kernel
theorem dX3_readLet_78 : decode cX3_readLet 78 = .ok (.getfield 12, 3) := by decide +kernel
theorem dX3_readLet_81 : decode cX3_readLet 81 = .ok (.iconst 1, 1) := by decide +kernel
theorem dX3_readLet_82 : decode cX3_readLet 82 = .ok (.iload 4, 2) := by decide +kernel
theorem dX3_readLet_84 : decode cX3_readLet 84 = .ok (.iload_n 1, 1) := by decide +kernel
theorem dX3_readLet_85 : decode cX3_readLet 85 = .ok (.iload_n 2, 1) := by decide +kernel
theorem dX3_readLet_86 : decode cX3_readLet 86 = .ok (.iload_n 3, 1) := by decide +kernel
theorem dX3_readLet_87 : decode cX3_readLet 87 = .ok (.invokevirtual 90, 3) := by decide +kernel
theorem dX3_readLet_90 : decode cX3_readLet 90 = .ok (.ireturn, 1) := by decide +kernel
theorem dX3_readLet_91 : decode cX3_readLet 91 = .ok (.aload_n 0, 1) := by decide +kernel
theorem dX3_readLet_92 : decode cX3_readLet 92 = .ok (.invokevirtual 41, 3) := by decide +kernel
theorem dX3_readLet_95 : decode cX3_readLet 95 = .ok (.iinc 4 1, 3) := by decide +kernel
theorem dX3_readLet_98 : decode cX3_readLet 98 = .ok (.goto (-68), 3) := by decide +kernel
theorem dX3_readLet_101 : decode cX3_readLet 101 = .ok (.aload_n 0, 1) := by decide +kernel
theorem dX3_readLet_102 : decode cX3_readLet 102 = .ok (.invokevirtual 96, 3) := by decide +kernel
theorem dX3_readLet_105 : decode cX3_readLet 105 = .ok (.ifCond .eq 15, 3) := by decide +kernel
theorem dX3_readLet_108 : decode cX3_readLet 108 = .ok (.aload_n 0, 1) := by decide +kernel
theorem dX3_readLet_109 : decode cX3_readLet 109 = .ok (.iconst 4, 1) := by decide +kernel
theorem dX3_readLet_110 : decode cX3_readLet 110 = .ok (.invokevirtual 51, 3) := by decide +kernel
theorem dX3_readLet_113 : decode cX3_readLet 113 = .ok (.ifCond .eq 7, 3) := by decide +kernel
theorem dX3_readLet_116 : decode cX3_readLet 116 = .ok (.iconst 1, 1) := by decide +kernel
theorem dX3_readLet_117 : decode cX3_readLet 117 = .ok (.goto 4, 3) := by decide +kernel
theorem dX3_readLet_120 : decode cX3_readLet 120 = .ok (.iconst 0, 1) := by decide +kernel
theorem dX3_readLet_121 : decode cX3_readLet 121 = .ok (.ireturn, 1) := by decide +kernel
theorem dX3_readAsk_0 : decode cX3_readAsk 0 = .ok (.aload_n 0, 1) := by decide +kernel
theorem dX3_readAsk_1 : decode cX3_readAsk 1 = .ok (.aload_n 0, 1) := by decide +kernel
theorem dX3_readAsk_2 : decode cX3_readAsk 2 = .ok (.getfield 35, 3) := by decide +kernel
theorem dX3_readAsk_5 : decode cX3_readAsk 5 = .ok (.invokevirtual 59, 3) := by decide +kernel
theorem dX3_readAsk_8 : decode cX3_readAsk 8 = .ok (.ifCond .eq 19, 3) := by decide +kernel
theorem dX3_readAsk_11 : decode cX3_readAsk 11 = .ok (.aload_n 0, 1) := by decide +kernel
theorem dX3_readAsk_12 : decode cX3_readAsk 12 = .ok (.ldc 99, 2) := by decide +kernel
theorem dX3_readAsk_14 : decode cX3_readAsk 14 = .ok (.invokevirtual 64, 3) := by decide +kernel
theorem dX3_readAsk_17 : decode cX3_readAsk 17 = .ok (.ifCond .eq 10, 3) := by decide +kernel
theorem dX3_readAsk_20 : decode cX3_readAsk 20 = .ok (.aload_n 0, 1) := by decide +kernel
theorem dX3_readAsk_21 : decode cX3_readAsk 21 = .ok (.invokevirtual 68, 3) := by decide +kernel
theorem dX3_readAsk_24 : decode cX3_readAsk 24 = .ok (.ifCond .ne 5, 3) := by decide +kernel
theorem dX3_readAsk_27 : decode cX3_readAsk 27 = .ok (.iconst 0, 1) := by decide +kernel
theorem dX3_readAsk_28 : decode cX3_readAsk 28 = .ok (.ireturn, 1) := by decide +kernel
theorem dX3_readAsk_29 : decode cX3_readAsk 29 = .ok (.aload_n 0, 1) := by decide +kernel
theorem dX3_readAsk_30 : decode cX3_readAsk 30 = .ok (.getfield 87, 3) := by decide +kernel
theorem dX3_readAsk_33 : decode cX3_readAsk 33 = .ok (.istore_n 1, 1) := by decide +kernel
theorem dX3_readAsk_34 : decode cX3_readAsk 34 = .ok (.aload_n 0, 1) := by decide +kernel
theorem dX3_readAsk_35 : decode cX3_readAsk 35 = .ok (.ldc 62, 2) := by decide +kernel
theorem dX3_readAsk_37 : decode cX3_readAsk 37 = .ok (.invokevirtual 64, 3) := by decide +kernel
theorem dX3_readAsk_40 : decode cX3_readAsk 40 = .ok (.ifCond .eq 35, 3) := by decide +kernel
theorem dX3_readAsk_43 : decode cX3_readAsk 43 = .ok (.aload_n 0, 1) := by decide +kernel
theorem dX3_readAsk_44 : decode cX3_readAsk 44 = .ok (.invokevirtual 68, 3) := by decide +kernel
theorem dX3_readAsk_47 : decode cX3_readAsk 47 = .ok (.ifCond .eq 28, 3) := by decide +kernel
theorem dX3_readAsk_50 : decode cX3_readAsk 50 = .ok (.aload_n 0, 1) := by decide +kernel
theorem dX3_readAsk_51 : decode cX3_readAsk 51 = .ok (.getfield 12, 3) := by decide +kernel
theorem dX3_readAsk_54 : decode cX3_readAsk 54 = .ok (.iconst 2, 1) := by decide +kernel
theorem dX3_readAsk_55 : decode cX3_readAsk 55 = .ok (.aload_n 0, 1) := by decide +kernel
theorem dX3_readAsk_56 : decode cX3_readAsk 56 = .ok (.getfield 84, 3) := by decide +kernel
theorem dX3_readAsk_59 : decode cX3_readAsk 59 = .ok (.iload_n 1, 1) := by decide +kernel
theorem dX3_readAsk_60 : decode cX3_readAsk 60 = .ok (.aload_n 0, 1) := by decide +kernel
theorem dX3_readAsk_61 : decode cX3_readAsk 61 = .ok (.getfield 87, 3) := by decide +kernel
theorem dX3_readAsk_64 : decode cX3_readAsk 64 = .ok (.iconst 0, 1) := by decide +kernel
theorem dX3_readAsk_65 : decode cX3_readAsk 65 = .ok (.invokevirtual 90, 3) := by decide +kernel
theorem dX3_readAsk_68 : decode cX3_readAsk 68 = .ok (.ifCond .eq 7, 3) := by decide +kernel
theorem dX3_readAsk_71 : decode cX3_readAsk 71 = .ok (.iconst 1, 1) := by decide +kernel
theorem dX3_readAsk_72 : decode cX3_readAsk 72 = .ok (.goto 4, 3) := by decide +kernel
theorem dX3_readAsk_75 : decode cX3_readAsk 75 = .ok (.iconst 0, 1) := by decide +kernel
theorem dX3_readAsk_76 : decode cX3_readAsk 76 = .ok (.ireturn, 1) := by decide +kernel
theorem dX3_takeWhole_0 : decode cX3_takeWhole 0 = .ok (.aload_n 0, 1) := by decide +kernel
theorem dX3_takeWhole_1 : decode cX3_takeWhole 1 = .ok (.getfield 48, 3) := by decide +kernel
theorem dX3_takeWhole_4 : decode cX3_takeWhole 4 = .ok (.iconst 2, 1) := by decide +kernel
theorem dX3_takeWhole_5 : decode cX3_takeWhole 5 = .ok (.if_icmp .eq 9, 3) := by decide +kernel
theorem dX3_takeWhole_8 : decode cX3_takeWhole 8 = .ok (.aload_n 0, 1) := by decide +kernel
theorem dX3_takeWhole_9 : decode cX3_takeWhole 9 = .ok (.iconst 1, 1) := by decide +kernel
theorem dX3_takeWhole_10 : decode cX3_takeWhole 10 = .ok (.invokevirtual 51, 3) := by decide +kernel
theorem dX3_takeWhole_13 : decode cX3_takeWhole 13 = .ok (.ireturn, 1) := by decide +kernel
theorem dX3_takeWhole_14 : decode cX3_takeWhole 14 = .ok (.aload_n 0, 1) := by decide +kernel
theorem dX3_takeWhole_15 : decode cX3_takeWhole 15 = .ok (.iconst 0, 1) := by decide +kernel
theorem dX3_takeWhole_16 : decode cX3_takeWhole 16 = .ok (.putfield 84, 3) := by decide +kernel
theorem dX3_takeWhole_19 : decode cX3_takeWhole 19 = .ok (.aload_n 0, 1) := by decide +kernel
theorem dX3_takeWhole_20 : decode cX3_takeWhole 20 = .ok (.getfield 101, 3) := by decide +kernel
theorem dX3_takeWhole_23 : decode cX3_takeWhole 23 = .ok (.istore_n 2, 1) := by decide +kernel
theorem dX3_takeWhole_24 : decode cX3_takeWhole 24 = .ok (.iload_n 2, 1) := by decide +kernel
theorem dX3_takeWhole_25 : decode cX3_takeWhole 25 = .ok (.aload_n 0, 1) := by decide +kernel
theorem dX3_takeWhole_26 : decode cX3_takeWhole 26 = .ok (.getfield 38, 3) := by decide +kernel
theorem dX3_takeWhole_29 : decode cX3_takeWhole 29 = .ok (.if_icmp .ge 33, 3) := by decide +kernel
theorem dX3_takeWhole_32 : decode cX3_takeWhole 32 = .ok (.aload_n 0, 1) := by decide +kernel
theorem dX3_takeWhole_33 : decode cX3_takeWhole 33 = .ok (.aload_n 0, 1) := by decide +kernel
theorem dX3_takeWhole_34 : decode cX3_takeWhole 34 = .ok (.getfield 84, 3) := by decide +kernel
theorem dX3_takeWhole_37 : decode cX3_takeWhole 37 = .ok (.bipush 10, 2) := by decide +kernel
theorem dX3_takeWhole_39 : decode cX3_takeWhole 39 = .ok (.imul, 1) := by decide +kernel
theorem dX3_takeWhole_40 : decode cX3_takeWhole 40 = .ok (.aload_n 0, 1) := by decide +kernel
theorem dX3_takeWhole_41 : decode cX3_takeWhole 41 = .ok (.getfield 18, 3) := by decide +kernel
theorem dX3_takeWhole_44 : decode cX3_takeWhole 44 = .ok (.getfield 103, 3) := by decide +kernel
theorem dX3_takeWhole_47 : decode cX3_takeWhole 47 = .ok (.iload_n 2, 1) := by decide +kernel
theorem dX3_takeWhole_48 : decode cX3_takeWhole 48 = .ok (.iaload, 1) := by decide +kernel
theorem dX3_takeWhole_49 : decode cX3_takeWhole 49 = .ok (.iadd, 1) := by decide +kernel
theorem dX3_takeWhole_50 : decode cX3_takeWhole 50 = .ok (.bipush 48, 2) := by decide +kernel
theorem dX3_takeWhole_52 : decode cX3_takeWhole 52 = .ok (.isub, 1) := by decide +kernel
theorem dX3_takeWhole_53 : decode cX3_takeWhole 53 = .ok (.putfield 84, 3) := by decide +kernel
theorem dX3_takeWhole_56 : decode cX3_takeWhole 56 = .ok (.iinc 2 1, 3) := by decide +kernel
theorem dX3_takeWhole_59 : decode cX3_takeWhole 59 = .ok (.goto (-35), 3) := by decide +kernel
theorem dX3_takeWhole_62 : decode cX3_takeWhole 62 = .ok (.aload_n 0, 1) := by decide +kernel
theorem dX3_takeWhole_63 : decode cX3_takeWhole 63 = .ok (.getfield 84, 3) := by decide +kernel
theorem dX3_takeWhole_66 : decode cX3_takeWhole 66 = .ok (.iload_n 1, 1) := by decide +kernel
theorem dX3_takeWhole_67 : decode cX3_takeWhole 67 = .ok (.if_icmp .lt 9, 3) := by decide +kernel
theorem dX3_takeWhole_70 : decode cX3_takeWhole 70 = .ok (.aload_n 0, 1) := by decide +kernel
theorem dX3_takeWhole_71 : decode cX3_takeWhole 71 = .ok (.iconst 3, 1) := by decide +kernel
theorem dX3_takeWhole_72 : decode cX3_takeWhole 72 = .ok (.invokevirtual 51, 3) := by decide +kernel
theorem dX3_takeWhole_75 : decode cX3_takeWhole 75 = .ok (.ireturn, 1) := by decide +kernel
theorem dX3_takeWhole_76 : decode cX3_takeWhole 76 = .ok (.aload_n 0, 1) := by decide +kernel
theorem dX3_takeWhole_77 : decode cX3_takeWhole 77 = .ok (.invokevirtual 41, 3) := by decide +kernel
theorem dX3_takeWhole_80 : decode cX3_takeWhole 80 = .ok (.iconst 1, 1) := by decide +kernel
theorem dX3_takeWhole_81 : decode cX3_takeWhole 81 = .ok (.ireturn, 1) := by decide +kernel
theorem dX3_takeName_0 : decode cX3_takeName 0 = .ok (.aload_n 0, 1) := by decide +kernel
theorem dX3_takeName_1 : decode cX3_takeName 1 = .ok (.invokevirtual 96, 3) := by decide +kernel
theorem dX3_takeName_4 : decode cX3_takeName 4 = .ok (.ifCond .ne 5, 3) := by decide +kernel
theorem dX3_takeName_7 : decode cX3_takeName 7 = .ok (.iconst 0, 1) := by decide +kernel
theorem dX3_takeName_8 : decode cX3_takeName 8 = .ok (.ireturn, 1) := by decide +kernel
theorem dX3_takeName_9 : decode cX3_takeName 9 = .ok (.aload_n 0, 1) := by decide +kernel
theorem dX3_takeName_10 : decode cX3_takeName 10 = .ok (.aload_n 0, 1) := by decide +kernel
theorem dX3_takeName_11 : decode cX3_takeName 11 = .ok (.getfield 18, 3) := by decide +kernel
theorem dX3_takeName_14 : decode cX3_takeName 14 = .ok (.getfield 103, 3) := by decide +kernel
theorem dX3_takeName_17 : decode cX3_takeName 17 = .ok (.aload_n 0, 1) := by decide +kernel
theorem dX3_takeName_18 : decode cX3_takeName 18 = .ok (.getfield 101, 3) := by decide +kernel
theorem dX3_takeName_21 : decode cX3_takeName 21 = .ok (.iaload, 1) := by decide +kernel
theorem dX3_takeName_22 : decode cX3_takeName 22 = .ok (.bipush 97, 2) := by decide +kernel
theorem dX3_takeName_24 : decode cX3_takeName 24 = .ok (.isub, 1) := by decide +kernel
theorem dX3_takeName_25 : decode cX3_takeName 25 = .ok (.putfield 87, 3) := by decide +kernel
theorem dX3_takeName_28 : decode cX3_takeName 28 = .ok (.aload_n 0, 1) := by decide +kernel
theorem dX3_takeName_29 : decode cX3_takeName 29 = .ok (.invokevirtual 41, 3) := by decide +kernel
theorem dX3_takeName_32 : decode cX3_takeName 32 = .ok (.iconst 1, 1) := by decide +kernel
theorem dX3_takeName_33 : decode cX3_takeName 33 = .ok (.ireturn, 1) := by decide +kernel
theorem dX3_isName_0 : decode cX3_isName 0 = .ok (.aload_n 0, 1) := by decide +kernel
theorem dX3_isName_1 : decode cX3_isName 1 = .ok (.getfield 48, 3) := by decide +kernel
theorem dX3_isName_4 : decode cX3_isName 4 = .ok (.iconst 1, 1) := by decide +kernel
theorem dX3_isName_5 : decode cX3_isName 5 = .ok (.if_icmp .eq 9, 3) := by decide +kernel
theorem dX3_isName_8 : decode cX3_isName 8 = .ok (.aload_n 0, 1) := by decide +kernel
theorem dX3_isName_9 : decode cX3_isName 9 = .ok (.iconst 1, 1) := by decide +kernel
theorem dX3_isName_10 : decode cX3_isName 10 = .ok (.invokevirtual 51, 3) := by decide +kernel
theorem dX3_isName_13 : decode cX3_isName 13 = .ok (.ireturn, 1) := by decide +kernel
theorem dX3_isName_14 : decode cX3_isName 14 = .ok (.aload_n 0, 1) := by decide +kernel
theorem dX3_isName_15 : decode cX3_isName 15 = .ok (.getfield 38, 3) := by decide +kernel
theorem dX3_isName_18 : decode cX3_isName 18 = .ok (.aload_n 0, 1) := by decide +kernel
theorem dX3_isName_19 : decode cX3_isName 19 = .ok (.getfield 101, 3) := by decide +kernel
theorem dX3_isName_22 : decode cX3_isName 22 = .ok (.isub, 1) := by decide +kernel
theorem dX3_isName_23 : decode cX3_isName 23 = .ok (.iconst 1, 1) := by decide +kernel
theorem dX3_isName_24 : decode cX3_isName 24 = .ok (.if_icmp .ne 23, 3) := by decide +kernel
theorem dX3_isName_27 : decode cX3_isName 27 = .ok (.aload_n 0, 1) := by decide +kernel
theorem dX3_isName_28 : decode cX3_isName 28 = .ok (.getfield 18, 3) := by decide +kernel
theorem dX3_isName_31 : decode cX3_isName 31 = .ok (.getfield 103, 3) := by decide +kernel
theorem dX3_isName_34 : decode cX3_isName 34 = .ok (.aload_n 0, 1) := by decide +kernel
theorem dX3_isName_35 : decode cX3_isName 35 = .ok (.getfield 101, 3) := by decide +kernel
theorem dX3_isName_38 : decode cX3_isName 38 = .ok (.iaload, 1) := by decide +kernel
theorem dX3_isName_39 : decode cX3_isName 39 = .ok (.bipush 97, 2) := by decide +kernel
theorem dX3_isName_41 : decode cX3_isName 41 = .ok (.isub, 1) := by decide +kernel
theorem dX3_isName_42 : decode cX3_isName 42 = .ok (.bipush 8, 2) := by decide +kernel
theorem dX3_isName_44 : decode cX3_isName 44 = .ok (.if_icmp .lt 9, 3) := by decide +kernel
theorem dX3_isName_47 : decode cX3_isName 47 = .ok (.aload_n 0, 1) := by decide +kernel
theorem dX3_isName_48 : decode cX3_isName 48 = .ok (.iconst 2, 1) := by decide +kernel
theorem dX3_isName_49 : decode cX3_isName 49 = .ok (.invokevirtual 51, 3) := by decide +kernel
theorem dX3_isName_52 : decode cX3_isName 52 = .ok (.ireturn, 1) := by decide +kernel
theorem dX3_isName_53 : decode cX3_isName 53 = .ok (.iconst 1, 1) := by decide +kernel
theorem dX3_isName_54 : decode cX3_isName 54 = .ok (.ireturn, 1) := by decide +kernel
theorem dX3_takeWord_0 : decode cX3_takeWord 0 = .ok (.aload_n 0, 1) := by decide +kernel
theorem dX3_takeWord_1 : decode cX3_takeWord 1 = .ok (.aload_n 1, 1) := by decide +kernel
theorem dX3_takeWord_2 : decode cX3_takeWord 2 = .ok (.invokevirtual 109, 3) := by decide +kernel
theorem dX3_takeWord_5 : decode cX3_takeWord 5 = .ok (.ifCond .ne 9, 3) := by decide +kernel
theorem dX3_takeWord_8 : decode cX3_takeWord 8 = .ok (.aload_n 0, 1) := by decide +kernel
theorem dX3_takeWord_9 : decode cX3_takeWord 9 = .ok (.iconst 1, 1) := by decide +kernel
theorem dX3_takeWord_10 : decode cX3_takeWord 10 = .ok (.invokevirtual 51, 3) := by decide +kernel
theorem dX3_takeWord_13 : decode cX3_takeWord 13 = .ok (.ireturn, 1) := by decide +kernel
theorem dX3_takeWord_14 : decode cX3_takeWord 14 = .ok (.aload_n 0, 1) := by decide +kernel
theorem dX3_takeWord_15 : decode cX3_takeWord 15 = .ok (.invokevirtual 41, 3) := by decide +kernel
theorem dX3_takeWord_18 : decode cX3_takeWord 18 = .ok (.iconst 1, 1) := by decide +kernel
theorem dX3_takeWord_19 : decode cX3_takeWord 19 = .ok (.ireturn, 1) := by decide +kernel
theorem dX3_kindHere_0 : decode cX3_kindHere 0 = .ok (.aload_n 0, 1) := by decide +kernel
theorem dX3_kindHere_1 : decode cX3_kindHere 1 = .ok (.ldc 112, 2) := by decide +kernel
theorem dX3_kindHere_3 : decode cX3_kindHere 3 = .ok (.invokevirtual 109, 3) := by decide +kernel
theorem dX3_kindHere_6 : decode cX3_kindHere 6 = .ok (.ifCond .eq 5, 3) := by decide +kernel
theorem dX3_kindHere_9 : decode cX3_kindHere 9 = .ok (.iconst 0, 1) := by decide +kernel
theorem dX3_kindHere_10 : decode cX3_kindHere 10 = .ok (.ireturn, 1) := by decide +kernel
theorem dX3_kindHere_11 : decode cX3_kindHere 11 = .ok (.aload_n 0, 1) := by decide +kernel
theorem dX3_kindHere_12 : decode cX3_kindHere 12 = .ok (.ldc 114, 2) := by decide +kernel
theorem dX3_kindHere_14 : decode cX3_kindHere 14 = .ok (.invokevirtual 109, 3) := by decide +kernel
theorem dX3_kindHere_17 : decode cX3_kindHere 17 = .ok (.ifCond .eq 5, 3) := by decide +kernel
theorem dX3_kindHere_20 : decode cX3_kindHere 20 = .ok (.iconst 1, 1) := by decide +kernel
theorem dX3_kindHere_21 : decode cX3_kindHere 21 = .ok (.ireturn, 1) := by decide +kernel
theorem dX3_kindHere_22 : decode cX3_kindHere 22 = .ok (.aload_n 0, 1) := by decide +kernel
theorem dX3_kindHere_23 : decode cX3_kindHere 23 = .ok (.ldc 116, 2) := by decide +kernel
theorem dX3_kindHere_25 : decode cX3_kindHere 25 = .ok (.invokevirtual 109, 3) := by decide +kernel
theorem dX3_kindHere_28 : decode cX3_kindHere 28 = .ok (.ifCond .eq 5, 3) := by decide +kernel
theorem dX3_kindHere_31 : decode cX3_kindHere 31 = .ok (.iconst 2, 1) := by decide +kernel
theorem dX3_kindHere_32 : decode cX3_kindHere 32 = .ok (.ireturn, 1) := by decide +kernel
theorem dX3_kindHere_33 : decode cX3_kindHere 33 = .ok (.aload_n 0, 1) := by decide +kernel
theorem dX3_kindHere_34 : decode cX3_kindHere 34 = .ok (.ldc 118, 2) := by decide +kernel
theorem dX3_kindHere_36 : decode cX3_kindHere 36 = .ok (.invokevirtual 109, 3) := by decide +kernel
theorem dX3_kindHere_39 : decode cX3_kindHere 39 = .ok (.ifCond .eq 5, 3) := by decide +kernel
theorem dX3_kindHere_42 : decode cX3_kindHere 42 = .ok (.iconst 3, 1) := by decide +kernel
theorem dX3_kindHere_43 : decode cX3_kindHere 43 = .ok (.ireturn, 1) := by decide +kernel
theorem dX3_kindHere_44 : decode cX3_kindHere 44 = .ok (.aload_n 0, 1) := by decide +kernel
theorem dX3_kindHere_45 : decode cX3_kindHere 45 = .ok (.ldc 120, 2) := by decide +kernel
theorem dX3_kindHere_47 : decode cX3_kindHere 47 = .ok (.invokevirtual 109, 3) := by decide +kernel
theorem dX3_kindHere_50 : decode cX3_kindHere 50 = .ok (.ifCond .eq 5, 3) := by decide +kernel
theorem dX3_kindHere_53 : decode cX3_kindHere 53 = .ok (.iconst 4, 1) := by decide +kernel
theorem dX3_kindHere_54 : decode cX3_kindHere 54 = .ok (.ireturn, 1) := by decide +kernel
theorem dX3_kindHere_55 : decode cX3_kindHere 55 = .ok (.aload_n 0, 1) := by decide +kernel
theorem dX3_kindHere_56 : decode cX3_kindHere 56 = .ok (.ldc 122, 2) := by decide +kernel
theorem dX3_kindHere_58 : decode cX3_kindHere 58 = .ok (.invokevirtual 109, 3) := by decide +kernel
theorem dX3_kindHere_61 : decode cX3_kindHere 61 = .ok (.ifCond .eq 7, 3) := by decide +kernel
theorem dX3_kindHere_64 : decode cX3_kindHere 64 = .ok (.iconst 5, 1) := by decide +kernel
theorem dX3_kindHere_65 : decode cX3_kindHere 65 = .ok (.goto 4, 3) := by decide +kernel
theorem dX3_kindHere_68 : decode cX3_kindHere 68 = .ok (.iconst (-1), 1) := by decide +kernel
theorem dX3_kindHere_69 : decode cX3_kindHere 69 = .ok (.ireturn, 1) := by decide +kernel
theorem dX3_isWord_0 : decode cX3_isWord 0 = .ok (.aload_n 0, 1) := by decide +kernel
theorem dX3_isWord_1 : decode cX3_isWord 1 = .ok (.getfield 48, 3) := by decide +kernel
theorem dX3_isWord_4 : decode cX3_isWord 4 = .ok (.iconst 1, 1) := by decide +kernel
theorem dX3_isWord_5 : decode cX3_isWord 5 = .ok (.if_icmp .ne 19, 3) := by decide +kernel
theorem dX3_isWord_8 : decode cX3_isWord 8 = .ok (.aload_n 0, 1) := by decide +kernel
theorem dX3_isWord_9 : decode cX3_isWord 9 = .ok (.getfield 38, 3) := by decide +kernel
theorem dX3_isWord_12 : decode cX3_isWord 12 = .ok (.aload_n 0, 1) := by decide +kernel
theorem dX3_isWord_13 : decode cX3_isWord 13 = .ok (.getfield 101, 3) := by decide +kernel
theorem dX3_isWord_16 : decode cX3_isWord 16 = .ok (.isub, 1) := by decide +kernel
theorem dX3_isWord_17 : decode cX3_isWord 17 = .ok (.aload_n 1, 1) := by decide +kernel
theorem dX3_isWord_18 : decode cX3_isWord 18 = .ok (.invokevirtual 124, 3) := by decide +kernel
theorem dX3_isWord_21 : decode cX3_isWord 21 = .ok (.if_icmp .eq 5, 3) := by decide +kernel
theorem dX3_isWord_24 : decode cX3_isWord 24 = .ok (.iconst 0, 1) := by decide +kernel
theorem dX3_isWord_25 : decode cX3_isWord 25 = .ok (.ireturn, 1) := by decide +kernel
theorem dX3_isWord_26 : decode cX3_isWord 26 = .ok (.iconst 0, 1) := by decide +kernel
theorem dX3_isWord_27 : decode cX3_isWord 27 = .ok (.istore_n 2, 1) := by decide +kernel
theorem dX3_isWord_28 : decode cX3_isWord 28 = .ok (.iload_n 2, 1) := by decide +kernel
theorem dX3_isWord_29 : decode cX3_isWord 29 = .ok (.aload_n 1, 1) := by decide +kernel
theorem dX3_isWord_30 : decode cX3_isWord 30 = .ok (.invokevirtual 124, 3) := by decide +kernel
theorem dX3_isWord_33 : decode cX3_isWord 33 = .ok (.if_icmp .ge 33, 3) := by decide +kernel
theorem dX3_isWord_36 : decode cX3_isWord 36 = .ok (.aload_n 0, 1) := by decide +kernel
theorem dX3_isWord_37 : decode cX3_isWord 37 = .ok (.getfield 18, 3) := by decide +kernel
theorem dX3_isWord_40 : decode cX3_isWord 40 = .ok (.getfield 103, 3) := by decide +kernel
theorem dX3_isWord_43 : decode cX3_isWord 43 = .ok (.aload_n 0, 1) := by decide +kernel
theorem dX3_isWord_44 : decode cX3_isWord 44 = .ok (.getfield 101, 3) := by decide +kernel
theorem dX3_isWord_47 : decode cX3_isWord 47 = .ok (.iload_n 2, 1) := by decide +kernel
theorem dX3_isWord_48 : decode cX3_isWord 48 = .ok (.iadd, 1) := by decide +kernel
theorem dX3_isWord_49 : decode cX3_isWord 49 = .ok (.iaload, 1) := by decide +kernel
theorem dX3_isWord_50 : decode cX3_isWord 50 = .ok (.aload_n 1, 1) := by decide +kernel
theorem dX3_isWord_51 : decode cX3_isWord 51 = .ok (.iload_n 2, 1) := by decide +kernel
theorem dX3_isWord_52 : decode cX3_isWord 52 = .ok (.invokevirtual 129, 3) := by decide +kernel
theorem dX3_isWord_55 : decode cX3_isWord 55 = .ok (.if_icmp .eq 5, 3) := by decide +kernel
theorem dX3_isWord_58 : decode cX3_isWord 58 = .ok (.iconst 0, 1) := by decide +kernel
theorem dX3_isWord_59 : decode cX3_isWord 59 = .ok (.ireturn, 1) := by decide +kernel
theorem dX3_isWord_60 : decode cX3_isWord 60 = .ok (.iinc 2 1, 3) := by decide +kernel
theorem dX3_isWord_63 : decode cX3_isWord 63 = .ok (.goto (-35), 3) := by decide +kernel
theorem dX3_isWord_66 : decode cX3_isWord 66 = .ok (.iconst 1, 1) := by decide +kernel
theorem dX3_isWord_67 : decode cX3_isWord 67 = .ok (.ireturn, 1) := by decide +kernel
theorem dX3_fail_0 : decode cX3_fail 0 = .ok (.aload_n 0, 1) := by decide +kernel
theorem dX3_fail_1 : decode cX3_fail 1 = .ok (.iload_n 1, 1) := by decide +kernel
theorem dX3_fail_2 : decode cX3_fail 2 = .ok (.putfield 26, 3) := by decide +kernel
theorem dX3_fail_5 : decode cX3_fail 5 = .ok (.aload_n 0, 1) := by decide +kernel
theorem dX3_fail_6 : decode cX3_fail 6 = .ok (.aload_n 0, 1) := by decide +kernel
theorem dX3_fail_7 : decode cX3_fail 7 = .ok (.getfield 101, 3) := by decide +kernel
theorem dX3_fail_10 : decode cX3_fail 10 = .ok (.putfield 29, 3) := by decide +kernel
theorem dX3_fail_13 : decode cX3_fail 13 = .ok (.iconst 0, 1) := by decide +kernel
theorem dX3_fail_14 : decode cX3_fail 14 = .ok (.ireturn, 1) := by decide +kernel
theorem dX3_advance_0 : decode cX3_advance 0 = .ok (.aload_n 0, 1) := by decide +kernel
theorem dX3_advance_1 : decode cX3_advance 1 = .ok (.aload_n 0, 1) := by decide +kernel
theorem dX3_advance_2 : decode cX3_advance 2 = .ok (.getfield 38, 3) := by decide +kernel
theorem dX3_advance_5 : decode cX3_advance 5 = .ok (.putfield 101, 3) := by decide +kernel
theorem dX3_advance_8 : decode cX3_advance 8 = .ok (.aload_n 0, 1) := by decide +kernel
theorem dX3_advance_9 : decode cX3_advance 9 = .ok (.getfield 101, 3) := by decide +kernel
theorem dX3_advance_12 : decode cX3_advance 12 = .ok (.aload_n 0, 1) := by decide +kernel
theorem dX3_advance_13 : decode cX3_advance 13 = .ok (.getfield 32, 3) := by decide +kernel
theorem dX3_advance_16 : decode cX3_advance 16 = .ok (.if_icmp .ge 33, 3) := by decide +kernel
theorem dX3_advance_19 : decode cX3_advance 19 = .ok (.aload_n 0, 1) := by decide +kernel
theorem dX3_advance_20 : decode cX3_advance 20 = .ok (.getfield 18, 3) := by decide +kernel
theorem dX3_advance_23 : decode cX3_advance 23 = .ok (.getfield 103, 3) := by decide +kernel
theorem dX3_advance_26 : decode cX3_advance 26 = .ok (.aload_n 0, 1) := by decide +kernel
theorem dX3_advance_27 : decode cX3_advance 27 = .ok (.getfield 101, 3) := by decide +kernel
theorem dX3_advance_30 : decode cX3_advance 30 = .ok (.iaload, 1) := by decide +kernel
theorem dX3_advance_31 : decode cX3_advance 31 = .ok (.bipush 32, 2) := by decide +kernel
theorem dX3_advance_33 : decode cX3_advance 33 = .ok (.if_icmp .ne 16, 3) := by decide +kernel
theorem dX3_advance_36 : decode cX3_advance 36 = .ok (.aload_n 0, 1) := by decide +kernel
theorem dX3_advance_37 : decode cX3_advance 37 = .ok (.dup, 1) := by decide +kernel
theorem dX3_advance_38 : decode cX3_advance 38 = .ok (.getfield 101, 3) := by decide +kernel
theorem dX3_advance_41 : decode cX3_advance 41 = .ok (.iconst 1, 1) := by decide +kernel
theorem dX3_advance_42 : decode cX3_advance 42 = .ok (.iadd, 1) := by decide +kernel
theorem dX3_advance_43 : decode cX3_advance 43 = .ok (.putfield 101, 3) := by decide +kernel
theorem dX3_advance_46 : decode cX3_advance 46 = .ok (.goto (-38), 3) := by decide +kernel
theorem dX3_advance_49 : decode cX3_advance 49 = .ok (.aload_n 0, 1) := by decide +kernel
theorem dX3_advance_50 : decode cX3_advance 50 = .ok (.aload_n 0, 1) := by decide +kernel
theorem dX3_advance_51 : decode cX3_advance 51 = .ok (.getfield 101, 3) := by decide +kernel
theorem dX3_advance_54 : decode cX3_advance 54 = .ok (.invokevirtual 133, 3) := by decide +kernel
theorem dX3_advance_57 : decode cX3_advance 57 = .ok (.istore_n 1, 1) := by decide +kernel
theorem dX3_advance_58 : decode cX3_advance 58 = .ok (.iload_n 1, 1) := by decide +kernel
theorem dX3_advance_59 : decode cX3_advance 59 = .ok (.iconst 1, 1) := by decide +kernel
theorem dX3_advance_60 : decode cX3_advance 60 = .ok (.if_icmp .ne 8, 3) := by decide +kernel
theorem dX3_advance_63 : decode cX3_advance 63 = .ok (.bipush 8, 2) := by decide +kernel
theorem dX3_advance_65 : decode cX3_advance 65 = .ok (.goto 13, 3) := by decide +kernel
theorem dX3_advance_68 : decode cX3_advance 68 = .ok (.iload_n 1, 1) := by decide +kernel
theorem dX3_advance_69 : decode cX3_advance 69 = .ok (.iconst 2, 1) := by decide +kernel
theorem dX3_advance_70 : decode cX3_advance 70 = .ok (.if_icmp .ne 7, 3) := by decide +kernel
theorem dX3_advance_73 : decode cX3_advance 73 = .ok (.iconst 2, 1) := by decide +kernel
theorem dX3_advance_74 : decode cX3_advance 74 = .ok (.goto 4, 3) := by decide +kernel
theorem dX3_advance_77 : decode cX3_advance 77 = .ok (.iconst 1, 1) := by decide +kernel
theorem dX3_advance_78 : decode cX3_advance 78 = .ok (.istore_n 2, 1) := by decide +kernel
theorem dX3_advance_79 : decode cX3_advance 79 = .ok (.aload_n 0, 1) := by decide +kernel
theorem dX3_advance_80 : decode cX3_advance 80 = .ok (.iload_n 1, 1) := by decide +kernel
theorem dX3_advance_81 : decode cX3_advance 81 = .ok (.ifCond .ne 10, 3) := by decide +kernel
theorem dX3_advance_84 : decode cX3_advance 84 = .ok (.aload_n 0, 1) := by decide +kernel
theorem dX3_advance_85 : decode cX3_advance 85 = .ok (.getfield 101, 3) := by decide +kernel
theorem dX3_advance_88 : decode cX3_advance 88 = .ok (.goto 9, 3) := by decide +kernel
theorem dX3_advance_91 : decode cX3_advance 91 = .ok (.aload_n 0, 1) := by decide +kernel
theorem dX3_advance_92 : decode cX3_advance 92 = .ok (.getfield 101, 3) := by decide +kernel
theorem dX3_advance_95 : decode cX3_advance 95 = .ok (.iconst 1, 1) := by decide +kernel
theorem dX3_advance_96 : decode cX3_advance 96 = .ok (.iadd, 1) := by decide +kernel
theorem dX3_advance_97 : decode cX3_advance 97 = .ok (.putfield 38, 3) := by decide +kernel
theorem dX3_advance_100 : decode cX3_advance 100 = .ok (.iload_n 2, 1) := by decide +kernel
theorem dX3_advance_101 : decode cX3_advance 101 = .ok (.iconst 1, 1) := by decide +kernel
theorem dX3_advance_102 : decode cX3_advance 102 = .ok (.if_icmp .le 39, 3) := by decide +kernel
theorem dX3_advance_105 : decode cX3_advance 105 = .ok (.aload_n 0, 1) := by decide +kernel
theorem dX3_advance_106 : decode cX3_advance 106 = .ok (.getfield 38, 3) := by decide +kernel
theorem dX3_advance_109 : decode cX3_advance 109 = .ok (.aload_n 0, 1) := by decide +kernel
theorem dX3_advance_110 : decode cX3_advance 110 = .ok (.getfield 32, 3) := by decide +kernel
theorem dX3_advance_113 : decode cX3_advance 113 = .ok (.if_icmp .ge 28, 3) := by decide +kernel
theorem dX3_advance_116 : decode cX3_advance 116 = .ok (.aload_n 0, 1) := by decide +kernel
theorem dX3_advance_117 : decode cX3_advance 117 = .ok (.aload_n 0, 1) := by decide +kernel
theorem dX3_advance_118 : decode cX3_advance 118 = .ok (.getfield 38, 3) := by decide +kernel
theorem dX3_advance_121 : decode cX3_advance 121 = .ok (.invokevirtual 133, 3) := by decide +kernel
theorem dX3_advance_124 : decode cX3_advance 124 = .ok (.iload_n 1, 1) := by decide +kernel
theorem dX3_advance_125 : decode cX3_advance 125 = .ok (.if_icmp .ne 16, 3) := by decide +kernel
theorem dX3_advance_128 : decode cX3_advance 128 = .ok (.aload_n 0, 1) := by decide +kernel
theorem dX3_advance_129 : decode cX3_advance 129 = .ok (.dup, 1) := by decide +kernel
theorem dX3_advance_130 : decode cX3_advance 130 = .ok (.getfield 38, 3) := by decide +kernel
theorem dX3_advance_133 : decode cX3_advance 133 = .ok (.iconst 1, 1) := by decide +kernel
theorem dX3_advance_134 : decode cX3_advance 134 = .ok (.iadd, 1) := by decide +kernel
theorem dX3_advance_135 : decode cX3_advance 135 = .ok (.putfield 38, 3) := by decide +kernel
theorem dX3_advance_138 : decode cX3_advance 138 = .ok (.goto (-38), 3) := by decide +kernel
theorem dX3_advance_141 : decode cX3_advance 141 = .ok (.aload_n 0, 1) := by decide +kernel
theorem dX3_advance_142 : decode cX3_advance 142 = .ok (.aload_n 0, 1) := by decide +kernel
theorem dX3_advance_143 : decode cX3_advance 143 = .ok (.getfield 38, 3) := by decide +kernel
theorem dX3_advance_146 : decode cX3_advance 146 = .ok (.aload_n 0, 1) := by decide +kernel
theorem dX3_advance_147 : decode cX3_advance 147 = .ok (.getfield 101, 3) := by decide +kernel
theorem dX3_advance_150 : decode cX3_advance 150 = .ok (.isub, 1) := by decide +kernel
theorem dX3_advance_151 : decode cX3_advance 151 = .ok (.iload_n 2, 1) := by decide +kernel
theorem dX3_advance_152 : decode cX3_advance 152 = .ok (.if_icmp .gt 7, 3) := by decide +kernel
theorem dX3_advance_155 : decode cX3_advance 155 = .ok (.iload_n 1, 1) := by decide +kernel
theorem dX3_advance_156 : decode cX3_advance 156 = .ok (.goto 4, 3) := by decide +kernel
theorem dX3_advance_159 : decode cX3_advance 159 = .ok (.iconst 5, 1) := by decide +kernel
theorem dX3_advance_160 : decode cX3_advance 160 = .ok (.putfield 48, 3) := by decide +kernel
theorem dX3_advance_163 : decode cX3_advance 163 = .ok (.return_, 1) := by decide +kernel
theorem dX3_signAt_0 : decode cX3_signAt 0 = .ok (.iload_n 1, 1) := by decide +kernel
theorem dX3_signAt_1 : decode cX3_signAt 1 = .ok (.aload_n 0, 1) := by decide +kernel
theorem dX3_signAt_2 : decode cX3_signAt 2 = .ok (.getfield 32, 3) := by decide +kernel
theorem dX3_signAt_5 : decode cX3_signAt 5 = .ok (.if_icmp .lt 5, 3) := by decide +kernel
theorem dX3_signAt_8 : decode cX3_signAt 8 = .ok (.iconst 0, 1) := by decide +kernel
theorem dX3_signAt_9 : decode cX3_signAt 9 = .ok (.ireturn, 1) := by decide +kernel
theorem dX3_signAt_10 : decode cX3_signAt 10 = .ok (.aload_n 0, 1) := by decide +kernel
theorem dX3_signAt_11 : decode cX3_signAt 11 = .ok (.getfield 18, 3) := by decide +kernel
theorem dX3_signAt_14 : decode cX3_signAt 14 = .ok (.getfield 103, 3) := by decide +kernel
theorem dX3_signAt_17 : decode cX3_signAt 17 = .ok (.iload_n 1, 1) := by decide +kernel
theorem dX3_signAt_18 : decode cX3_signAt 18 = .ok (.iaload, 1) := by decide +kernel
theorem dX3_signAt_19 : decode cX3_signAt 19 = .ok (.istore_n 2, 1) := by decide +kernel
theorem dX3_signAt_20 : decode cX3_signAt 20 = .ok (.iload_n 2, 1) := by decide +kernel
theorem dX3_signAt_21 : decode cX3_signAt 21 = .ok (.bipush 97, 2) := by decide +kernel
theorem dX3_signAt_23 : decode cX3_signAt 23 = .ok (.if_icmp .lt 11, 3) := by decide +kernel
theorem dX3_signAt_26 : decode cX3_signAt 26 = .ok (.iload_n 2, 1) := by decide +kernel
theorem dX3_signAt_27 : decode cX3_signAt 27 = .ok (.bipush 122, 2) := by decide +kernel
theorem dX3_signAt_29 : decode cX3_signAt 29 = .ok (.if_icmp .gt 5, 3) := by decide +kernel
theorem dX3_signAt_32 : decode cX3_signAt 32 = .ok (.iconst 1, 1) := by decide +kernel
theorem dX3_signAt_33 : decode cX3_signAt 33 = .ok (.ireturn, 1) := by decide +kernel
theorem dX3_signAt_34 : decode cX3_signAt 34 = .ok (.iload_n 2, 1) := by decide +kernel
theorem dX3_signAt_35 : decode cX3_signAt 35 = .ok (.bipush 48, 2) := by decide +kernel
theorem dX3_signAt_37 : decode cX3_signAt 37 = .ok (.if_icmp .lt 11, 3) := by decide +kernel
theorem dX3_signAt_40 : decode cX3_signAt 40 = .ok (.iload_n 2, 1) := by decide +kernel
theorem dX3_signAt_41 : decode cX3_signAt 41 = .ok (.bipush 57, 2) := by decide +kernel
theorem dX3_signAt_43 : decode cX3_signAt 43 = .ok (.if_icmp .gt 5, 3) := by decide +kernel
theorem dX3_signAt_46 : decode cX3_signAt 46 = .ok (.iconst 2, 1) := by decide +kernel
theorem dX3_signAt_47 : decode cX3_signAt 47 = .ok (.ireturn, 1) := by decide +kernel
theorem dX3_signAt_48 : decode cX3_signAt 48 = .ok (.iload_n 2, 1) := by decide +kernel
theorem dX3_signAt_49 : decode cX3_signAt 49 = .ok (.bipush 44, 2) := by decide +kernel
theorem dX3_signAt_51 : decode cX3_signAt 51 = .ok (.if_icmp .ne 7, 3) := by decide +kernel
theorem dX3_signAt_54 : decode cX3_signAt 54 = .ok (.iconst 3, 1) := by decide +kernel
theorem dX3_signAt_55 : decode cX3_signAt 55 = .ok (.goto 14, 3) := by decide +kernel
theorem dX3_signAt_58 : decode cX3_signAt 58 = .ok (.iload_n 2, 1) := by decide +kernel
theorem dX3_signAt_59 : decode cX3_signAt 59 = .ok (.bipush 59, 2) := by decide +kernel
theorem dX3_signAt_61 : decode cX3_signAt 61 = .ok (.if_icmp .ne 7, 3) := by decide +kernel
theorem dX3_signAt_64 : decode cX3_signAt 64 = .ok (.iconst 4, 1) := by decide +kernel
theorem dX3_signAt_65 : decode cX3_signAt 65 = .ok (.goto 4, 3) := by decide +kernel
theorem dX3_signAt_68 : decode cX3_signAt 68 = .ok (.iconst 5, 1) := by decide +kernel
theorem dX3_signAt_69 : decode cX3_signAt 69 = .ok (.ireturn, 1) := by decide +kernel
theorem dX4_init_0 : decode cX4_init 0 = .ok (.aload_n 0, 1) := by decide +kernel
theorem dX4_init_1 : decode cX4_init 1 = .ok (.invokespecial 3, 3) := by decide +kernel
theorem dX4_init_4 : decode cX4_init 4 = .ok (.aload_n 0, 1) := by decide +kernel
theorem dX4_init_5 : decode cX4_init 5 = .ok (.bipush 10, 2) := by decide +kernel
theorem dX4_init_7 : decode cX4_init 7 = .ok (.newarray .int, 2) := by decide +kernel
theorem dX4_init_9 : decode cX4_init 9 = .ok (.putfield 9, 3) := by decide +kernel
theorem dX4_init_12 : decode cX4_init 12 = .ok (.aload_n 0, 1) := by decide +kernel
theorem dX4_init_13 : decode cX4_init 13 = .ok (.bipush 16, 2) := by decide +kernel
theorem dX4_init_15 : decode cX4_init 15 = .ok (.newarray .int, 2) := by decide +kernel
theorem dX4_init_17 : decode cX4_init 17 = .ok (.putfield 15, 3) := by decide +kernel
theorem dX4_init_20 : decode cX4_init 20 = .ok (.aload_n 0, 1) := by decide +kernel
theorem dX4_init_21 : decode cX4_init 21 = .ok (.bipush 10, 2) := by decide +kernel
theorem dX4_init_23 : decode cX4_init 23 = .ok (.newarray .int, 2) := by decide +kernel
theorem dX4_init_25 : decode cX4_init 25 = .ok (.putfield 18, 3) := by decide +kernel
theorem dX4_init_28 : decode cX4_init 28 = .ok (.aload_n 0, 1) := by decide +kernel
theorem dX4_init_29 : decode cX4_init 29 = .ok (.bipush 10, 2) := by decide +kernel
theorem dX4_init_31 : decode cX4_init 31 = .ok (.newarray .int, 2) := by decide +kernel
theorem dX4_init_33 : decode cX4_init 33 = .ok (.putfield 21, 3) := by decide +kernel
theorem dX4_init_36 : decode cX4_init 36 = .ok (.aload_n 0, 1) := by decide +kernel
theorem dX4_init_37 : decode cX4_init 37 = .ok (.aload_n 1, 1) := by decide +kernel
theorem dX4_init_38 : decode cX4_init 38 = .ok (.putfield 24, 3) := by decide +kernel
theorem dX4_init_41 : decode cX4_init 41 = .ok (.aload_n 0, 1) := by decide +kernel
theorem dX4_init_42 : decode cX4_init 42 = .ok (.aload_n 2, 1) := by decide +kernel
theorem dX4_init_43 : decode cX4_init 43 = .ok (.putfield 28, 3) := by decide +kernel
theorem dX4_init_46 : decode cX4_init 46 = .ok (.aload_n 0, 1) := by decide +kernel
theorem dX4_init_47 : decode cX4_init 47 = .ok (.aload_n 3, 1) := by decide +kernel
theorem dX4_init_48 : decode cX4_init 48 = .ok (.putfield 32, 3) := by decide +kernel
theorem dX4_init_51 : decode cX4_init 51 = .ok (.return_, 1) := by decide +kernel
theorem dX4_misusesWithTurned_0 : decode cX4_misusesWithTurned 0 = .ok (.aload_n 0, 1) := by decide +kernel
theorem dX4_misusesWithTurned_1 : decode cX4_misusesWithTurned 1 = .ok (.invokevirtual 36, 3) := by decide +kernel
theorem dX4_misusesWithTurned_4 : decode cX4_misusesWithTurned 4 = .ok (.aload_n 0, 1) := by decide +kernel
theorem dX4_misusesWithTurned_5 : decode cX4_misusesWithTurned 5 = .ok (.getfield 9, 3) := by decide +kernel
theorem dX4_misusesWithTurned_8 : decode cX4_misusesWithTurned 8 = .ok (.iload_n 1, 1) := by decide +kernel
theorem dX4_misusesWithTurned_9 : decode cX4_misusesWithTurned 9 = .ok (.dup2, 1) := by decide +kernel
theorem dX4_misusesWithTurned_10 : decode cX4_misusesWithTurned 10 = .ok (.iaload, 1) := by decide +kernel
theorem dX4_misusesWithTurned_11 : decode cX4_misusesWithTurned 11 = .ok (.iconst 1, 1) := by decide +kernel
theorem dX4_misusesWithTurned_12 : decode cX4_misusesWithTurned 12 = .ok (.iload_n 2, 1) := by decide +kernel
theorem dX4_misusesWithTurned_13 : decode cX4_misusesWithTurned 13 = .ok (.ishl, 1) := by decide +kernel
theorem dX4_misusesWithTurned_14 : decode cX4_misusesWithTurned 14 = .ok (.ixor, 1) := by decide +kernel
theorem dX4_misusesWithTurned_15 : decode cX4_misusesWithTurned 15 = .ok (.iastore, 1) := by decide +kernel
theorem dX4_misusesWithTurned_16 : decode cX4_misusesWithTurned 16 = .ok (.aload_n 0, 1) := by decide +kernel
theorem dX4_misusesWithTurned_17 : decode cX4_misusesWithTurned 17 = .ok (.getfield 32, 3) := by decide +kernel
theorem dX4_misusesWithTurned_20 : decode cX4_misusesWithTurned 20 = .ok (.aload_n 0, 1) := by decide +kernel
theorem dX4_misusesWithTurned_21 : decode cX4_misusesWithTurned 21 = .ok (.getfield 9, 3) := by decide +kernel
theorem dX4_misusesWithTurned_24 : decode cX4_misusesWithTurned 24 = .ok (.invokevirtual 39, 3) := by decide +kernel
theorem dX4_misusesWithTurned_27 : decode cX4_misusesWithTurned 27 = .ok (.aload_n 0, 1) := by decide +kernel
theorem dX4_misusesWithTurned_28 : decode cX4_misusesWithTurned 28 = .ok (.getfield 32, 3) := by decide +kernel
theorem dX4_misusesWithTurned_31 : decode cX4_misusesWithTurned 31 = .ok (.invokevirtual 45, 3) := by decide +kernel
theorem dX4_misusesWithTurned_34 : decode cX4_misusesWithTurned 34 = .ok (.ireturn, 1) := by decide +kernel
theorem dX4_startTrial_0 : decode cX4_startTrial 0 = .ok (.aload_n 0, 1) := by decide +kernel
theorem dX4_startTrial_1 : decode cX4_startTrial 1 = .ok (.getfield 24, 3) := by decide +kernel
theorem dX4_startTrial_4 : decode cX4_startTrial 4 = .ok (.getfield 49, 3) := by decide +kernel
theorem dX4_startTrial_7 : decode cX4_startTrial 7 = .ok (.iconst 0, 1) := by decide +kernel
theorem dX4_startTrial_8 : decode cX4_startTrial 8 = .ok (.aload_n 0, 1) := by decide +kernel
theorem dX4_startTrial_9 : decode cX4_startTrial 9 = .ok (.getfield 9, 3) := by decide +kernel
theorem dX4_startTrial_12 : decode cX4_startTrial 12 = .ok (.iconst 0, 1) := by decide +kernel
theorem dX4_startTrial_13 : decode cX4_startTrial 13 = .ok (.bipush 10, 2) := by decide +kernel
theorem dX4_startTrial_15 : decode cX4_startTrial 15 = .ok (.invokestatic 54, 3) := by decide +kernel
theorem dX4_startTrial_18 : decode cX4_startTrial 18 = .ok (.return_, 1) := by decide +kernel
theorem dX4_bestSingle_0 : decode cX4_bestSingle 0 = .ok (.iload_n 1, 1) := by decide +kernel
theorem dX4_bestSingle_1 : decode cX4_bestSingle 1 = .ok (.istore_n 2, 1) := by decide +kernel
theorem dX4_bestSingle_2 : decode cX4_bestSingle 2 = .ok (.bipush (-2), 2) := by decide +kernel
theorem dX4_bestSingle_4 : decode cX4_bestSingle 4 = .ok (.istore_n 3, 1) := by decide +kernel
theorem dX4_bestSingle_5 : decode cX4_bestSingle 5 = .ok (.iconst 0, 1) := by decide +kernel
theorem dX4_bestSingle_6 : decode cX4_bestSingle 6 = .ok (.istore 4, 2) := by decide +kernel
theorem dX4_bestSingle_8 : decode cX4_bestSingle 8 = .ok (.iload 4, 2) := by decide +kernel
theorem dX4_bestSingle_10 : decode cX4_bestSingle 10 = .ok (.aload_n 0, 1) := by decide +kernel
theorem dX4_bestSingle_11 : decode cX4_bestSingle 11 = .ok (.getfield 24, 3) := by decide +kernel
theorem dX4_bestSingle_14 : decode cX4_bestSingle 14 = .ok (.getfield 60, 3) := by decide +kernel
theorem dX4_bestSingle_17 : decode cX4_bestSingle 17 = .ok (.if_icmp .ge 94, 3) := by decide +kernel
theorem dX4_bestSingle_20 : decode cX4_bestSingle 20 = .ok (.aload_n 0, 1) := by decide +kernel
theorem dX4_bestSingle_21 : decode cX4_bestSingle 21 = .ok (.getfield 24, 3) := by decide +kernel
theorem dX4_bestSingle_24 : decode cX4_bestSingle 24 = .ok (.getfield 49, 3) := by decide +kernel
theorem dX4_bestSingle_27 : decode cX4_bestSingle 27 = .ok (.iload 4, 2) := by decide +kernel
theorem dX4_bestSingle_29 : decode cX4_bestSingle 29 = .ok (.iaload, 1) := by decide +kernel
theorem dX4_bestSingle_30 : decode cX4_bestSingle 30 = .ok (.aload_n 0, 1) := by decide +kernel
theorem dX4_bestSingle_31 : decode cX4_bestSingle 31 = .ok (.getfield 28, 3) := by decide +kernel
theorem dX4_bestSingle_34 : decode cX4_bestSingle 34 = .ok (.iload 4, 2) := by decide +kernel
theorem dX4_bestSingle_36 : decode cX4_bestSingle 36 = .ok (.invokevirtual 64, 3) := by decide +kernel
theorem dX4_bestSingle_39 : decode cX4_bestSingle 39 = .ok (.iand, 1) := by decide +kernel
theorem dX4_bestSingle_40 : decode cX4_bestSingle 40 = .ok (.istore 5, 2) := by decide +kernel
theorem dX4_bestSingle_42 : decode cX4_bestSingle 42 = .ok (.iconst 0, 1) := by decide +kernel
theorem dX4_bestSingle_43 : decode cX4_bestSingle 43 = .ok (.istore 6, 2) := by decide +kernel
theorem dX4_bestSingle_45 : decode cX4_bestSingle 45 = .ok (.iload 6, 2) := by decide +kernel
theorem dX4_bestSingle_47 : decode cX4_bestSingle 47 = .ok (.bipush 16, 2) := by decide +kernel
theorem dX4_bestSingle_49 : decode cX4_bestSingle 49 = .ok (.if_icmp .ge 56, 3) := by decide +kernel
theorem dX4_bestSingle_52 : decode cX4_bestSingle 52 = .ok (.iload 5, 2) := by decide +kernel
theorem dX4_bestSingle_54 : decode cX4_bestSingle 54 = .ok (.ifCond .eq 51, 3) := by decide +kernel
theorem dX4_bestSingle_57 : decode cX4_bestSingle 57 = .ok (.iload 5, 2) := by decide +kernel
theorem dX4_bestSingle_59 : decode cX4_bestSingle 59 = .ok (.iload 6, 2) := by decide +kernel
theorem dX4_bestSingle_61 : decode cX4_bestSingle 61 = .ok (.invokestatic 70, 3) := by decide +kernel
theorem dX4_bestSingle_64 : decode cX4_bestSingle 64 = .ok (.ifCond .eq 14, 3) := by decide +kernel
theorem dX4_bestSingle_67 : decode cX4_bestSingle 67 = .ok (.aload_n 0, 1) := by decide +kernel
theorem dX4_bestSingle_68 : decode cX4_bestSingle 68 = .ok (.iload 4, 2) := by decide +kernel
theorem dX4_bestSingle_70 : decode cX4_bestSingle 70 = .ok (.iload 6, 2) := by decide +kernel
theorem dX4_bestSingle_72 : decode cX4_bestSingle 72 = .ok (.invokevirtual 74, 3) := by decide +kernel
theorem dX4_bestSingle_75 : decode cX4_bestSingle 75 = .ok (.goto 4, 3) := by decide +kernel
theorem dX4_bestSingle_78 : decode cX4_bestSingle 78 = .ok (.iload_n 1, 1) := by decide +kernel
theorem dX4_bestSingle_79 : decode cX4_bestSingle 79 = .ok (.istore 7, 2) := by decide +kernel
theorem dX4_bestSingle_81 : decode cX4_bestSingle 81 = .ok (.iload 7, 2) := by decide +kernel
theorem dX4_bestSingle_83 : decode cX4_bestSingle 83 = .ok (.iload_n 2, 1) := by decide +kernel
theorem dX4_bestSingle_84 : decode cX4_bestSingle 84 = .ok (.if_icmp .ge 15, 3) := by decide +kernel
theorem dX4_bestSingle_87 : decode cX4_bestSingle 87 = .ok (.iload 7, 2) := by decide +kernel
theorem dX4_bestSingle_89 : decode cX4_bestSingle 89 = .ok (.istore_n 2, 1) := by decide +kernel
theorem dX4_bestSingle_90 : decode cX4_bestSingle 90 = .ok (.bipush 100, 2) := by decide +kernel
theorem dX4_bestSingle_92 : decode cX4_bestSingle 92 = .ok (.iload 4, 2) := by decide +kernel
theorem dX4_bestSingle_94 : decode cX4_bestSingle 94 = .ok (.imul, 1) := by decide +kernel
theorem dX4_bestSingle_95 : decode cX4_bestSingle 95 = .ok (.iload 6, 2) := by decide +kernel
theorem dX4_bestSingle_97 : decode cX4_bestSingle 97 = .ok (.iadd, 1) := by decide +kernel
theorem dX4_bestSingle_98 : decode cX4_bestSingle 98 = .ok (.istore_n 3, 1) := by decide +kernel
theorem dX4_bestSingle_99 : decode cX4_bestSingle 99 = .ok (.iinc 6 1, 3) := by decide +kernel
theorem dX4_bestSingle_102 : decode cX4_bestSingle 102 = .ok (.goto (-57), 3) := by decide +kernel
theorem dX4_bestSingle_105 : decode cX4_bestSingle 105 = .ok (.iinc 4 1, 3) := by decide +kernel
theorem dX4_bestSingle_108 : decode cX4_bestSingle 108 = .ok (.goto (-100), 3) := by decide +kernel
theorem dX4_bestSingle_111 : decode cX4_bestSingle 111 = .ok (.iload_n 3, 1) := by decide +kernel
theorem dX4_bestSingle_112 : decode cX4_bestSingle 112 = .ok (.ireturn, 1) := by decide +kernel
theorem dX4_gather_0 : decode cX4_gather 0 = .ok (.aload_n 0, 1) := by decide +kernel
theorem dX4_gather_1 : decode cX4_gather 1 = .ok (.iconst 0, 1) := by decide +kernel
theorem dX4_gather_2 : decode cX4_gather 2 = .ok (.putfield 78, 3) := by decide +kernel
theorem dX4_gather_5 : decode cX4_gather 5 = .ok (.iconst 0, 1) := by decide +kernel
theorem dX4_gather_6 : decode cX4_gather 6 = .ok (.istore_n 1, 1) := by decide +kernel
theorem dX4_gather_7 : decode cX4_gather 7 = .ok (.iload_n 1, 1) := by decide +kernel
theorem dX4_gather_8 : decode cX4_gather 8 = .ok (.aload_n 0, 1) := by decide +kernel
theorem dX4_gather_9 : decode cX4_gather 9 = .ok (.getfield 24, 3) := by decide +kernel
theorem dX4_gather_12 : decode cX4_gather 12 = .ok (.getfield 60, 3) := by decide +kernel
theorem dX4_gather_15 : decode cX4_gather 15 = .ok (.if_icmp .ge 86, 3) := by decide +kernel
theorem dX4_gather_18 : decode cX4_gather 18 = .ok (.aload_n 0, 1) := by decide +kernel
theorem dX4_gather_19 : decode cX4_gather 19 = .ok (.getfield 24, 3) := by decide +kernel
theorem dX4_gather_22 : decode cX4_gather 22 = .ok (.getfield 49, 3) := by decide +kernel
theorem dX4_gather_25 : decode cX4_gather 25 = .ok (.iload_n 1, 1) := by decide +kernel
theorem dX4_gather_26 : decode cX4_gather 26 = .ok (.iaload, 1) := by decide +kernel
theorem dX4_gather_27 : decode cX4_gather 27 = .ok (.aload_n 0, 1) := by decide +kernel
theorem dX4_gather_28 : decode cX4_gather 28 = .ok (.getfield 28, 3) := by decide +kernel
theorem dX4_gather_31 : decode cX4_gather 31 = .ok (.iload_n 1, 1) := by decide +kernel
theorem dX4_gather_32 : decode cX4_gather 32 = .ok (.invokevirtual 64, 3) := by decide +kernel
theorem dX4_gather_35 : decode cX4_gather 35 = .ok (.iand, 1) := by decide +kernel
theorem dX4_gather_36 : decode cX4_gather 36 = .ok (.istore_n 2, 1) := by decide +kernel
theorem dX4_gather_37 : decode cX4_gather 37 = .ok (.iconst 0, 1) := by decide +kernel
theorem dX4_gather_38 : decode cX4_gather 38 = .ok (.istore_n 3, 1) := by decide +kernel
theorem dX4_gather_39 : decode cX4_gather 39 = .ok (.iload_n 3, 1) := by decide +kernel
theorem dX4_gather_40 : decode cX4_gather 40 = .ok (.bipush 16, 2) := by decide +kernel
theorem dX4_gather_42 : decode cX4_gather 42 = .ok (.if_icmp .ge 53, 3) := by decide +kernel
theorem dX4_gather_45 : decode cX4_gather 45 = .ok (.iload_n 2, 1) := by decide +kernel
theorem dX4_gather_46 : decode cX4_gather 46 = .ok (.iload_n 3, 1) := by decide +kernel
theorem dX4_gather_47 : decode cX4_gather 47 = .ok (.invokestatic 70, 3) := by decide +kernel
theorem dX4_gather_50 : decode cX4_gather 50 = .ok (.ifCond .eq 39, 3) := by decide +kernel
theorem dX4_gather_53 : decode cX4_gather 53 = .ok (.aload_n 0, 1) := by decide +kernel
theorem dX4_gather_54 : decode cX4_gather 54 = .ok (.getfield 78, 3) := by decide +kernel
theorem dX4_gather_57 : decode cX4_gather 57 = .ok (.bipush 10, 2) := by decide +kernel
theorem dX4_gather_59 : decode cX4_gather 59 = .ok (.if_icmp .lt 5, 3) := by decide +kernel
theorem dX4_gather_62 : decode cX4_gather 62 = .ok (.iconst 0, 1) := by decide +kernel
theorem dX4_gather_63 : decode cX4_gather 63 = .ok (.ireturn, 1) := by decide +kernel
theorem dX4_gather_64 : decode cX4_gather 64 = .ok (.aload_n 0, 1) := by decide +kernel
theorem dX4_gather_65 : decode cX4_gather 65 = .ok (.getfield 18, 3) := by decide +kernel
theorem dX4_gather_68 : decode cX4_gather 68 = .ok (.aload_n 0, 1) := by decide +kernel
theorem dX4_gather_69 : decode cX4_gather 69 = .ok (.getfield 78, 3) := by decide +kernel
theorem dX4_gather_72 : decode cX4_gather 72 = .ok (.bipush 100, 2) := by decide +kernel
theorem dX4_gather_74 : decode cX4_gather 74 = .ok (.iload_n 1, 1) := by decide +kernel
theorem dX4_gather_75 : decode cX4_gather 75 = .ok (.imul, 1) := by decide +kernel
theorem dX4_gather_76 : decode cX4_gather 76 = .ok (.iload_n 3, 1) := by decide +kernel
theorem dX4_gather_77 : decode cX4_gather 77 = .ok (.iadd, 1) := by decide +kernel
theorem dX4_gather_78 : decode cX4_gather 78 = .ok (.iastore, 1) := by decide +kernel
theorem dX4_gather_79 : decode cX4_gather 79 = .ok (.aload_n 0, 1) := by decide +kernel
theorem dX4_gather_80 : decode cX4_gather 80 = .ok (.dup, 1) := by decide +kernel
theorem dX4_gather_81 : decode cX4_gather 81 = .ok (.getfield 78, 3) := by decide +kernel
theorem dX4_gather_84 : decode cX4_gather 84 = .ok (.iconst 1, 1) := by decide +kernel
theorem dX4_gather_85 : decode cX4_gather 85 = .ok (.iadd, 1) := by decide +kernel
theorem dX4_gather_86 : decode cX4_gather 86 = .ok (.putfield 78, 3) := by decide +kernel
theorem dX4_gather_89 : decode cX4_gather 89 = .ok (.iinc 3 1, 3) := by decide +kernel
theorem dX4_gather_92 : decode cX4_gather 92 = .ok (.goto (-53), 3) := by decide +kernel
theorem dX4_gather_95 : decode cX4_gather 95 = .ok (.iinc 1 1, 3) := by decide +kernel
theorem dX4_gather_98 : decode cX4_gather 98 = .ok (.goto (-91), 3) := by decide +kernel
theorem dX4_gather_101 : decode cX4_gather 101 = .ok (.iconst 1, 1) := by decide +kernel
theorem dX4_gather_102 : decode cX4_gather 102 = .ok (.ireturn, 1) := by decide +kernel
theorem dX4_search_0 : decode cX4_search 0 = .ok (.iconst 0, 1) := by decide +kernel
theorem dX4_search_1 : decode cX4_search 1 = .ok (.istore_n 1, 1) := by decide +kernel
theorem dX4_search_2 : decode cX4_search 2 = .ok (.iload_n 1, 1) := by decide +kernel
theorem dX4_search_3 : decode cX4_search 3 = .ok (.bipush 16, 2) := by decide +kernel
theorem dX4_search_5 : decode cX4_search 5 = .ok (.if_icmp .ge 34, 3) := by decide +kernel
theorem dX4_search_8 : decode cX4_search 8 = .ok (.aload_n 0, 1) := by decide +kernel
theorem dX4_search_9 : decode cX4_search 9 = .ok (.getfield 15, 3) := by decide +kernel
theorem dX4_search_12 : decode cX4_search 12 = .ok (.iload_n 1, 1) := by decide +kernel
theorem dX4_search_13 : decode cX4_search 13 = .ok (.aload_n 0, 1) := by decide +kernel
theorem dX4_search_14 : decode cX4_search 14 = .ok (.getfield 32, 3) := by decide +kernel
theorem dX4_search_17 : decode cX4_search 17 = .ok (.getfield 81, 3) := by decide +kernel
theorem dX4_search_20 : decode cX4_search 20 = .ok (.iload_n 1, 1) := by decide +kernel
theorem dX4_search_21 : decode cX4_search 21 = .ok (.iaload, 1) := by decide +kernel
theorem dX4_search_22 : decode cX4_search 22 = .ok (.aload_n 0, 1) := by decide +kernel
theorem dX4_search_23 : decode cX4_search 23 = .ok (.getfield 32, 3) := by decide +kernel
theorem dX4_search_26 : decode cX4_search 26 = .ok (.getfield 84, 3) := by decide +kernel
theorem dX4_search_29 : decode cX4_search 29 = .ok (.iload_n 1, 1) := by decide +kernel
theorem dX4_search_30 : decode cX4_search 30 = .ok (.iaload, 1) := by decide +kernel
theorem dX4_search_31 : decode cX4_search 31 = .ok (.iand, 1) := by decide +kernel
theorem dX4_search_32 : decode cX4_search 32 = .ok (.iastore, 1) := by decide +kernel
theorem dX4_search_33 : decode cX4_search 33 = .ok (.iinc 1 1, 3) := by decide +kernel
theorem dX4_search_36 : decode cX4_search 36 = .ok (.goto (-34), 3) := by decide +kernel
theorem dX4_search_39 : decode cX4_search 39 = .ok (.iconst 1, 1) := by decide +kernel
theorem dX4_search_40 : decode cX4_search 40 = .ok (.istore_n 1, 1) := by decide +kernel
theorem dX4_search_41 : decode cX4_search 41 = .ok (.iload_n 1, 1) := by decide +kernel
theorem dX4_search_42 : decode cX4_search 42 = .ok (.aload_n 0, 1) := by decide +kernel
theorem dX4_search_43 : decode cX4_search 43 = .ok (.getfield 78, 3) := by decide +kernel
theorem dX4_search_46 : decode cX4_search 46 = .ok (.if_icmp .gt 51, 3) := by decide +kernel
theorem dX4_search_49 : decode cX4_search 49 = .ok (.iconst 1, 1) := by decide +kernel
theorem dX4_search_50 : decode cX4_search 50 = .ok (.aload_n 0, 1) := by decide +kernel
theorem dX4_search_51 : decode cX4_search 51 = .ok (.getfield 78, 3) := by decide +kernel
theorem dX4_search_54 : decode cX4_search 54 = .ok (.ishl, 1) := by decide +kernel
theorem dX4_search_55 : decode cX4_search 55 = .ok (.iconst 1, 1) := by decide +kernel
theorem dX4_search_56 : decode cX4_search 56 = .ok (.isub, 1) := by decide +kernel
theorem dX4_search_57 : decode cX4_search 57 = .ok (.istore_n 2, 1) := by decide +kernel
theorem dX4_search_58 : decode cX4_search 58 = .ok (.iload_n 2, 1) := by decide +kernel
theorem dX4_search_59 : decode cX4_search 59 = .ok (.ifCond .le 32, 3) := by decide +kernel
theorem dX4_search_62 : decode cX4_search 62 = .ok (.iload_n 2, 1) := by decide +kernel
theorem dX4_search_63 : decode cX4_search 63 = .ok (.invokestatic 87, 3) := by decide +kernel
theorem dX4_search_66 : decode cX4_search 66 = .ok (.iload_n 1, 1) := by decide +kernel
theorem dX4_search_67 : decode cX4_search 67 = .ok (.if_icmp .ne 18, 3) := by decide +kernel
theorem dX4_search_70 : decode cX4_search 70 = .ok (.aload_n 0, 1) := by decide +kernel
theorem dX4_search_71 : decode cX4_search 71 = .ok (.iload_n 2, 1) := by decide +kernel
theorem dX4_search_72 : decode cX4_search 72 = .ok (.invokevirtual 92, 3) := by decide +kernel
theorem dX4_search_75 : decode cX4_search 75 = .ok (.ifCond .eq 10, 3) := by decide +kernel
theorem dX4_search_78 : decode cX4_search 78 = .ok (.aload_n 0, 1) := by decide +kernel
theorem dX4_search_79 : decode cX4_search 79 = .ok (.iload_n 2, 1) := by decide +kernel
theorem dX4_search_80 : decode cX4_search 80 = .ok (.invokevirtual 96, 3) := by decide +kernel
theorem dX4_search_83 : decode cX4_search 83 = .ok (.iconst 1, 1) := by decide +kernel
theorem dX4_search_84 : decode cX4_search 84 = .ok (.ireturn, 1) := by decide +kernel
theorem dX4_search_85 : decode cX4_search 85 = .ok (.iinc 2 (-1), 3) := by decide +kernel
theorem dX4_search_88 : decode cX4_search 88 = .ok (.goto (-30), 3) := by decide +kernel
theorem dX4_search_91 : decode cX4_search 91 = .ok (.iinc 1 1, 3) := by decide +kernel
theorem dX4_search_94 : decode cX4_search 94 = .ok (.goto (-53), 3) := by decide +kernel
theorem dX4_search_97 : decode cX4_search 97 = .ok (.iconst 0, 1) := by decide +kernel
theorem dX4_search_98 : decode cX4_search 98 = .ok (.ireturn, 1) := by decide +kernel
theorem dX4_isChosen_0 : decode cX4_isChosen 0 = .ok (.iload_n 1, 1) := by decide +kernel
theorem dX4_isChosen_1 : decode cX4_isChosen 1 = .ok (.aload_n 0, 1) := by decide +kernel
theorem dX4_isChosen_2 : decode cX4_isChosen 2 = .ok (.getfield 78, 3) := by decide +kernel
theorem dX4_isChosen_5 : decode cX4_isChosen 5 = .ok (.iconst 1, 1) := by decide +kernel
theorem dX4_isChosen_6 : decode cX4_isChosen 6 = .ok (.isub, 1) := by decide +kernel
theorem dX4_isChosen_7 : decode cX4_isChosen 7 = .ok (.iload_n 2, 1) := by decide +kernel
theorem dX4_isChosen_8 : decode cX4_isChosen 8 = .ok (.isub, 1) := by decide +kernel
theorem dX4_isChosen_9 : decode cX4_isChosen 9 = .ok (.invokestatic 70, 3) := by decide +kernel
theorem dX4_isChosen_12 : decode cX4_isChosen 12 = .ok (.ireturn, 1) := by decide +kernel
theorem dX4_isCure_0 : decode cX4_isCure 0 = .ok (.aload_n 0, 1) := by decide +kernel
theorem dX4_isCure_1 : decode cX4_isCure 1 = .ok (.invokevirtual 36, 3) := by decide +kernel
theorem dX4_isCure_4 : decode cX4_isCure 4 = .ok (.iconst 0, 1) := by decide +kernel
theorem dX4_isCure_5 : decode cX4_isCure 5 = .ok (.istore_n 2, 1) := by decide +kernel
theorem dX4_isCure_6 : decode cX4_isCure 6 = .ok (.iload_n 2, 1) := by decide +kernel
theorem dX4_isCure_7 : decode cX4_isCure 7 = .ok (.aload_n 0, 1) := by decide +kernel
theorem dX4_isCure_8 : decode cX4_isCure 8 = .ok (.getfield 78, 3) := by decide +kernel
theorem dX4_isCure_11 : decode cX4_isCure 11 = .ok (.if_icmp .ge 48, 3) := by decide +kernel
theorem dX4_isCure_14 : decode cX4_isCure 14 = .ok (.aload_n 0, 1) := by decide +kernel
theorem dX4_isCure_15 : decode cX4_isCure 15 = .ok (.iload_n 1, 1) := by decide +kernel
theorem dX4_isCure_16 : decode cX4_isCure 16 = .ok (.iload_n 2, 1) := by decide +kernel
theorem dX4_isCure_17 : decode cX4_isCure 17 = .ok (.invokevirtual 100, 3) := by decide +kernel
theorem dX4_isCure_20 : decode cX4_isCure 20 = .ok (.ifCond .eq 33, 3) := by decide +kernel
theorem dX4_isCure_23 : decode cX4_isCure 23 = .ok (.aload_n 0, 1) := by decide +kernel
theorem dX4_isCure_24 : decode cX4_isCure 24 = .ok (.getfield 9, 3) := by decide +kernel
theorem dX4_isCure_27 : decode cX4_isCure 27 = .ok (.aload_n 0, 1) := by decide +kernel
theorem dX4_isCure_28 : decode cX4_isCure 28 = .ok (.getfield 18, 3) := by decide +kernel
theorem dX4_isCure_31 : decode cX4_isCure 31 = .ok (.iload_n 2, 1) := by decide +kernel
theorem dX4_isCure_32 : decode cX4_isCure 32 = .ok (.iaload, 1) := by decide +kernel
theorem dX4_isCure_33 : decode cX4_isCure 33 = .ok (.bipush 100, 2) := by decide +kernel
theorem dX4_isCure_35 : decode cX4_isCure 35 = .ok (.idiv, 1) := by decide +kernel
theorem dX4_isCure_36 : decode cX4_isCure 36 = .ok (.dup2, 1) := by decide +kernel
theorem dX4_isCure_37 : decode cX4_isCure 37 = .ok (.iaload, 1) := by decide +kernel
theorem dX4_isCure_38 : decode cX4_isCure 38 = .ok (.iconst 1, 1) := by decide +kernel
theorem dX4_isCure_39 : decode cX4_isCure 39 = .ok (.aload_n 0, 1) := by decide +kernel
theorem dX4_isCure_40 : decode cX4_isCure 40 = .ok (.getfield 18, 3) := by decide +kernel
theorem dX4_isCure_43 : decode cX4_isCure 43 = .ok (.iload_n 2, 1) := by decide +kernel
theorem dX4_isCure_44 : decode cX4_isCure 44 = .ok (.iaload, 1) := by decide +kernel
theorem dX4_isCure_45 : decode cX4_isCure 45 = .ok (.bipush 100, 2) := by decide +kernel
theorem dX4_isCure_47 : decode cX4_isCure 47 = .ok (.irem, 1) := by decide +kernel
theorem dX4_isCure_48 : decode cX4_isCure 48 = .ok (.ishl, 1) := by decide +kernel
theorem dX4_isCure_49 : decode cX4_isCure 49 = .ok (.iconst (-1), 1) := by decide +kernel
theorem dX4_isCure_50 : decode cX4_isCure 50 = .ok (.ixor, 1) := by decide +kernel
theorem dX4_isCure_51 : decode cX4_isCure 51 = .ok (.iand, 1) := by decide +kernel
theorem dX4_isCure_52 : decode cX4_isCure 52 = .ok (.iastore, 1) := by decide +kernel
theorem dX4_isCure_53 : decode cX4_isCure 53 = .ok (.iinc 2 1, 3) := by decide +kernel
theorem dX4_isCure_56 : decode cX4_isCure 56 = .ok (.goto (-50), 3) := by decide +kernel
theorem dX4_isCure_59 : decode cX4_isCure 59 = .ok (.aload_n 0, 1) := by decide +kernel
theorem dX4_isCure_60 : decode cX4_isCure 60 = .ok (.getfield 32, 3) := by decide +kernel
theorem dX4_isCure_63 : decode cX4_isCure 63 = .ok (.aload_n 0, 1) := by decide +kernel
theorem dX4_isCure_64 : decode cX4_isCure 64 = .ok (.getfield 9, 3) := by decide +kernel
theorem dX4_isCure_67 : decode cX4_isCure 67 = .ok (.invokevirtual 39, 3) := by decide +kernel
theorem dX4_isCure_70 : decode cX4_isCure 70 = .ok (.iconst 0, 1) := by decide +kernel
theorem dX4_isCure_71 : decode cX4_isCure 71 = .ok (.istore_n 2, 1) := by decide +kernel
theorem dX4_isCure_72 : decode cX4_isCure 72 = .ok (.iload_n 2, 1) := by decide +kernel
theorem dX4_isCure_73 : decode cX4_isCure 73 = .ok (.bipush 16, 2) := by decide +kernel
theorem dX4_isCure_75 : decode cX4_isCure 75 = .ok (.if_icmp .ge 29, 3) := by decide +kernel
theorem dX4_isCure_78 : decode cX4_isCure 78 = .ok (.aload_n 0, 1) := by decide +kernel
theorem dX4_isCure_79 : decode cX4_isCure 79 = .ok (.getfield 32, 3) := by decide +kernel
theorem dX4_isCure_82 : decode cX4_isCure 82 = .ok (.getfield 81, 3) := by decide +kernel
theorem dX4_isCure_85 : decode cX4_isCure 85 = .ok (.iload_n 2, 1) := by decide +kernel
theorem dX4_isCure_86 : decode cX4_isCure 86 = .ok (.iaload, 1) := by decide +kernel
theorem dX4_isCure_87 : decode cX4_isCure 87 = .ok (.aload_n 0, 1) := by decide +kernel
theorem dX4_isCure_88 : decode cX4_isCure 88 = .ok (.getfield 15, 3) := by decide +kernel
theorem dX4_isCure_91 : decode cX4_isCure 91 = .ok (.iload_n 2, 1) := by decide +kernel
theorem dX4_isCure_92 : decode cX4_isCure 92 = .ok (.iaload, 1) := by decide +kernel
theorem dX4_isCure_93 : decode cX4_isCure 93 = .ok (.if_icmp .eq 5, 3) := by decide +kernel
theorem dX4_isCure_96 : decode cX4_isCure 96 = .ok (.iconst 0, 1) := by decide +kernel
theorem dX4_isCure_97 : decode cX4_isCure 97 = .ok (.ireturn, 1) := by decide +kernel
theorem dX4_isCure_98 : decode cX4_isCure 98 = .ok (.iinc 2 1, 3) := by decide +kernel
theorem dX4_isCure_101 : decode cX4_isCure 101 = .ok (.goto (-29), 3) := by decide +kernel
theorem dX4_isCure_104 : decode cX4_isCure 104 = .ok (.iconst 1, 1) := by decide +kernel
theorem dX4_isCure_105 : decode cX4_isCure 105 = .ok (.ireturn, 1) := by decide +kernel
theorem dX4_keep_0 : decode cX4_keep 0 = .ok (.aload_n 0, 1) := by decide +kernel
theorem dX4_keep_1 : decode cX4_keep 1 = .ok (.iconst 0, 1) := by decide +kernel
theorem dX4_keep_2 : decode cX4_keep 2 = .ok (.putfield 103, 3) := by decide +kernel
theorem dX4_keep_5 : decode cX4_keep 5 = .ok (.iconst 0, 1) := by decide +kernel
theorem dX4_keep_6 : decode cX4_keep 6 = .ok (.istore_n 2, 1) := by decide +kernel
theorem dX4_keep_7 : decode cX4_keep 7 = .ok (.iload_n 2, 1) := by decide +kernel
theorem dX4_keep_8 : decode cX4_keep 8 = .ok (.aload_n 0, 1) := by decide +kernel
theorem dX4_keep_9 : decode cX4_keep 9 = .ok (.getfield 78, 3) := by decide +kernel
theorem dX4_keep_12 : decode cX4_keep 12 = .ok (.if_icmp .ge 43, 3) := by decide +kernel
theorem dX4_keep_15 : decode cX4_keep 15 = .ok (.aload_n 0, 1) := by decide +kernel
theorem dX4_keep_16 : decode cX4_keep 16 = .ok (.iload_n 1, 1) := by decide +kernel
theorem dX4_keep_17 : decode cX4_keep 17 = .ok (.iload_n 2, 1) := by decide +kernel
theorem dX4_keep_18 : decode cX4_keep 18 = .ok (.invokevirtual 100, 3) := by decide +kernel
theorem dX4_keep_21 : decode cX4_keep 21 = .ok (.ifCond .eq 28, 3) := by decide +kernel
theorem dX4_keep_24 : decode cX4_keep 24 = .ok (.aload_n 0, 1) := by decide +kernel
theorem dX4_keep_25 : decode cX4_keep 25 = .ok (.getfield 21, 3) := by decide +kernel
theorem dX4_keep_28 : decode cX4_keep 28 = .ok (.aload_n 0, 1) := by decide +kernel
theorem dX4_keep_29 : decode cX4_keep 29 = .ok (.getfield 103, 3) := by decide +kernel
theorem dX4_keep_32 : decode cX4_keep 32 = .ok (.aload_n 0, 1) := by decide +kernel
theorem dX4_keep_33 : decode cX4_keep 33 = .ok (.getfield 18, 3) := by decide +kernel
theorem dX4_keep_36 : decode cX4_keep 36 = .ok (.iload_n 2, 1) := by decide +kernel
theorem dX4_keep_37 : decode cX4_keep 37 = .ok (.iaload, 1) := by decide +kernel
theorem dX4_keep_38 : decode cX4_keep 38 = .ok (.iastore, 1) := by decide +kernel
theorem dX4_keep_39 : decode cX4_keep 39 = .ok (.aload_n 0, 1) := by decide +kernel
theorem dX4_keep_40 : decode cX4_keep 40 = .ok (.dup, 1) := by decide +kernel
theorem dX4_keep_41 : decode cX4_keep 41 = .ok (.getfield 103, 3) := by decide +kernel
theorem dX4_keep_44 : decode cX4_keep 44 = .ok (.iconst 1, 1) := by decide +kernel
theorem dX4_keep_45 : decode cX4_keep 45 = .ok (.iadd, 1) := by decide +kernel
theorem dX4_keep_46 : decode cX4_keep 46 = .ok (.putfield 103, 3) := by decide +kernel
theorem dX4_keep_49 : decode cX4_keep 49 = .ok (.iinc 2 1, 3) := by decide +kernel
theorem dX4_keep_52 : decode cX4_keep 52 = .ok (.goto (-45), 3) := by decide +kernel
theorem dX4_keep_55 : decode cX4_keep 55 = .ok (.return_, 1) := by decide +kernel
theorem dX5_init_0 : decode cX5_init 0 = .ok (.aload_n 0, 1) := by decide +kernel
theorem dX5_init_1 : decode cX5_init 1 = .ok (.invokespecial 3, 3) := by decide +kernel
theorem dX5_init_4 : decode cX5_init 4 = .ok (.aload_n 0, 1) := by decide +kernel
theorem dX5_init_5 : decode cX5_init 5 = .ok (.bipush 12, 2) := by decide +kernel
theorem dX5_init_7 : decode cX5_init 7 = .ok (.newarray .int, 2) := by decide +kernel
theorem dX5_init_9 : decode cX5_init 9 = .ok (.putfield 9, 3) := by decide +kernel
theorem dX5_init_12 : decode cX5_init 12 = .ok (.aload_n 0, 1) := by decide +kernel
theorem dX5_init_13 : decode cX5_init 13 = .ok (.bipush 12, 2) := by decide +kernel
theorem dX5_init_15 : decode cX5_init 15 = .ok (.newarray .int, 2) := by decide +kernel
theorem dX5_init_17 : decode cX5_init 17 = .ok (.putfield 15, 3) := by decide +kernel
theorem dX5_init_20 : decode cX5_init 20 = .ok (.aload_n 0, 1) := by decide +kernel
theorem dX5_init_21 : decode cX5_init 21 = .ok (.bipush 12, 2) := by decide +kernel
theorem dX5_init_23 : decode cX5_init 23 = .ok (.newarray .int, 2) := by decide +kernel
theorem dX5_init_25 : decode cX5_init 25 = .ok (.putfield 18, 3) := by decide +kernel
theorem dX5_init_28 : decode cX5_init 28 = .ok (.aload_n 0, 1) := by decide +kernel
theorem dX5_init_29 : decode cX5_init 29 = .ok (.bipush 12, 2) := by decide +kernel
theorem dX5_init_31 : decode cX5_init 31 = .ok (.newarray .int, 2) := by decide +kernel
theorem dX5_init_33 : decode cX5_init 33 = .ok (.putfield 21, 3) := by decide +kernel
theorem dX5_init_36 : decode cX5_init 36 = .ok (.aload_n 0, 1) := by decide +kernel
theorem dX5_init_37 : decode cX5_init 37 = .ok (.bipush 12, 2) := by decide +kernel
theorem dX5_init_39 : decode cX5_init 39 = .ok (.newarray .int, 2) := by decide +kernel
theorem dX5_init_41 : decode cX5_init 41 = .ok (.putfield 24, 3) := by decide +kernel
theorem dX5_init_44 : decode cX5_init 44 = .ok (.return_, 1) := by decide +kernel
theorem dX5_has_0 : decode cX5_has 0 = .ok (.iload_n 1, 1) := by decide +kernel
theorem dX5_has_1 : decode cX5_has 1 = .ok (.ifCond .lt 15, 3) := by decide +kernel
theorem dX5_has_4 : decode cX5_has 4 = .ok (.iload_n 1, 1) := by decide +kernel
theorem dX5_has_5 : decode cX5_has 5 = .ok (.aload_n 0, 1) := by decide +kernel
theorem dX5_has_6 : decode cX5_has 6 = .ok (.getfield 27, 3) := by decide +kernel
theorem dX5_has_9 : decode cX5_has 9 = .ok (.if_icmp .ge 7, 3) := by decide +kernel
theorem dX5_has_12 : decode cX5_has 12 = .ok (.iconst 1, 1) := by decide +kernel
theorem dX5_has_13 : decode cX5_has 13 = .ok (.goto 4, 3) := by decide +kernel
theorem dX5_has_16 : decode cX5_has 16 = .ok (.iconst 0, 1) := by decide +kernel
theorem dX5_has_17 : decode cX5_has 17 = .ok (.ireturn, 1) := by decide +kernel
theorem dX5_add_0 : decode cX5_add 0 = .ok (.aload_n 0, 1) := by decide +kernel
theorem dX5_add_1 : decode cX5_add 1 = .ok (.getfield 27, 3) := by decide +kernel
theorem dX5_add_4 : decode cX5_add 4 = .ok (.bipush 12, 2) := by decide +kernel
theorem dX5_add_6 : decode cX5_add 6 = .ok (.if_icmp .lt 5, 3) := by decide +kernel
theorem dX5_add_9 : decode cX5_add 9 = .ok (.iconst 0, 1) := by decide +kernel
theorem dX5_add_10 : decode cX5_add 10 = .ok (.ireturn, 1) := by decide +kernel
theorem dX5_add_11 : decode cX5_add 11 = .ok (.aload_n 0, 1) := by decide +kernel
theorem dX5_add_12 : decode cX5_add 12 = .ok (.getfield 9, 3) := by decide +kernel
theorem dX5_add_15 : decode cX5_add 15 = .ok (.aload_n 0, 1) := by decide +kernel
theorem dX5_add_16 : decode cX5_add 16 = .ok (.getfield 27, 3) := by decide +kernel
theorem dX5_add_19 : decode cX5_add 19 = .ok (.iload_n 1, 1) := by decide +kernel
theorem dX5_add_20 : decode cX5_add 20 = .ok (.iastore, 1) := by decide +kernel
theorem dX5_add_21 : decode cX5_add 21 = .ok (.aload_n 0, 1) := by decide +kernel
theorem dX5_add_22 : decode cX5_add 22 = .ok (.getfield 15, 3) := by decide +kernel
theorem dX5_add_25 : decode cX5_add 25 = .ok (.aload_n 0, 1) := by decide +kernel
theorem dX5_add_26 : decode cX5_add 26 = .ok (.getfield 27, 3) := by decide +kernel
theorem dX5_add_29 : decode cX5_add 29 = .ok (.iload_n 2, 1) := by decide +kernel
theorem dX5_add_30 : decode cX5_add 30 = .ok (.iastore, 1) := by decide +kernel
theorem dX5_add_31 : decode cX5_add 31 = .ok (.aload_n 0, 1) := by decide +kernel
theorem dX5_add_32 : decode cX5_add 32 = .ok (.getfield 18, 3) := by decide +kernel
theorem dX5_add_35 : decode cX5_add 35 = .ok (.aload_n 0, 1) := by decide +kernel
theorem dX5_add_36 : decode cX5_add 36 = .ok (.getfield 27, 3) := by decide +kernel
theorem dX5_add_39 : decode cX5_add 39 = .ok (.iload_n 3, 1) := by decide +kernel
theorem dX5_add_40 : decode cX5_add 40 = .ok (.iastore, 1) := by decide +kernel
theorem dX5_add_41 : decode cX5_add 41 = .ok (.aload_n 0, 1) := by decide +kernel
theorem dX5_add_42 : decode cX5_add 42 = .ok (.getfield 21, 3) := by decide +kernel
theorem dX5_add_45 : decode cX5_add 45 = .ok (.aload_n 0, 1) := by decide +kernel
theorem dX5_add_46 : decode cX5_add 46 = .ok (.getfield 27, 3) := by decide +kernel
theorem dX5_add_49 : decode cX5_add 49 = .ok (.iload 4, 2) := by decide +kernel
theorem dX5_add_51 : decode cX5_add 51 = .ok (.iastore, 1) := by decide +kernel
theorem dX5_add_52 : decode cX5_add 52 = .ok (.aload_n 0, 1) := by decide +kernel
theorem dX5_add_53 : decode cX5_add 53 = .ok (.getfield 24, 3) := by decide +kernel
theorem dX5_add_56 : decode cX5_add 56 = .ok (.aload_n 0, 1) := by decide +kernel
theorem dX5_add_57 : decode cX5_add 57 = .ok (.getfield 27, 3) := by decide +kernel
theorem dX5_add_60 : decode cX5_add 60 = .ok (.iload 5, 2) := by decide +kernel
theorem dX5_add_62 : decode cX5_add 62 = .ok (.iastore, 1) := by decide +kernel
theorem dX5_add_63 : decode cX5_add 63 = .ok (.aload_n 0, 1) := by decide +kernel
theorem dX5_add_64 : decode cX5_add 64 = .ok (.dup, 1) := by decide +kernel
theorem dX5_add_65 : decode cX5_add 65 = .ok (.getfield 27, 3) := by decide +kernel
theorem dX5_add_68 : decode cX5_add 68 = .ok (.iconst 1, 1) := by decide +kernel
theorem dX5_add_69 : decode cX5_add 69 = .ok (.iadd, 1) := by decide +kernel
theorem dX5_add_70 : decode cX5_add 70 = .ok (.putfield 27, 3) := by decide +kernel
theorem dX5_add_73 : decode cX5_add 73 = .ok (.iconst 1, 1) := by decide +kernel
theorem dX5_add_74 : decode cX5_add 74 = .ok (.ireturn, 1) := by decide +kernel
theorem dX5_helpers_0 : decode cX5_helpers 0 = .ok (.iconst 0, 1) := by decide +kernel
theorem dX5_helpers_1 : decode cX5_helpers 1 = .ok (.istore_n 1, 1) := by decide +kernel
theorem dX5_helpers_2 : decode cX5_helpers 2 = .ok (.iconst 0, 1) := by decide +kernel
theorem dX5_helpers_3 : decode cX5_helpers 3 = .ok (.istore_n 2, 1) := by decide +kernel
theorem dX5_helpers_4 : decode cX5_helpers 4 = .ok (.iload_n 2, 1) := by decide +kernel
theorem dX5_helpers_5 : decode cX5_helpers 5 = .ok (.aload_n 0, 1) := by decide +kernel
theorem dX5_helpers_6 : decode cX5_helpers 6 = .ok (.getfield 27, 3) := by decide +kernel
theorem dX5_helpers_9 : decode cX5_helpers 9 = .ok (.if_icmp .ge 30, 3) := by decide +kernel
theorem dX5_helpers_12 : decode cX5_helpers 12 = .ok (.aload_n 0, 1) := by decide +kernel
theorem dX5_helpers_13 : decode cX5_helpers 13 = .ok (.getfield 9, 3) := by decide +kernel
theorem dX5_helpers_16 : decode cX5_helpers 16 = .ok (.iload_n 2, 1) := by decide +kernel
theorem dX5_helpers_17 : decode cX5_helpers 17 = .ok (.iaload, 1) := by decide +kernel
theorem dX5_helpers_18 : decode cX5_helpers 18 = .ok (.iconst 2, 1) := by decide +kernel
theorem dX5_helpers_19 : decode cX5_helpers 19 = .ok (.if_icmp .ne 14, 3) := by decide +kernel
theorem dX5_helpers_22 : decode cX5_helpers 22 = .ok (.iload_n 1, 1) := by decide +kernel
theorem dX5_helpers_23 : decode cX5_helpers 23 = .ok (.iconst 1, 1) := by decide +kernel
theorem dX5_helpers_24 : decode cX5_helpers 24 = .ok (.aload_n 0, 1) := by decide +kernel
theorem dX5_helpers_25 : decode cX5_helpers 25 = .ok (.getfield 15, 3) := by decide +kernel
theorem dX5_helpers_28 : decode cX5_helpers 28 = .ok (.iload_n 2, 1) := by decide +kernel
theorem dX5_helpers_29 : decode cX5_helpers 29 = .ok (.iaload, 1) := by decide +kernel
theorem dX5_helpers_30 : decode cX5_helpers 30 = .ok (.ishl, 1) := by decide +kernel
theorem dX5_helpers_31 : decode cX5_helpers 31 = .ok (.ior, 1) := by decide +kernel
theorem dX5_helpers_32 : decode cX5_helpers 32 = .ok (.istore_n 1, 1) := by decide +kernel
theorem dX5_helpers_33 : decode cX5_helpers 33 = .ok (.iinc 2 1, 3) := by decide +kernel
theorem dX5_helpers_36 : decode cX5_helpers 36 = .ok (.goto (-32), 3) := by decide +kernel
theorem dX5_helpers_39 : decode cX5_helpers 39 = .ok (.iload_n 1, 1) := by decide +kernel
theorem dX5_helpers_40 : decode cX5_helpers 40 = .ok (.ireturn, 1) := by decide +kernel
theorem dX5_take_0 : decode cX5_take 0 = .ok (.aload_n 1, 1) := by decide +kernel
theorem dX5_take_1 : decode cX5_take 1 = .ok (.getfield 9, 3) := by decide +kernel
theorem dX5_take_4 : decode cX5_take 4 = .ok (.iconst 0, 1) := by decide +kernel
theorem dX5_take_5 : decode cX5_take 5 = .ok (.aload_n 0, 1) := by decide +kernel
theorem dX5_take_6 : decode cX5_take 6 = .ok (.getfield 9, 3) := by decide +kernel
theorem dX5_take_9 : decode cX5_take 9 = .ok (.iconst 0, 1) := by decide +kernel
theorem dX5_take_10 : decode cX5_take 10 = .ok (.bipush 12, 2) := by decide +kernel
theorem dX5_take_12 : decode cX5_take 12 = .ok (.invokestatic 31, 3) := by decide +kernel
theorem dX5_take_15 : decode cX5_take 15 = .ok (.aload_n 1, 1) := by decide +kernel
theorem dX5_take_16 : decode cX5_take 16 = .ok (.getfield 15, 3) := by decide +kernel
theorem dX5_take_19 : decode cX5_take 19 = .ok (.iconst 0, 1) := by decide +kernel
theorem dX5_take_20 : decode cX5_take 20 = .ok (.aload_n 0, 1) := by decide +kernel
theorem dX5_take_21 : decode cX5_take 21 = .ok (.getfield 15, 3) := by decide +kernel
theorem dX5_take_24 : decode cX5_take 24 = .ok (.iconst 0, 1) := by decide +kernel
theorem dX5_take_25 : decode cX5_take 25 = .ok (.bipush 12, 2) := by decide +kernel
theorem dX5_take_27 : decode cX5_take 27 = .ok (.invokestatic 31, 3) := by decide +kernel
theorem dX5_take_30 : decode cX5_take 30 = .ok (.aload_n 1, 1) := by decide +kernel
theorem dX5_take_31 : decode cX5_take 31 = .ok (.getfield 18, 3) := by decide +kernel
theorem dX5_take_34 : decode cX5_take 34 = .ok (.iconst 0, 1) := by decide +kernel
theorem dX5_take_35 : decode cX5_take 35 = .ok (.aload_n 0, 1) := by decide +kernel
theorem dX5_take_36 : decode cX5_take 36 = .ok (.getfield 18, 3) := by decide +kernel
theorem dX5_take_39 : decode cX5_take 39 = .ok (.iconst 0, 1) := by decide +kernel
theorem dX5_take_40 : decode cX5_take 40 = .ok (.bipush 12, 2) := by decide +kernel
theorem dX5_take_42 : decode cX5_take 42 = .ok (.invokestatic 31, 3) := by decide +kernel
theorem dX5_take_45 : decode cX5_take 45 = .ok (.aload_n 1, 1) := by decide +kernel
theorem dX5_take_46 : decode cX5_take 46 = .ok (.getfield 21, 3) := by decide +kernel
theorem dX5_take_49 : decode cX5_take 49 = .ok (.iconst 0, 1) := by decide +kernel
theorem dX5_take_50 : decode cX5_take 50 = .ok (.aload_n 0, 1) := by decide +kernel
theorem dX5_take_51 : decode cX5_take 51 = .ok (.getfield 21, 3) := by decide +kernel
theorem dX5_take_54 : decode cX5_take 54 = .ok (.iconst 0, 1) := by decide +kernel
theorem dX5_take_55 : decode cX5_take 55 = .ok (.bipush 12, 2) := by decide +kernel
theorem dX5_take_57 : decode cX5_take 57 = .ok (.invokestatic 31, 3) := by decide +kernel
theorem dX5_take_60 : decode cX5_take 60 = .ok (.aload_n 1, 1) := by decide +kernel
theorem dX5_take_61 : decode cX5_take 61 = .ok (.getfield 24, 3) := by decide +kernel
theorem dX5_take_64 : decode cX5_take 64 = .ok (.iconst 0, 1) := by decide +kernel
theorem dX5_take_65 : decode cX5_take 65 = .ok (.aload_n 0, 1) := by decide +kernel
theorem dX5_take_66 : decode cX5_take 66 = .ok (.getfield 24, 3) := by decide +kernel
theorem dX5_take_69 : decode cX5_take 69 = .ok (.iconst 0, 1) := by decide +kernel
theorem dX5_take_70 : decode cX5_take 70 = .ok (.bipush 12, 2) := by decide +kernel
theorem dX5_take_72 : decode cX5_take 72 = .ok (.invokestatic 31, 3) := by decide +kernel
theorem dX5_take_75 : decode cX5_take 75 = .ok (.aload_n 0, 1) := by decide +kernel
theorem dX5_take_76 : decode cX5_take 76 = .ok (.aload_n 1, 1) := by decide +kernel
theorem dX5_take_77 : decode cX5_take 77 = .ok (.getfield 27, 3) := by decide +kernel
theorem dX5_take_80 : decode cX5_take 80 = .ok (.putfield 27, 3) := by decide +kernel
theorem dX5_take_83 : decode cX5_take 83 = .ok (.return_, 1) := by decide +kernel
theorem dX6_init_0 : decode cX6_init 0 = .ok (.aload_n 0, 1) := by decide +kernel
theorem dX6_init_1 : decode cX6_init 1 = .ok (.invokespecial 3, 3) := by decide +kernel
theorem dX6_init_4 : decode cX6_init 4 = .ok (.aload_n 0, 1) := by decide +kernel
theorem dX6_init_5 : decode cX6_init 5 = .ok (.sipush 300, 3) := by decide +kernel
theorem dX6_init_8 : decode cX6_init 8 = .ok (.newarray .int, 2) := by decide +kernel
theorem dX6_init_10 : decode cX6_init 10 = .ok (.putfield 9, 3) := by decide +kernel
theorem dX6_init_13 : decode cX6_init 13 = .ok (.return_, 1) := by decide +kernel
theorem dX6_append_0 : decode cX6_append 0 = .ok (.bipush 24, 2) := by decide +kernel
theorem dX6_append_2 : decode cX6_append 2 = .ok (.istore_n 2, 1) := by decide +kernel
theorem dX6_append_3 : decode cX6_append 3 = .ok (.iload_n 2, 1) := by decide +kernel
theorem dX6_append_4 : decode cX6_append 4 = .ok (.ifCond .lt 45, 3) := by decide +kernel
theorem dX6_append_7 : decode cX6_append 7 = .ok (.aload_n 0, 1) := by decide +kernel
theorem dX6_append_8 : decode cX6_append 8 = .ok (.getfield 15, 3) := by decide +kernel
theorem dX6_append_11 : decode cX6_append 11 = .ok (.sipush 300, 3) := by decide +kernel
theorem dX6_append_14 : decode cX6_append 14 = .ok (.if_icmp .ge 35, 3) := by decide +kernel
theorem dX6_append_17 : decode cX6_append 17 = .ok (.aload_n 0, 1) := by decide +kernel
theorem dX6_append_18 : decode cX6_append 18 = .ok (.getfield 9, 3) := by decide +kernel
theorem dX6_append_21 : decode cX6_append 21 = .ok (.aload_n 0, 1) := by decide +kernel
theorem dX6_append_22 : decode cX6_append 22 = .ok (.getfield 15, 3) := by decide +kernel
theorem dX6_append_25 : decode cX6_append 25 = .ok (.iload_n 1, 1) := by decide +kernel
theorem dX6_append_26 : decode cX6_append 26 = .ok (.iload_n 2, 1) := by decide +kernel
theorem dX6_append_27 : decode cX6_append 27 = .ok (.iushr, 1) := by decide +kernel
theorem dX6_append_28 : decode cX6_append 28 = .ok (.sipush 255, 3) := by decide +kernel
theorem dX6_append_31 : decode cX6_append 31 = .ok (.iand, 1) := by decide +kernel
theorem dX6_append_32 : decode cX6_append 32 = .ok (.iastore, 1) := by decide +kernel
theorem dX6_append_33 : decode cX6_append 33 = .ok (.aload_n 0, 1) := by decide +kernel
theorem dX6_append_34 : decode cX6_append 34 = .ok (.dup, 1) := by decide +kernel
theorem dX6_append_35 : decode cX6_append 35 = .ok (.getfield 15, 3) := by decide +kernel
theorem dX6_append_38 : decode cX6_append 38 = .ok (.iconst 1, 1) := by decide +kernel
theorem dX6_append_39 : decode cX6_append 39 = .ok (.iadd, 1) := by decide +kernel
theorem dX6_append_40 : decode cX6_append 40 = .ok (.putfield 15, 3) := by decide +kernel
theorem dX6_append_43 : decode cX6_append 43 = .ok (.iinc 2 (-8), 3) := by decide +kernel
theorem dX6_append_46 : decode cX6_append 46 = .ok (.goto (-43), 3) := by decide +kernel
theorem dX6_append_49 : decode cX6_append 49 = .ok (.return_, 1) := by decide +kernel
theorem dX7_init_0 : decode cX7_init 0 = .ok (.aload_n 0, 1) := by decide +kernel
theorem dX7_init_1 : decode cX7_init 1 = .ok (.invokespecial 3, 3) := by decide +kernel
theorem dX7_init_4 : decode cX7_init 4 = .ok (.aload_n 0, 1) := by decide +kernel
theorem dX7_init_5 : decode cX7_init 5 = .ok (.sipush 250, 3) := by decide +kernel
theorem dX7_init_8 : decode cX7_init 8 = .ok (.newarray .int, 2) := by decide +kernel
theorem dX7_init_10 : decode cX7_init 10 = .ok (.putfield 9, 3) := by decide +kernel
theorem dX7_init_13 : decode cX7_init 13 = .ok (.aload_n 0, 1) := by decide +kernel
theorem dX7_init_14 : decode cX7_init 14 = .ok (.bipush 91, 2) := by decide +kernel
theorem dX7_init_16 : decode cX7_init 16 = .ok (.newarray .int, 2) := by decide +kernel
theorem dX7_init_18 : decode cX7_init 18 = .ok (.putfield 15, 3) := by decide +kernel
theorem dX7_init_21 : decode cX7_init 21 = .ok (.aload_n 0, 1) := by decide +kernel
theorem dX7_init_22 : decode cX7_init 22 = .ok (.aload_n 1, 1) := by decide +kernel
theorem dX7_init_23 : decode cX7_init 23 = .ok (.putfield 18, 3) := by decide +kernel
theorem dX7_init_26 : decode cX7_init 26 = .ok (.aload_n 0, 1) := by decide +kernel
theorem dX7_init_27 : decode cX7_init 27 = .ok (.aload_n 2, 1) := by decide +kernel
theorem dX7_init_28 : decode cX7_init 28 = .ok (.putfield 22, 3) := by decide +kernel
theorem dX7_init_31 : decode cX7_init 31 = .ok (.return_, 1) := by decide +kernel
theorem dX7_find_0 : decode cX7_find 0 = .ok (.aload_n 0, 1) := by decide +kernel
theorem dX7_find_1 : decode cX7_find 1 = .ok (.iload_n 1, 1) := by decide +kernel
theorem dX7_find_2 : decode cX7_find 2 = .ok (.iload_n 2, 1) := by decide +kernel
theorem dX7_find_3 : decode cX7_find 3 = .ok (.invokevirtual 26, 3) := by decide +kernel
theorem dX7_find_6 : decode cX7_find 6 = .ok (.aload_n 0, 1) := by decide +kernel
theorem dX7_find_7 : decode cX7_find 7 = .ok (.iload_n 1, 1) := by decide +kernel
theorem dX7_find_8 : decode cX7_find 8 = .ok (.invokevirtual 30, 3) := by decide +kernel
theorem dX7_find_11 : decode cX7_find 11 = .ok (.istore_n 3, 1) := by decide +kernel
theorem dX7_find_12 : decode cX7_find 12 = .ok (.iload_n 3, 1) := by decide +kernel
theorem dX7_find_13 : decode cX7_find 13 = .ok (.iconst (-1), 1) := by decide +kernel
theorem dX7_find_14 : decode cX7_find 14 = .ok (.if_icmp .ne 6, 3) := by decide +kernel
theorem dX7_find_17 : decode cX7_find 17 = .ok (.bipush (-2), 2) := by decide +kernel
theorem dX7_find_19 : decode cX7_find 19 = .ok (.ireturn, 1) := by decide +kernel
theorem dX7_find_20 : decode cX7_find 20 = .ok (.aload_n 0, 1) := by decide +kernel
theorem dX7_find_21 : decode cX7_find 21 = .ok (.iload_n 3, 1) := by decide +kernel
theorem dX7_find_22 : decode cX7_find 22 = .ok (.iload_n 1, 1) := by decide +kernel
theorem dX7_find_23 : decode cX7_find 23 = .ok (.invokevirtual 34, 3) := by decide +kernel
theorem dX7_find_26 : decode cX7_find 26 = .ok (.aload_n 0, 1) := by decide +kernel
theorem dX7_find_27 : decode cX7_find 27 = .ok (.getfield 37, 3) := by decide +kernel
theorem dX7_find_30 : decode cX7_find 30 = .ok (.ireturn, 1) := by decide +kernel
theorem dX7_measure_0 : decode cX7_measure 0 = .ok (.aload_n 0, 1) := by decide +kernel
theorem dX7_measure_1 : decode cX7_measure 1 = .ok (.getfield 9, 3) := by decide +kernel
theorem dX7_measure_4 : decode cX7_measure 4 = .ok (.sipush 1000, 3) := by decide +kernel
theorem dX7_measure_7 : decode cX7_measure 7 = .ok (.invokestatic 41, 3) := by decide +kernel
theorem dX7_measure_10 : decode cX7_measure 10 = .ok (.iconst 0, 1) := by decide +kernel
theorem dX7_measure_11 : decode cX7_measure 11 = .ok (.istore_n 3, 1) := by decide +kernel
theorem dX7_measure_12 : decode cX7_measure 12 = .ok (.iload_n 3, 1) := by decide +kernel
theorem dX7_measure_13 : decode cX7_measure 13 = .ok (.aload_n 0, 1) := by decide +kernel
theorem dX7_measure_14 : decode cX7_measure 14 = .ok (.getfield 18, 3) := by decide +kernel
theorem dX7_measure_17 : decode cX7_measure 17 = .ok (.getfield 47, 3) := by decide +kernel
theorem dX7_measure_20 : decode cX7_measure 20 = .ok (.if_icmp .ge 39, 3) := by decide +kernel
theorem dX7_measure_23 : decode cX7_measure 23 = .ok (.aload_n 0, 1) := by decide +kernel
theorem dX7_measure_24 : decode cX7_measure 24 = .ok (.getfield 18, 3) := by decide +kernel
theorem dX7_measure_27 : decode cX7_measure 27 = .ok (.getfield 50, 3) := by decide +kernel
theorem dX7_measure_30 : decode cX7_measure 30 = .ok (.iload_n 3, 1) := by decide +kernel
theorem dX7_measure_31 : decode cX7_measure 31 = .ok (.iaload, 1) := by decide +kernel
theorem dX7_measure_32 : decode cX7_measure 32 = .ok (.iload_n 2, 1) := by decide +kernel
theorem dX7_measure_33 : decode cX7_measure 33 = .ok (.invokestatic 53, 3) := by decide +kernel
theorem dX7_measure_36 : decode cX7_measure 36 = .ok (.ifCond .eq 17, 3) := by decide +kernel
theorem dX7_measure_39 : decode cX7_measure 39 = .ok (.aload_n 0, 1) := by decide +kernel
theorem dX7_measure_40 : decode cX7_measure 40 = .ok (.getfield 9, 3) := by decide +kernel
theorem dX7_measure_43 : decode cX7_measure 43 = .ok (.iload_n 3, 1) := by decide +kernel
theorem dX7_measure_44 : decode cX7_measure 44 = .ok (.bipush 9, 2) := by decide +kernel
theorem dX7_measure_46 : decode cX7_measure 46 = .ok (.iload_n 2, 1) := by decide +kernel
theorem dX7_measure_47 : decode cX7_measure 47 = .ok (.iadd, 1) := by decide +kernel
theorem dX7_measure_48 : decode cX7_measure 48 = .ok (.invokestatic 57, 3) := by decide +kernel
theorem dX7_measure_51 : decode cX7_measure 51 = .ok (.iconst 0, 1) := by decide +kernel
theorem dX7_measure_52 : decode cX7_measure 52 = .ok (.iastore, 1) := by decide +kernel
theorem dX7_measure_53 : decode cX7_measure 53 = .ok (.iinc 3 1, 3) := by decide +kernel
theorem dX7_measure_56 : decode cX7_measure 56 = .ok (.goto (-44), 3) := by decide +kernel
theorem dX7_measure_59 : decode cX7_measure 59 = .ok (.iconst 1, 1) := by decide +kernel
theorem dX7_measure_60 : decode cX7_measure 60 = .ok (.istore_n 3, 1) := by decide +kernel
theorem dX7_measure_61 : decode cX7_measure 61 = .ok (.iconst 0, 1) := by decide +kernel
theorem dX7_measure_62 : decode cX7_measure 62 = .ok (.istore 4, 2) := by decide +kernel
theorem dX7_measure_64 : decode cX7_measure 64 = .ok (.iload 4, 2) := by decide +kernel
theorem dX7_measure_66 : decode cX7_measure 66 = .ok (.sipush 250, 3) := by decide +kernel
theorem dX7_measure_69 : decode cX7_measure 69 = .ok (.if_icmp .ge 96, 3) := by decide +kernel
theorem dX7_measure_72 : decode cX7_measure 72 = .ok (.iload_n 3, 1) := by decide +kernel
theorem dX7_measure_73 : decode cX7_measure 73 = .ok (.ifCond .eq 92, 3) := by decide +kernel
theorem dX7_measure_76 : decode cX7_measure 76 = .ok (.iconst 0, 1) := by decide +kernel
theorem dX7_measure_77 : decode cX7_measure 77 = .ok (.istore_n 3, 1) := by decide +kernel
theorem dX7_measure_78 : decode cX7_measure 78 = .ok (.iconst 0, 1) := by decide +kernel
theorem dX7_measure_79 : decode cX7_measure 79 = .ok (.istore 5, 2) := by decide +kernel
theorem dX7_measure_81 : decode cX7_measure 81 = .ok (.iload 5, 2) := by decide +kernel
theorem dX7_measure_83 : decode cX7_measure 83 = .ok (.aload_n 0, 1) := by decide +kernel
theorem dX7_measure_84 : decode cX7_measure 84 = .ok (.getfield 22, 3) := by decide +kernel
theorem dX7_measure_87 : decode cX7_measure 87 = .ok (.getfield 61, 3) := by decide +kernel
theorem dX7_measure_90 : decode cX7_measure 90 = .ok (.if_icmp .ge 69, 3) := by decide +kernel
theorem dX7_measure_93 : decode cX7_measure 93 = .ok (.aload_n 0, 1) := by decide +kernel
theorem dX7_measure_94 : decode cX7_measure 94 = .ok (.getfield 22, 3) := by decide +kernel
theorem dX7_measure_97 : decode cX7_measure 97 = .ok (.getfield 66, 3) := by decide +kernel
theorem dX7_measure_100 : decode cX7_measure 100 = .ok (.iload 5, 2) := by decide +kernel
theorem dX7_measure_102 : decode cX7_measure 102 = .ok (.iaload, 1) := by decide +kernel
theorem dX7_measure_103 : decode cX7_measure 103 = .ok (.istore 6, 2) := by decide +kernel
theorem dX7_measure_105 : decode cX7_measure 105 = .ok (.aload_n 0, 1) := by decide +kernel
theorem dX7_measure_106 : decode cX7_measure 106 = .ok (.iload 5, 2) := by decide +kernel
theorem dX7_measure_108 : decode cX7_measure 108 = .ok (.iload_n 1, 1) := by decide +kernel
theorem dX7_measure_109 : decode cX7_measure 109 = .ok (.invokevirtual 69, 3) := by decide +kernel
theorem dX7_measure_112 : decode cX7_measure 112 = .ok (.istore 7, 2) := by decide +kernel
theorem dX7_measure_114 : decode cX7_measure 114 = .ok (.iload_n 3, 1) := by decide +kernel
theorem dX7_measure_115 : decode cX7_measure 115 = .ok (.iload 7, 2) := by decide +kernel
theorem dX7_measure_117 : decode cX7_measure 117 = .ok (.aload_n 0, 1) := by decide +kernel
theorem dX7_measure_118 : decode cX7_measure 118 = .ok (.getfield 9, 3) := by decide +kernel
theorem dX7_measure_121 : decode cX7_measure 121 = .ok (.iload 6, 2) := by decide +kernel
theorem dX7_measure_123 : decode cX7_measure 123 = .ok (.iaload, 1) := by decide +kernel
theorem dX7_measure_124 : decode cX7_measure 124 = .ok (.if_icmp .ge 7, 3) := by decide +kernel
theorem dX7_measure_127 : decode cX7_measure 127 = .ok (.iconst 1, 1) := by decide +kernel
theorem dX7_measure_128 : decode cX7_measure 128 = .ok (.goto 4, 3) := by decide +kernel
theorem dX7_measure_131 : decode cX7_measure 131 = .ok (.iconst 0, 1) := by decide +kernel
theorem dX7_measure_132 : decode cX7_measure 132 = .ok (.ior, 1) := by decide +kernel
theorem dX7_measure_133 : decode cX7_measure 133 = .ok (.istore_n 3, 1) := by decide +kernel
theorem dX7_measure_134 : decode cX7_measure 134 = .ok (.aload_n 0, 1) := by decide +kernel
theorem dX7_measure_135 : decode cX7_measure 135 = .ok (.getfield 9, 3) := by decide +kernel
theorem dX7_measure_138 : decode cX7_measure 138 = .ok (.iload 6, 2) := by decide +kernel
theorem dX7_measure_140 : decode cX7_measure 140 = .ok (.aload_n 0, 1) := by decide +kernel
theorem dX7_measure_141 : decode cX7_measure 141 = .ok (.getfield 9, 3) := by decide +kernel
theorem dX7_measure_144 : decode cX7_measure 144 = .ok (.iload 6, 2) := by decide +kernel
theorem dX7_measure_146 : decode cX7_measure 146 = .ok (.iaload, 1) := by decide +kernel
theorem dX7_measure_147 : decode cX7_measure 147 = .ok (.iload 7, 2) := by decide +kernel
theorem dX7_measure_149 : decode cX7_measure 149 = .ok (.invokestatic 72, 3) := by decide +kernel
theorem dX7_measure_152 : decode cX7_measure 152 = .ok (.iastore, 1) := by decide +kernel
theorem dX7_measure_153 : decode cX7_measure 153 = .ok (.iinc 5 1, 3) := by decide +kernel
theorem dX7_measure_156 : decode cX7_measure 156 = .ok (.goto (-75), 3) := by decide +kernel
theorem dX7_measure_159 : decode cX7_measure 159 = .ok (.iinc 4 1, 3) := by decide +kernel
theorem dX7_measure_162 : decode cX7_measure 162 = .ok (.goto (-98), 3) := by decide +kernel
theorem dX7_measure_165 : decode cX7_measure 165 = .ok (.return_, 1) := by decide +kernel
theorem dX7_farThrough_0 : decode cX7_farThrough 0 = .ok (.aload_n 0, 1) := by decide +kernel
theorem dX7_farThrough_1 : decode cX7_farThrough 1 = .ok (.getfield 22, 3) := by decide +kernel
theorem dX7_farThrough_4 : decode cX7_farThrough 4 = .ok (.getfield 77, 3) := by decide +kernel
theorem dX7_farThrough_7 : decode cX7_farThrough 7 = .ok (.iload_n 1, 1) := by decide +kernel
theorem dX7_farThrough_8 : decode cX7_farThrough 8 = .ok (.iaload, 1) := by decide +kernel
theorem dX7_farThrough_9 : decode cX7_farThrough 9 = .ok (.istore_n 3, 1) := by decide +kernel
theorem dX7_farThrough_10 : decode cX7_farThrough 10 = .ok (.aload_n 0, 1) := by decide +kernel
theorem dX7_farThrough_11 : decode cX7_farThrough 11 = .ok (.getfield 22, 3) := by decide +kernel
theorem dX7_farThrough_14 : decode cX7_farThrough 14 = .ok (.getfield 80, 3) := by decide +kernel
theorem dX7_farThrough_17 : decode cX7_farThrough 17 = .ok (.iload_n 3, 1) := by decide +kernel
theorem dX7_farThrough_18 : decode cX7_farThrough 18 = .ok (.iaload, 1) := by decide +kernel
theorem dX7_farThrough_19 : decode cX7_farThrough 19 = .ok (.iload_n 2, 1) := by decide +kernel
theorem dX7_farThrough_20 : decode cX7_farThrough 20 = .ok (.invokestatic 53, 3) := by decide +kernel
theorem dX7_farThrough_23 : decode cX7_farThrough 23 = .ok (.ifCond .eq 9, 3) := by decide +kernel
theorem dX7_farThrough_26 : decode cX7_farThrough 26 = .ok (.sipush 1000, 3) := by decide +kernel
theorem dX7_farThrough_29 : decode cX7_farThrough 29 = .ok (.goto 11, 3) := by decide +kernel
theorem dX7_farThrough_32 : decode cX7_farThrough 32 = .ok (.aload_n 0, 1) := by decide +kernel
theorem dX7_farThrough_33 : decode cX7_farThrough 33 = .ok (.getfield 9, 3) := by decide +kernel
theorem dX7_farThrough_36 : decode cX7_farThrough 36 = .ok (.iload_n 3, 1) := by decide +kernel
theorem dX7_farThrough_37 : decode cX7_farThrough 37 = .ok (.iaload, 1) := by decide +kernel
theorem dX7_farThrough_38 : decode cX7_farThrough 38 = .ok (.iconst 1, 1) := by decide +kernel
theorem dX7_farThrough_39 : decode cX7_farThrough 39 = .ok (.iadd, 1) := by decide +kernel
theorem dX7_farThrough_40 : decode cX7_farThrough 40 = .ok (.ireturn, 1) := by decide +kernel
theorem dX7_bestGet_0 : decode cX7_bestGet 0 = .ok (.iconst (-1), 1) := by decide +kernel
theorem dX7_bestGet_1 : decode cX7_bestGet 1 = .ok (.istore_n 2, 1) := by decide +kernel
theorem dX7_bestGet_2 : decode cX7_bestGet 2 = .ok (.sipush 1000, 3) := by decide +kernel
theorem dX7_bestGet_5 : decode cX7_bestGet 5 = .ok (.istore_n 3, 1) := by decide +kernel
theorem dX7_bestGet_6 : decode cX7_bestGet 6 = .ok (.iconst 0, 1) := by decide +kernel
theorem dX7_bestGet_7 : decode cX7_bestGet 7 = .ok (.istore 4, 2) := by decide +kernel
theorem dX7_bestGet_9 : decode cX7_bestGet 9 = .ok (.iload 4, 2) := by decide +kernel
theorem dX7_bestGet_11 : decode cX7_bestGet 11 = .ok (.aload_n 0, 1) := by decide +kernel
theorem dX7_bestGet_12 : decode cX7_bestGet 12 = .ok (.getfield 18, 3) := by decide +kernel
theorem dX7_bestGet_15 : decode cX7_bestGet 15 = .ok (.getfield 47, 3) := by decide +kernel
theorem dX7_bestGet_18 : decode cX7_bestGet 18 = .ok (.if_icmp .ge 138, 3) := by decide +kernel
theorem dX7_bestGet_21 : decode cX7_bestGet 21 = .ok (.aload_n 0, 1) := by decide +kernel
theorem dX7_bestGet_22 : decode cX7_bestGet 22 = .ok (.getfield 22, 3) := by decide +kernel
theorem dX7_bestGet_25 : decode cX7_bestGet 25 = .ok (.getfield 83, 3) := by decide +kernel
theorem dX7_bestGet_28 : decode cX7_bestGet 28 = .ok (.iload 4, 2) := by decide +kernel
theorem dX7_bestGet_30 : decode cX7_bestGet 30 = .ok (.iaload, 1) := by decide +kernel
theorem dX7_bestGet_31 : decode cX7_bestGet 31 = .ok (.aload_n 0, 1) := by decide +kernel
theorem dX7_bestGet_32 : decode cX7_bestGet 32 = .ok (.getfield 18, 3) := by decide +kernel
theorem dX7_bestGet_35 : decode cX7_bestGet 35 = .ok (.getfield 50, 3) := by decide +kernel
theorem dX7_bestGet_38 : decode cX7_bestGet 38 = .ok (.iload 4, 2) := by decide +kernel
theorem dX7_bestGet_40 : decode cX7_bestGet 40 = .ok (.iaload, 1) := by decide +kernel
theorem dX7_bestGet_41 : decode cX7_bestGet 41 = .ok (.iand, 1) := by decide +kernel
theorem dX7_bestGet_42 : decode cX7_bestGet 42 = .ok (.iload_n 1, 1) := by decide +kernel
theorem dX7_bestGet_43 : decode cX7_bestGet 43 = .ok (.invokestatic 53, 3) := by decide +kernel
theorem dX7_bestGet_46 : decode cX7_bestGet 46 = .ok (.istore 5, 2) := by decide +kernel
theorem dX7_bestGet_48 : decode cX7_bestGet 48 = .ok (.aload_n 0, 1) := by decide +kernel
theorem dX7_bestGet_49 : decode cX7_bestGet 49 = .ok (.getfield 18, 3) := by decide +kernel
theorem dX7_bestGet_52 : decode cX7_bestGet 52 = .ok (.getfield 86, 3) := by decide +kernel
theorem dX7_bestGet_55 : decode cX7_bestGet 55 = .ok (.iload 4, 2) := by decide +kernel
theorem dX7_bestGet_57 : decode cX7_bestGet 57 = .ok (.aaload, 1) := by decide +kernel
theorem dX7_bestGet_58 : decode cX7_bestGet 58 = .ok (.astore 6, 2) := by decide +kernel
theorem dX7_bestGet_60 : decode cX7_bestGet 60 = .ok (.iconst 0, 1) := by decide +kernel
theorem dX7_bestGet_61 : decode cX7_bestGet 61 = .ok (.istore 7, 2) := by decide +kernel
theorem dX7_bestGet_63 : decode cX7_bestGet 63 = .ok (.iload 7, 2) := by decide +kernel
theorem dX7_bestGet_65 : decode cX7_bestGet 65 = .ok (.aload 6, 2) := by decide +kernel
theorem dX7_bestGet_67 : decode cX7_bestGet 67 = .ok (.getfield 90, 3) := by decide +kernel
theorem dX7_bestGet_70 : decode cX7_bestGet 70 = .ok (.if_icmp .ge 80, 3) := by decide +kernel
theorem dX7_bestGet_73 : decode cX7_bestGet 73 = .ok (.iload 5, 2) := by decide +kernel
theorem dX7_bestGet_75 : decode cX7_bestGet 75 = .ok (.ifCond .eq 75, 3) := by decide +kernel
theorem dX7_bestGet_78 : decode cX7_bestGet 78 = .ok (.iload 4, 2) := by decide +kernel
theorem dX7_bestGet_80 : decode cX7_bestGet 80 = .ok (.aload 6, 2) := by decide +kernel
theorem dX7_bestGet_82 : decode cX7_bestGet 82 = .ok (.getfield 93, 3) := by decide +kernel
theorem dX7_bestGet_85 : decode cX7_bestGet 85 = .ok (.iload 7, 2) := by decide +kernel
theorem dX7_bestGet_87 : decode cX7_bestGet 87 = .ok (.iaload, 1) := by decide +kernel
theorem dX7_bestGet_88 : decode cX7_bestGet 88 = .ok (.invokestatic 57, 3) := by decide +kernel
theorem dX7_bestGet_91 : decode cX7_bestGet 91 = .ok (.istore 8, 2) := by decide +kernel
theorem dX7_bestGet_93 : decode cX7_bestGet 93 = .ok (.aload 6, 2) := by decide +kernel
theorem dX7_bestGet_95 : decode cX7_bestGet 95 = .ok (.getfield 96, 3) := by decide +kernel
theorem dX7_bestGet_98 : decode cX7_bestGet 98 = .ok (.iload 7, 2) := by decide +kernel
theorem dX7_bestGet_100 : decode cX7_bestGet 100 = .ok (.iaload, 1) := by decide +kernel
theorem dX7_bestGet_101 : decode cX7_bestGet 101 = .ok (.ifCond .ne 43, 3) := by decide +kernel
theorem dX7_bestGet_104 : decode cX7_bestGet 104 = .ok (.aload 6, 2) := by decide +kernel
theorem dX7_bestGet_106 : decode cX7_bestGet 106 = .ok (.getfield 99, 3) := by decide +kernel
theorem dX7_bestGet_109 : decode cX7_bestGet 109 = .ok (.iload 7, 2) := by decide +kernel
theorem dX7_bestGet_111 : decode cX7_bestGet 111 = .ok (.iaload, 1) := by decide +kernel
theorem dX7_bestGet_112 : decode cX7_bestGet 112 = .ok (.iload_n 1, 1) := by decide +kernel
theorem dX7_bestGet_113 : decode cX7_bestGet 113 = .ok (.if_icmp .ne 31, 3) := by decide +kernel
theorem dX7_bestGet_116 : decode cX7_bestGet 116 = .ok (.aload_n 0, 1) := by decide +kernel
theorem dX7_bestGet_117 : decode cX7_bestGet 117 = .ok (.getfield 9, 3) := by decide +kernel
theorem dX7_bestGet_120 : decode cX7_bestGet 120 = .ok (.iload 8, 2) := by decide +kernel
theorem dX7_bestGet_122 : decode cX7_bestGet 122 = .ok (.iaload, 1) := by decide +kernel
theorem dX7_bestGet_123 : decode cX7_bestGet 123 = .ok (.iload_n 3, 1) := by decide +kernel
theorem dX7_bestGet_124 : decode cX7_bestGet 124 = .ok (.if_icmp .ge 20, 3) := by decide +kernel
theorem dX7_bestGet_127 : decode cX7_bestGet 127 = .ok (.aload_n 0, 1) := by decide +kernel
theorem dX7_bestGet_128 : decode cX7_bestGet 128 = .ok (.getfield 9, 3) := by decide +kernel
theorem dX7_bestGet_131 : decode cX7_bestGet 131 = .ok (.iload 8, 2) := by decide +kernel
theorem dX7_bestGet_133 : decode cX7_bestGet 133 = .ok (.iaload, 1) := by decide +kernel
theorem dX7_bestGet_134 : decode cX7_bestGet 134 = .ok (.istore_n 3, 1) := by decide +kernel
theorem dX7_bestGet_135 : decode cX7_bestGet 135 = .ok (.bipush 100, 2) := by decide +kernel
theorem dX7_bestGet_137 : decode cX7_bestGet 137 = .ok (.iload 4, 2) := by decide +kernel
theorem dX7_bestGet_139 : decode cX7_bestGet 139 = .ok (.imul, 1) := by decide +kernel
theorem dX7_bestGet_140 : decode cX7_bestGet 140 = .ok (.iload 7, 2) := by decide +kernel
theorem dX7_bestGet_142 : decode cX7_bestGet 142 = .ok (.iadd, 1) := by decide +kernel
theorem dX7_bestGet_143 : decode cX7_bestGet 143 = .ok (.istore_n 2, 1) := by decide +kernel
theorem dX7_bestGet_144 : decode cX7_bestGet 144 = .ok (.iinc 7 1, 3) := by decide +kernel
theorem dX7_bestGet_147 : decode cX7_bestGet 147 = .ok (.goto (-84), 3) := by decide +kernel
theorem dX7_bestGet_150 : decode cX7_bestGet 150 = .ok (.iinc 4 1, 3) := by decide +kernel
theorem dX7_bestGet_153 : decode cX7_bestGet 153 = .ok (.goto (-144), 3) := by decide +kernel
theorem dX7_bestGet_156 : decode cX7_bestGet 156 = .ok (.iload_n 2, 1) := by decide +kernel
theorem dX7_bestGet_157 : decode cX7_bestGet 157 = .ok (.ireturn, 1) := by decide +kernel
theorem dX7_walk_0 : decode cX7_walk 0 = .ok (.aload_n 0, 1) := by decide +kernel
theorem dX7_walk_1 : decode cX7_walk 1 = .ok (.iconst 0, 1) := by decide +kernel
theorem dX7_walk_2 : decode cX7_walk 2 = .ok (.putfield 37, 3) := by decide +kernel
theorem dX7_walk_5 : decode cX7_walk 5 = .ok (.aload_n 0, 1) := by decide +kernel
theorem dX7_walk_6 : decode cX7_walk 6 = .ok (.iload_n 1, 1) := by decide +kernel
theorem dX7_walk_7 : decode cX7_walk 7 = .ok (.invokevirtual 102, 3) := by decide +kernel
theorem dX7_walk_10 : decode cX7_walk 10 = .ok (.iload_n 1, 1) := by decide +kernel
theorem dX7_walk_11 : decode cX7_walk 11 = .ok (.bipush 100, 2) := by decide +kernel
theorem dX7_walk_13 : decode cX7_walk 13 = .ok (.idiv, 1) := by decide +kernel
theorem dX7_walk_14 : decode cX7_walk 14 = .ok (.aload_n 0, 1) := by decide +kernel
theorem dX7_walk_15 : decode cX7_walk 15 = .ok (.getfield 18, 3) := by decide +kernel
theorem dX7_walk_18 : decode cX7_walk 18 = .ok (.getfield 86, 3) := by decide +kernel
theorem dX7_walk_21 : decode cX7_walk 21 = .ok (.iload_n 1, 1) := by decide +kernel
theorem dX7_walk_22 : decode cX7_walk 22 = .ok (.bipush 100, 2) := by decide +kernel
theorem dX7_walk_24 : decode cX7_walk 24 = .ok (.idiv, 1) := by decide +kernel
theorem dX7_walk_25 : decode cX7_walk 25 = .ok (.aaload, 1) := by decide +kernel
theorem dX7_walk_26 : decode cX7_walk 26 = .ok (.getfield 93, 3) := by decide +kernel
theorem dX7_walk_29 : decode cX7_walk 29 = .ok (.iload_n 1, 1) := by decide +kernel
theorem dX7_walk_30 : decode cX7_walk 30 = .ok (.bipush 100, 2) := by decide +kernel
theorem dX7_walk_32 : decode cX7_walk 32 = .ok (.irem, 1) := by decide +kernel
theorem dX7_walk_33 : decode cX7_walk 33 = .ok (.iaload, 1) := by decide +kernel
theorem dX7_walk_34 : decode cX7_walk 34 = .ok (.invokestatic 57, 3) := by decide +kernel
theorem dX7_walk_37 : decode cX7_walk 37 = .ok (.istore_n 3, 1) := by decide +kernel
theorem dX7_walk_38 : decode cX7_walk 38 = .ok (.aload_n 0, 1) := by decide +kernel
theorem dX7_walk_39 : decode cX7_walk 39 = .ok (.getfield 9, 3) := by decide +kernel
theorem dX7_walk_42 : decode cX7_walk 42 = .ok (.iload_n 3, 1) := by decide +kernel
theorem dX7_walk_43 : decode cX7_walk 43 = .ok (.iaload, 1) := by decide +kernel
theorem dX7_walk_44 : decode cX7_walk 44 = .ok (.istore 4, 2) := by decide +kernel
theorem dX7_walk_46 : decode cX7_walk 46 = .ok (.iload 4, 2) := by decide +kernel
theorem dX7_walk_48 : decode cX7_walk 48 = .ok (.ifCond .le 49, 3) := by decide +kernel
theorem dX7_walk_51 : decode cX7_walk 51 = .ok (.aload_n 0, 1) := by decide +kernel
theorem dX7_walk_52 : decode cX7_walk 52 = .ok (.iload_n 3, 1) := by decide +kernel
theorem dX7_walk_53 : decode cX7_walk 53 = .ok (.iload_n 2, 1) := by decide +kernel
theorem dX7_walk_54 : decode cX7_walk 54 = .ok (.invokevirtual 106, 3) := by decide +kernel
theorem dX7_walk_57 : decode cX7_walk 57 = .ok (.istore 5, 2) := by decide +kernel
theorem dX7_walk_59 : decode cX7_walk 59 = .ok (.iload 5, 2) := by decide +kernel
theorem dX7_walk_61 : decode cX7_walk 61 = .ok (.iconst (-1), 1) := by decide +kernel
theorem dX7_walk_62 : decode cX7_walk 62 = .ok (.if_icmp .ne 4, 3) := by decide +kernel
theorem dX7_walk_65 : decode cX7_walk 65 = .ok (.return_, 1) := by decide +kernel
theorem dX7_walk_66 : decode cX7_walk 66 = .ok (.aload_n 0, 1) := by decide +kernel
theorem dX7_walk_67 : decode cX7_walk 67 = .ok (.aload_n 0, 1) := by decide +kernel
theorem dX7_walk_68 : decode cX7_walk 68 = .ok (.getfield 22, 3) := by decide +kernel
theorem dX7_walk_71 : decode cX7_walk 71 = .ok (.getfield 109, 3) := by decide +kernel
theorem dX7_walk_74 : decode cX7_walk 74 = .ok (.iload 5, 2) := by decide +kernel
theorem dX7_walk_76 : decode cX7_walk 76 = .ok (.iaload, 1) := by decide +kernel
theorem dX7_walk_77 : decode cX7_walk 77 = .ok (.invokevirtual 102, 3) := by decide +kernel
theorem dX7_walk_80 : decode cX7_walk 80 = .ok (.aload_n 0, 1) := by decide +kernel
theorem dX7_walk_81 : decode cX7_walk 81 = .ok (.getfield 22, 3) := by decide +kernel
theorem dX7_walk_84 : decode cX7_walk 84 = .ok (.getfield 77, 3) := by decide +kernel
theorem dX7_walk_87 : decode cX7_walk 87 = .ok (.iload 5, 2) := by decide +kernel
theorem dX7_walk_89 : decode cX7_walk 89 = .ok (.iaload, 1) := by decide +kernel
theorem dX7_walk_90 : decode cX7_walk 90 = .ok (.istore_n 3, 1) := by decide +kernel
theorem dX7_walk_91 : decode cX7_walk 91 = .ok (.iinc 4 (-1), 3) := by decide +kernel
theorem dX7_walk_94 : decode cX7_walk 94 = .ok (.goto (-48), 3) := by decide +kernel
theorem dX7_walk_97 : decode cX7_walk 97 = .ok (.return_, 1) := by decide +kernel
theorem dX7_append_0 : decode cX7_append 0 = .ok (.aload_n 0, 1) := by decide +kernel
theorem dX7_append_1 : decode cX7_append 1 = .ok (.getfield 37, 3) := by decide +kernel
theorem dX7_append_4 : decode cX7_append 4 = .ok (.bipush 91, 2) := by decide +kernel
theorem dX7_append_6 : decode cX7_append 6 = .ok (.if_icmp .ge 23, 3) := by decide +kernel
theorem dX7_append_9 : decode cX7_append 9 = .ok (.aload_n 0, 1) := by decide +kernel
theorem dX7_append_10 : decode cX7_append 10 = .ok (.getfield 15, 3) := by decide +kernel
theorem dX7_append_13 : decode cX7_append 13 = .ok (.aload_n 0, 1) := by decide +kernel
theorem dX7_append_14 : decode cX7_append 14 = .ok (.getfield 37, 3) := by decide +kernel
theorem dX7_append_17 : decode cX7_append 17 = .ok (.iload_n 1, 1) := by decide +kernel
theorem dX7_append_18 : decode cX7_append 18 = .ok (.iastore, 1) := by decide +kernel
theorem dX7_append_19 : decode cX7_append 19 = .ok (.aload_n 0, 1) := by decide +kernel
theorem dX7_append_20 : decode cX7_append 20 = .ok (.dup, 1) := by decide +kernel
theorem dX7_append_21 : decode cX7_append 21 = .ok (.getfield 37, 3) := by decide +kernel
theorem dX7_append_24 : decode cX7_append 24 = .ok (.iconst 1, 1) := by decide +kernel
theorem dX7_append_25 : decode cX7_append 25 = .ok (.iadd, 1) := by decide +kernel
theorem dX7_append_26 : decode cX7_append 26 = .ok (.putfield 37, 3) := by decide +kernel
theorem dX7_append_29 : decode cX7_append 29 = .ok (.return_, 1) := by decide +kernel
theorem dX7_firstLink_0 : decode cX7_firstLink 0 = .ok (.iconst 0, 1) := by decide +kernel
theorem dX7_firstLink_1 : decode cX7_firstLink 1 = .ok (.istore_n 3, 1) := by decide +kernel
theorem dX7_firstLink_2 : decode cX7_firstLink 2 = .ok (.iload_n 3, 1) := by decide +kernel
theorem dX7_firstLink_3 : decode cX7_firstLink 3 = .ok (.aload_n 0, 1) := by decide +kernel
theorem dX7_firstLink_4 : decode cX7_firstLink 4 = .ok (.getfield 22, 3) := by decide +kernel
theorem dX7_firstLink_7 : decode cX7_firstLink 7 = .ok (.getfield 61, 3) := by decide +kernel
theorem dX7_firstLink_10 : decode cX7_firstLink 10 = .ok (.if_icmp .ge 39, 3) := by decide +kernel
theorem dX7_firstLink_13 : decode cX7_firstLink 13 = .ok (.aload_n 0, 1) := by decide +kernel
theorem dX7_firstLink_14 : decode cX7_firstLink 14 = .ok (.getfield 22, 3) := by decide +kernel
theorem dX7_firstLink_17 : decode cX7_firstLink 17 = .ok (.getfield 66, 3) := by decide +kernel
theorem dX7_firstLink_20 : decode cX7_firstLink 20 = .ok (.iload_n 3, 1) := by decide +kernel
theorem dX7_firstLink_21 : decode cX7_firstLink 21 = .ok (.iaload, 1) := by decide +kernel
theorem dX7_firstLink_22 : decode cX7_firstLink 22 = .ok (.iload_n 1, 1) := by decide +kernel
theorem dX7_firstLink_23 : decode cX7_firstLink 23 = .ok (.if_icmp .ne 20, 3) := by decide +kernel
theorem dX7_firstLink_26 : decode cX7_firstLink 26 = .ok (.aload_n 0, 1) := by decide +kernel
theorem dX7_firstLink_27 : decode cX7_firstLink 27 = .ok (.iload_n 3, 1) := by decide +kernel
theorem dX7_firstLink_28 : decode cX7_firstLink 28 = .ok (.iload_n 2, 1) := by decide +kernel
theorem dX7_firstLink_29 : decode cX7_firstLink 29 = .ok (.invokevirtual 69, 3) := by decide +kernel
theorem dX7_firstLink_32 : decode cX7_firstLink 32 = .ok (.aload_n 0, 1) := by decide +kernel
theorem dX7_firstLink_33 : decode cX7_firstLink 33 = .ok (.getfield 9, 3) := by decide +kernel
theorem dX7_firstLink_36 : decode cX7_firstLink 36 = .ok (.iload_n 1, 1) := by decide +kernel
theorem dX7_firstLink_37 : decode cX7_firstLink 37 = .ok (.iaload, 1) := by decide +kernel
theorem dX7_firstLink_38 : decode cX7_firstLink 38 = .ok (.if_icmp .ne 5, 3) := by decide +kernel
theorem dX7_firstLink_41 : decode cX7_firstLink 41 = .ok (.iload_n 3, 1) := by decide +kernel
theorem dX7_firstLink_42 : decode cX7_firstLink 42 = .ok (.ireturn, 1) := by decide +kernel
theorem dX7_firstLink_43 : decode cX7_firstLink 43 = .ok (.iinc 3 1, 3) := by decide +kernel
theorem dX7_firstLink_46 : decode cX7_firstLink 46 = .ok (.goto (-44), 3) := by decide +kernel
theorem dX7_firstLink_49 : decode cX7_firstLink 49 = .ok (.iconst (-1), 1) := by decide +kernel
theorem dX7_firstLink_50 : decode cX7_firstLink 50 = .ok (.ireturn, 1) := by decide +kernel
theorem dX8_init_0 : decode cX8_init 0 = .ok (.aload_n 0, 1) := by decide +kernel
theorem dX8_init_1 : decode cX8_init 1 = .ok (.invokespecial 3, 3) := by decide +kernel
theorem dX8_init_4 : decode cX8_init 4 = .ok (.aload_n 0, 1) := by decide +kernel
theorem dX8_init_5 : decode cX8_init 5 = .ok (.new 9, 3) := by decide +kernel
theorem dX8_init_8 : decode cX8_init 8 = .ok (.dup, 1) := by decide +kernel
theorem dX8_init_9 : decode cX8_init 9 = .ok (.invokespecial 11, 3) := by decide +kernel
theorem dX8_init_12 : decode cX8_init 12 = .ok (.putfield 12, 3) := by decide +kernel
theorem dX8_init_15 : decode cX8_init 15 = .ok (.aload_n 0, 1) := by decide +kernel
theorem dX8_init_16 : decode cX8_init 16 = .ok (.new 16, 3) := by decide +kernel
theorem dX8_init_19 : decode cX8_init 19 = .ok (.dup, 1) := by decide +kernel
theorem dX8_init_20 : decode cX8_init 20 = .ok (.invokespecial 18, 3) := by decide +kernel
theorem dX8_init_23 : decode cX8_init 23 = .ok (.putfield 19, 3) := by decide +kernel
theorem dX8_init_26 : decode cX8_init 26 = .ok (.aload_n 0, 1) := by decide +kernel
theorem dX8_init_27 : decode cX8_init 27 = .ok (.new 23, 3) := by decide +kernel
theorem dX8_init_30 : decode cX8_init 30 = .ok (.dup, 1) := by decide +kernel
theorem dX8_init_31 : decode cX8_init 31 = .ok (.aload_n 0, 1) := by decide +kernel
theorem dX8_init_32 : decode cX8_init 32 = .ok (.getfield 12, 3) := by decide +kernel
theorem dX8_init_35 : decode cX8_init 35 = .ok (.invokespecial 25, 3) := by decide +kernel
theorem dX8_init_38 : decode cX8_init 38 = .ok (.putfield 28, 3) := by decide +kernel
theorem dX8_init_41 : decode cX8_init 41 = .ok (.aload_n 0, 1) := by decide +kernel
theorem dX8_init_42 : decode cX8_init 42 = .ok (.new 32, 3) := by decide +kernel
theorem dX8_init_45 : decode cX8_init 45 = .ok (.dup, 1) := by decide +kernel
theorem dX8_init_46 : decode cX8_init 46 = .ok (.aload_n 0, 1) := by decide +kernel
theorem dX8_init_47 : decode cX8_init 47 = .ok (.getfield 19, 3) := by decide +kernel
theorem dX8_init_50 : decode cX8_init 50 = .ok (.invokespecial 34, 3) := by decide +kernel
theorem dX8_init_53 : decode cX8_init 53 = .ok (.putfield 37, 3) := by decide +kernel
theorem dX8_init_56 : decode cX8_init 56 = .ok (.aload_n 0, 1) := by decide +kernel
theorem dX8_init_57 : decode cX8_init 57 = .ok (.new 41, 3) := by decide +kernel
theorem dX8_init_60 : decode cX8_init 60 = .ok (.dup, 1) := by decide +kernel
theorem dX8_init_61 : decode cX8_init 61 = .ok (.aload_n 0, 1) := by decide +kernel
theorem dX8_init_62 : decode cX8_init 62 = .ok (.getfield 19, 3) := by decide +kernel
theorem dX8_init_65 : decode cX8_init 65 = .ok (.aload_n 0, 1) := by decide +kernel
theorem dX8_init_66 : decode cX8_init 66 = .ok (.getfield 37, 3) := by decide +kernel
theorem dX8_init_69 : decode cX8_init 69 = .ok (.invokespecial 43, 3) := by decide +kernel
theorem dX8_init_72 : decode cX8_init 72 = .ok (.putfield 46, 3) := by decide +kernel
theorem dX8_init_75 : decode cX8_init 75 = .ok (.aload_n 0, 1) := by decide +kernel
theorem dX8_init_76 : decode cX8_init 76 = .ok (.new 50, 3) := by decide +kernel
theorem dX8_init_79 : decode cX8_init 79 = .ok (.dup, 1) := by decide +kernel
theorem dX8_init_80 : decode cX8_init 80 = .ok (.aload_n 0, 1) := by decide +kernel
theorem dX8_init_81 : decode cX8_init 81 = .ok (.getfield 19, 3) := by decide +kernel
theorem dX8_init_84 : decode cX8_init 84 = .ok (.aload_n 0, 1) := by decide +kernel
theorem dX8_init_85 : decode cX8_init 85 = .ok (.getfield 37, 3) := by decide +kernel
theorem dX8_init_88 : decode cX8_init 88 = .ok (.invokespecial 52, 3) := by decide +kernel
theorem dX8_init_91 : decode cX8_init 91 = .ok (.putfield 53, 3) := by decide +kernel
theorem dX8_init_94 : decode cX8_init 94 = .ok (.aload_n 0, 1) := by decide +kernel
theorem dX8_init_95 : decode cX8_init 95 = .ok (.new 57, 3) := by decide +kernel
theorem dX8_init_98 : decode cX8_init 98 = .ok (.dup, 1) := by decide +kernel
theorem dX8_init_99 : decode cX8_init 99 = .ok (.aload_n 0, 1) := by decide +kernel
theorem dX8_init_100 : decode cX8_init 100 = .ok (.getfield 19, 3) := by decide +kernel
theorem dX8_init_103 : decode cX8_init 103 = .ok (.aload_n 0, 1) := by decide +kernel
theorem dX8_init_104 : decode cX8_init 104 = .ok (.getfield 37, 3) := by decide +kernel
theorem dX8_init_107 : decode cX8_init 107 = .ok (.aload_n 0, 1) := by decide +kernel
theorem dX8_init_108 : decode cX8_init 108 = .ok (.getfield 46, 3) := by decide +kernel
theorem dX8_init_111 : decode cX8_init 111 = .ok (.invokespecial 59, 3) := by decide +kernel
theorem dX8_init_114 : decode cX8_init 114 = .ok (.putfield 62, 3) := by decide +kernel
theorem dX8_init_117 : decode cX8_init 117 = .ok (.aload_n 0, 1) := by decide +kernel
theorem dX8_init_118 : decode cX8_init 118 = .ok (.iconst 0, 1) := by decide +kernel
theorem dX8_init_119 : decode cX8_init 119 = .ok (.putfield 66, 3) := by decide +kernel
theorem dX8_init_122 : decode cX8_init 122 = .ok (.aload_n 0, 1) := by decide +kernel
theorem dX8_init_123 : decode cX8_init 123 = .ok (.iconst 1, 1) := by decide +kernel
theorem dX8_init_124 : decode cX8_init 124 = .ok (.putfield 70, 3) := by decide +kernel
theorem dX8_init_127 : decode cX8_init 127 = .ok (.return_, 1) := by decide +kernel
theorem dX8_part_0 : decode cX8_part 0 = .ok (.iload_n 1, 1) := by decide +kernel
theorem dX8_part_1 : decode cX8_part 1 = .ok (.invokestatic 74, 3) := by decide +kernel
theorem dX8_part_4 : decode cX8_part 4 = .ok (.ifCond .ne 9, 3) := by decide +kernel
theorem dX8_part_7 : decode cX8_part 7 = .ok (.aload_n 0, 1) := by decide +kernel
theorem dX8_part_8 : decode cX8_part 8 = .ok (.iconst 2, 1) := by decide +kernel
theorem dX8_part_9 : decode cX8_part 9 = .ok (.invokevirtual 78, 3) := by decide +kernel
theorem dX8_part_12 : decode cX8_part 12 = .ok (.ireturn, 1) := by decide +kernel
theorem dX8_part_13 : decode cX8_part 13 = .ok (.aload_n 0, 1) := by decide +kernel
theorem dX8_part_14 : decode cX8_part 14 = .ok (.getfield 19, 3) := by decide +kernel
theorem dX8_part_17 : decode cX8_part 17 = .ok (.getfield 82, 3) := by decide +kernel
theorem dX8_part_20 : decode cX8_part 20 = .ok (.bipush 10, 2) := by decide +kernel
theorem dX8_part_22 : decode cX8_part 22 = .ok (.if_icmp .lt 9, 3) := by decide +kernel
theorem dX8_part_25 : decode cX8_part 25 = .ok (.aload_n 0, 1) := by decide +kernel
theorem dX8_part_26 : decode cX8_part 26 = .ok (.iconst 3, 1) := by decide +kernel
theorem dX8_part_27 : decode cX8_part 27 = .ok (.invokevirtual 78, 3) := by decide +kernel
theorem dX8_part_30 : decode cX8_part 30 = .ok (.ireturn, 1) := by decide +kernel
theorem dX8_part_31 : decode cX8_part 31 = .ok (.aload_n 0, 1) := by decide +kernel
theorem dX8_part_32 : decode cX8_part 32 = .ok (.iconst 1, 1) := by decide +kernel
theorem dX8_part_33 : decode cX8_part 33 = .ok (.putfield 70, 3) := by decide +kernel
theorem dX8_part_36 : decode cX8_part 36 = .ok (.aload_n 0, 1) := by decide +kernel
theorem dX8_part_37 : decode cX8_part 37 = .ok (.aload_n 0, 1) := by decide +kernel
theorem dX8_part_38 : decode cX8_part 38 = .ok (.getfield 19, 3) := by decide +kernel
theorem dX8_part_41 : decode cX8_part 41 = .ok (.iload_n 1, 1) := by decide +kernel
theorem dX8_part_42 : decode cX8_part 42 = .ok (.invokevirtual 85, 3) := by decide +kernel
theorem dX8_part_45 : decode cX8_part 45 = .ok (.invokevirtual 88, 3) := by decide +kernel
theorem dX8_part_48 : decode cX8_part 48 = .ok (.ireturn, 1) := by decide +kernel
theorem dX8_grant_0 : decode cX8_grant 0 = .ok (.aload_n 0, 1) := by decide +kernel
theorem dX8_grant_1 : decode cX8_grant 1 = .ok (.getfield 19, 3) := by decide +kernel
theorem dX8_grant_4 : decode cX8_grant 4 = .ok (.iload_n 1, 1) := by decide +kernel
theorem dX8_grant_5 : decode cX8_grant 5 = .ok (.invokevirtual 91, 3) := by decide +kernel
theorem dX8_grant_8 : decode cX8_grant 8 = .ok (.ifCond .ne 9, 3) := by decide +kernel
theorem dX8_grant_11 : decode cX8_grant 11 = .ok (.aload_n 0, 1) := by decide +kernel
theorem dX8_grant_12 : decode cX8_grant 12 = .ok (.iconst 1, 1) := by decide +kernel
theorem dX8_grant_13 : decode cX8_grant 13 = .ok (.invokevirtual 94, 3) := by decide +kernel
theorem dX8_grant_16 : decode cX8_grant 16 = .ok (.ireturn, 1) := by decide +kernel
theorem dX8_grant_17 : decode cX8_grant 17 = .ok (.iload_n 2, 1) := by decide +kernel
theorem dX8_grant_18 : decode cX8_grant 18 = .ok (.invokestatic 74, 3) := by decide +kernel
theorem dX8_grant_21 : decode cX8_grant 21 = .ok (.ifCond .ne 9, 3) := by decide +kernel
theorem dX8_grant_24 : decode cX8_grant 24 = .ok (.aload_n 0, 1) := by decide +kernel
theorem dX8_grant_25 : decode cX8_grant 25 = .ok (.iconst 2, 1) := by decide +kernel
theorem dX8_grant_26 : decode cX8_grant 26 = .ok (.invokevirtual 94, 3) := by decide +kernel
theorem dX8_grant_29 : decode cX8_grant 29 = .ok (.ireturn, 1) := by decide +kernel
theorem dX8_grant_30 : decode cX8_grant 30 = .ok (.aload_n 0, 1) := by decide +kernel
theorem dX8_grant_31 : decode cX8_grant 31 = .ok (.getfield 19, 3) := by decide +kernel
theorem dX8_grant_34 : decode cX8_grant 34 = .ok (.getfield 97, 3) := by decide +kernel
theorem dX8_grant_37 : decode cX8_grant 37 = .ok (.iload_n 1, 1) := by decide +kernel
theorem dX8_grant_38 : decode cX8_grant 38 = .ok (.iload_n 2, 1) := by decide +kernel
theorem dX8_grant_39 : decode cX8_grant 39 = .ok (.iastore, 1) := by decide +kernel
theorem dX8_grant_40 : decode cX8_grant 40 = .ok (.aload_n 0, 1) := by decide +kernel
theorem dX8_grant_41 : decode cX8_grant 41 = .ok (.invokevirtual 101, 3) := by decide +kernel
theorem dX8_grant_44 : decode cX8_grant 44 = .ok (.ireturn, 1) := by decide +kernel
theorem dX8_feed_0 : decode cX8_feed 0 = .ok (.aload_n 0, 1) := by decide +kernel
