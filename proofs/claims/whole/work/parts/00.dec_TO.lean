theorem d_TO_init_0 : decode prog_8_method_1_code 0 = .ok (.aload_n 0, 1) := by decide +kernel
theorem d_TO_init_1 : decode prog_8_method_1_code 1 = .ok (.invokespecial 3, 3) := by decide +kernel
theorem d_TO_init_4 : decode prog_8_method_1_code 4 = .ok (.aload_n 0, 1) := by decide +kernel
theorem d_TO_init_5 : decode prog_8_method_1_code 5 = .ok (.iconst 0, 1) := by decide +kernel
theorem d_TO_init_6 : decode prog_8_method_1_code 6 = .ok (.newarray .byte, 2) := by decide +kernel
theorem d_TO_init_8 : decode prog_8_method_1_code 8 = .ok (.putfield 9, 3) := by decide +kernel
theorem d_TO_init_11 : decode prog_8_method_1_code 11 = .ok (.aload_n 0, 1) := by decide +kernel
theorem d_TO_init_12 : decode prog_8_method_1_code 12 = .ok (.iconst 0, 1) := by decide +kernel
theorem d_TO_init_13 : decode prog_8_method_1_code 13 = .ok (.putfield 15, 3) := by decide +kernel
theorem d_TO_init_16 : decode prog_8_method_1_code 16 = .ok (.aload_n 0, 1) := by decide +kernel
theorem d_TO_init_17 : decode prog_8_method_1_code 17 = .ok (.iconst 0, 1) := by decide +kernel
theorem d_TO_init_18 : decode prog_8_method_1_code 18 = .ok (.newarray .int, 2) := by decide +kernel
theorem d_TO_init_20 : decode prog_8_method_1_code 20 = .ok (.putfield 19, 3) := by decide +kernel
theorem d_TO_init_23 : decode prog_8_method_1_code 23 = .ok (.aload_n 0, 1) := by decide +kernel
theorem d_TO_init_24 : decode prog_8_method_1_code 24 = .ok (.iconst 0, 1) := by decide +kernel
theorem d_TO_init_25 : decode prog_8_method_1_code 25 = .ok (.newarray .int, 2) := by decide +kernel
theorem d_TO_init_27 : decode prog_8_method_1_code 27 = .ok (.putfield 23, 3) := by decide +kernel
theorem d_TO_init_30 : decode prog_8_method_1_code 30 = .ok (.aload_n 0, 1) := by decide +kernel
theorem d_TO_init_31 : decode prog_8_method_1_code 31 = .ok (.iconst 0, 1) := by decide +kernel
theorem d_TO_init_32 : decode prog_8_method_1_code 32 = .ok (.newarray .int, 2) := by decide +kernel
theorem d_TO_init_34 : decode prog_8_method_1_code 34 = .ok (.putfield 26, 3) := by decide +kernel
theorem d_TO_init_37 : decode prog_8_method_1_code 37 = .ok (.aload_n 0, 1) := by decide +kernel
theorem d_TO_init_38 : decode prog_8_method_1_code 38 = .ok (.iconst 0, 1) := by decide +kernel
theorem d_TO_init_39 : decode prog_8_method_1_code 39 = .ok (.putfield 29, 3) := by decide +kernel
theorem d_TO_init_42 : decode prog_8_method_1_code 42 = .ok (.return_, 1) := by decide +kernel
theorem d_TO_scan_0 : decode prog_8_method_2_code 0 = .ok (.aload_n 0, 1) := by decide +kernel
theorem d_TO_scan_1 : decode prog_8_method_2_code 1 = .ok (.aload_n 1, 1) := by decide +kernel
theorem d_TO_scan_2 : decode prog_8_method_2_code 2 = .ok (.putfield 9, 3) := by decide +kernel
theorem d_TO_scan_5 : decode prog_8_method_2_code 5 = .ok (.aload_n 0, 1) := by decide +kernel
theorem d_TO_scan_6 : decode prog_8_method_2_code 6 = .ok (.iload_n 2, 1) := by decide +kernel
theorem d_TO_scan_7 : decode prog_8_method_2_code 7 = .ok (.aload_n 1, 1) := by decide +kernel
theorem d_TO_scan_8 : decode prog_8_method_2_code 8 = .ok (.arraylength, 1) := by decide +kernel
theorem d_TO_scan_9 : decode prog_8_method_2_code 9 = .ok (.invokestatic 32, 3) := by decide +kernel
theorem d_TO_scan_12 : decode prog_8_method_2_code 12 = .ok (.putfield 15, 3) := by decide +kernel
theorem d_TO_scan_15 : decode prog_8_method_2_code 15 = .ok (.aload_n 0, 1) := by decide +kernel
theorem d_TO_scan_16 : decode prog_8_method_2_code 16 = .ok (.aload_n 0, 1) := by decide +kernel
theorem d_TO_scan_17 : decode prog_8_method_2_code 17 = .ok (.getfield 15, 3) := by decide +kernel
theorem d_TO_scan_20 : decode prog_8_method_2_code 20 = .ok (.iconst 1, 1) := by decide +kernel
theorem d_TO_scan_21 : decode prog_8_method_2_code 21 = .ok (.iadd, 1) := by decide +kernel
theorem d_TO_scan_22 : decode prog_8_method_2_code 22 = .ok (.invokevirtual 38, 3) := by decide +kernel
theorem d_TO_scan_25 : decode prog_8_method_2_code 25 = .ok (.aload_n 0, 1) := by decide +kernel
theorem d_TO_scan_26 : decode prog_8_method_2_code 26 = .ok (.iconst 0, 1) := by decide +kernel
theorem d_TO_scan_27 : decode prog_8_method_2_code 27 = .ok (.putfield 29, 3) := by decide +kernel
theorem d_TO_scan_30 : decode prog_8_method_2_code 30 = .ok (.aload_n 0, 1) := by decide +kernel
theorem d_TO_scan_31 : decode prog_8_method_2_code 31 = .ok (.iconst 0, 1) := by decide +kernel
theorem d_TO_scan_32 : decode prog_8_method_2_code 32 = .ok (.invokevirtual 42, 3) := by decide +kernel
theorem d_TO_scan_35 : decode prog_8_method_2_code 35 = .ok (.istore_n 3, 1) := by decide +kernel
theorem d_TO_scan_36 : decode prog_8_method_2_code 36 = .ok (.iconst 0, 1) := by decide +kernel
theorem d_TO_scan_37 : decode prog_8_method_2_code 37 = .ok (.istore 4, 2) := by decide +kernel
theorem d_TO_scan_39 : decode prog_8_method_2_code 39 = .ok (.iload 4, 2) := by decide +kernel
theorem d_TO_scan_41 : decode prog_8_method_2_code 41 = .ok (.aload_n 0, 1) := by decide +kernel
theorem d_TO_scan_42 : decode prog_8_method_2_code 42 = .ok (.getfield 15, 3) := by decide +kernel
theorem d_TO_scan_45 : decode prog_8_method_2_code 45 = .ok (.if_icmp .ge 27, 3) := by decide +kernel
theorem d_TO_scan_48 : decode prog_8_method_2_code 48 = .ok (.iload_n 3, 1) := by decide +kernel
theorem d_TO_scan_49 : decode prog_8_method_2_code 49 = .ok (.aload_n 0, 1) := by decide +kernel
theorem d_TO_scan_50 : decode prog_8_method_2_code 50 = .ok (.getfield 15, 3) := by decide +kernel
theorem d_TO_scan_53 : decode prog_8_method_2_code 53 = .ok (.if_icmp .ge 19, 3) := by decide +kernel
theorem d_TO_scan_56 : decode prog_8_method_2_code 56 = .ok (.aload_n 0, 1) := by decide +kernel
theorem d_TO_scan_57 : decode prog_8_method_2_code 57 = .ok (.aload_n 0, 1) := by decide +kernel
theorem d_TO_scan_58 : decode prog_8_method_2_code 58 = .ok (.iload_n 3, 1) := by decide +kernel
theorem d_TO_scan_59 : decode prog_8_method_2_code 59 = .ok (.invokevirtual 46, 3) := by decide +kernel
theorem d_TO_scan_62 : decode prog_8_method_2_code 62 = .ok (.invokevirtual 42, 3) := by decide +kernel
theorem d_TO_scan_65 : decode prog_8_method_2_code 65 = .ok (.istore_n 3, 1) := by decide +kernel
theorem d_TO_scan_66 : decode prog_8_method_2_code 66 = .ok (.iinc 4 1, 3) := by decide +kernel
theorem d_TO_scan_69 : decode prog_8_method_2_code 69 = .ok (.goto (-30), 3) := by decide +kernel
theorem d_TO_scan_72 : decode prog_8_method_2_code 72 = .ok (.aload_n 0, 1) := by decide +kernel
theorem d_TO_scan_73 : decode prog_8_method_2_code 73 = .ok (.iconst 0, 1) := by decide +kernel
theorem d_TO_scan_74 : decode prog_8_method_2_code 74 = .ok (.aload_n 0, 1) := by decide +kernel
theorem d_TO_scan_75 : decode prog_8_method_2_code 75 = .ok (.getfield 15, 3) := by decide +kernel
theorem d_TO_scan_78 : decode prog_8_method_2_code 78 = .ok (.iconst 0, 1) := by decide +kernel
theorem d_TO_scan_79 : decode prog_8_method_2_code 79 = .ok (.invokevirtual 51, 3) := by decide +kernel
theorem d_TO_scan_82 : decode prog_8_method_2_code 82 = .ok (.return_, 1) := by decide +kernel
theorem d_TO_kindAt_0 : decode prog_8_method_3_code 0 = .ok (.iload_n 1, 1) := by decide +kernel
theorem d_TO_kindAt_1 : decode prog_8_method_3_code 1 = .ok (.ifCond .lt 20, 3) := by decide +kernel
theorem d_TO_kindAt_4 : decode prog_8_method_3_code 4 = .ok (.iload_n 1, 1) := by decide +kernel
theorem d_TO_kindAt_5 : decode prog_8_method_3_code 5 = .ok (.aload_n 0, 1) := by decide +kernel
theorem d_TO_kindAt_6 : decode prog_8_method_3_code 6 = .ok (.getfield 29, 3) := by decide +kernel
theorem d_TO_kindAt_9 : decode prog_8_method_3_code 9 = .ok (.if_icmp .ge 12, 3) := by decide +kernel
theorem d_TO_kindAt_12 : decode prog_8_method_3_code 12 = .ok (.aload_n 0, 1) := by decide +kernel
theorem d_TO_kindAt_13 : decode prog_8_method_3_code 13 = .ok (.getfield 19, 3) := by decide +kernel
theorem d_TO_kindAt_16 : decode prog_8_method_3_code 16 = .ok (.iload_n 1, 1) := by decide +kernel
theorem d_TO_kindAt_17 : decode prog_8_method_3_code 17 = .ok (.iaload, 1) := by decide +kernel
theorem d_TO_kindAt_18 : decode prog_8_method_3_code 18 = .ok (.goto 4, 3) := by decide +kernel
theorem d_TO_kindAt_21 : decode prog_8_method_3_code 21 = .ok (.iconst 0, 1) := by decide +kernel
theorem d_TO_kindAt_22 : decode prog_8_method_3_code 22 = .ok (.ireturn, 1) := by decide +kernel
theorem d_TO_placeAt_0 : decode prog_8_method_4_code 0 = .ok (.iload_n 1, 1) := by decide +kernel
theorem d_TO_placeAt_1 : decode prog_8_method_4_code 1 = .ok (.ifCond .lt 20, 3) := by decide +kernel
theorem d_TO_placeAt_4 : decode prog_8_method_4_code 4 = .ok (.iload_n 1, 1) := by decide +kernel
theorem d_TO_placeAt_5 : decode prog_8_method_4_code 5 = .ok (.aload_n 0, 1) := by decide +kernel
theorem d_TO_placeAt_6 : decode prog_8_method_4_code 6 = .ok (.getfield 29, 3) := by decide +kernel
theorem d_TO_placeAt_9 : decode prog_8_method_4_code 9 = .ok (.if_icmp .ge 12, 3) := by decide +kernel
theorem d_TO_placeAt_12 : decode prog_8_method_4_code 12 = .ok (.aload_n 0, 1) := by decide +kernel
theorem d_TO_placeAt_13 : decode prog_8_method_4_code 13 = .ok (.getfield 23, 3) := by decide +kernel
theorem d_TO_placeAt_16 : decode prog_8_method_4_code 16 = .ok (.iload_n 1, 1) := by decide +kernel
theorem d_TO_placeAt_17 : decode prog_8_method_4_code 17 = .ok (.iaload, 1) := by decide +kernel
theorem d_TO_placeAt_18 : decode prog_8_method_4_code 18 = .ok (.goto 7, 3) := by decide +kernel
theorem d_TO_placeAt_21 : decode prog_8_method_4_code 21 = .ok (.aload_n 0, 1) := by decide +kernel
theorem d_TO_placeAt_22 : decode prog_8_method_4_code 22 = .ok (.getfield 15, 3) := by decide +kernel
theorem d_TO_placeAt_25 : decode prog_8_method_4_code 25 = .ok (.ireturn, 1) := by decide +kernel
theorem d_TO_valueAt_0 : decode prog_8_method_5_code 0 = .ok (.iload_n 1, 1) := by decide +kernel
theorem d_TO_valueAt_1 : decode prog_8_method_5_code 1 = .ok (.ifCond .lt 20, 3) := by decide +kernel
theorem d_TO_valueAt_4 : decode prog_8_method_5_code 4 = .ok (.iload_n 1, 1) := by decide +kernel
theorem d_TO_valueAt_5 : decode prog_8_method_5_code 5 = .ok (.aload_n 0, 1) := by decide +kernel
theorem d_TO_valueAt_6 : decode prog_8_method_5_code 6 = .ok (.getfield 29, 3) := by decide +kernel
theorem d_TO_valueAt_9 : decode prog_8_method_5_code 9 = .ok (.if_icmp .ge 12, 3) := by decide +kernel
theorem d_TO_valueAt_12 : decode prog_8_method_5_code 12 = .ok (.aload_n 0, 1) := by decide +kernel
theorem d_TO_valueAt_13 : decode prog_8_method_5_code 13 = .ok (.getfield 26, 3) := by decide +kernel
theorem d_TO_valueAt_16 : decode prog_8_method_5_code 16 = .ok (.iload_n 1, 1) := by decide +kernel
theorem d_TO_valueAt_17 : decode prog_8_method_5_code 17 = .ok (.iaload, 1) := by decide +kernel
theorem d_TO_valueAt_18 : decode prog_8_method_5_code 18 = .ok (.goto 4, 3) := by decide +kernel
theorem d_TO_valueAt_21 : decode prog_8_method_5_code 21 = .ok (.iconst 0, 1) := by decide +kernel
theorem d_TO_valueAt_22 : decode prog_8_method_5_code 22 = .ok (.ireturn, 1) := by decide +kernel
theorem d_TO_behindWord_0 : decode prog_8_method_6_code 0 = .ok (.iload_n 1, 1) := by decide +kernel
theorem d_TO_behindWord_1 : decode prog_8_method_6_code 1 = .ok (.istore_n 2, 1) := by decide +kernel
theorem d_TO_behindWord_2 : decode prog_8_method_6_code 2 = .ok (.iload_n 2, 1) := by decide +kernel
theorem d_TO_behindWord_3 : decode prog_8_method_6_code 3 = .ok (.aload_n 0, 1) := by decide +kernel
theorem d_TO_behindWord_4 : decode prog_8_method_6_code 4 = .ok (.getfield 15, 3) := by decide +kernel
theorem d_TO_behindWord_7 : decode prog_8_method_6_code 7 = .ok (.if_icmp .ge 21, 3) := by decide +kernel
theorem d_TO_behindWord_10 : decode prog_8_method_6_code 10 = .ok (.aload_n 0, 1) := by decide +kernel
theorem d_TO_behindWord_11 : decode prog_8_method_6_code 11 = .ok (.getfield 9, 3) := by decide +kernel
theorem d_TO_behindWord_14 : decode prog_8_method_6_code 14 = .ok (.iload_n 2, 1) := by decide +kernel
theorem d_TO_behindWord_15 : decode prog_8_method_6_code 15 = .ok (.baload, 1) := by decide +kernel
theorem d_TO_behindWord_16 : decode prog_8_method_6_code 16 = .ok (.invokestatic 55, 3) := by decide +kernel
theorem d_TO_behindWord_19 : decode prog_8_method_6_code 19 = .ok (.ifCond .eq 9, 3) := by decide +kernel
theorem d_TO_behindWord_22 : decode prog_8_method_6_code 22 = .ok (.iinc 2 1, 3) := by decide +kernel
theorem d_TO_behindWord_25 : decode prog_8_method_6_code 25 = .ok (.goto (-23), 3) := by decide +kernel
theorem d_TO_behindWord_28 : decode prog_8_method_6_code 28 = .ok (.iload_n 2, 1) := by decide +kernel
theorem d_TO_behindWord_29 : decode prog_8_method_6_code 29 = .ok (.ireturn, 1) := by decide +kernel
theorem d_TO_makeRoom_0 : decode prog_8_method_7_code 0 = .ok (.iload_n 1, 1) := by decide +kernel
theorem d_TO_makeRoom_1 : decode prog_8_method_7_code 1 = .ok (.aload_n 0, 1) := by decide +kernel
theorem d_TO_makeRoom_2 : decode prog_8_method_7_code 2 = .ok (.getfield 19, 3) := by decide +kernel
theorem d_TO_makeRoom_5 : decode prog_8_method_7_code 5 = .ok (.arraylength, 1) := by decide +kernel
theorem d_TO_makeRoom_6 : decode prog_8_method_7_code 6 = .ok (.if_icmp .le 34, 3) := by decide +kernel
theorem d_TO_makeRoom_9 : decode prog_8_method_7_code 9 = .ok (.aload_n 0, 1) := by decide +kernel
theorem d_TO_makeRoom_10 : decode prog_8_method_7_code 10 = .ok (.getfield 19, 3) := by decide +kernel
theorem d_TO_makeRoom_13 : decode prog_8_method_7_code 13 = .ok (.arraylength, 1) := by decide +kernel
theorem d_TO_makeRoom_14 : decode prog_8_method_7_code 14 = .ok (.iload_n 1, 1) := by decide +kernel
theorem d_TO_makeRoom_15 : decode prog_8_method_7_code 15 = .ok (.invokestatic 59, 3) := by decide +kernel
theorem d_TO_makeRoom_18 : decode prog_8_method_7_code 18 = .ok (.istore_n 2, 1) := by decide +kernel
theorem d_TO_makeRoom_19 : decode prog_8_method_7_code 19 = .ok (.aload_n 0, 1) := by decide +kernel
theorem d_TO_makeRoom_20 : decode prog_8_method_7_code 20 = .ok (.iload_n 2, 1) := by decide +kernel
theorem d_TO_makeRoom_21 : decode prog_8_method_7_code 21 = .ok (.newarray .int, 2) := by decide +kernel
theorem d_TO_makeRoom_23 : decode prog_8_method_7_code 23 = .ok (.putfield 19, 3) := by decide +kernel
theorem d_TO_makeRoom_26 : decode prog_8_method_7_code 26 = .ok (.aload_n 0, 1) := by decide +kernel
theorem d_TO_makeRoom_27 : decode prog_8_method_7_code 27 = .ok (.iload_n 2, 1) := by decide +kernel
theorem d_TO_makeRoom_28 : decode prog_8_method_7_code 28 = .ok (.newarray .int, 2) := by decide +kernel
theorem d_TO_makeRoom_30 : decode prog_8_method_7_code 30 = .ok (.putfield 23, 3) := by decide +kernel
theorem d_TO_makeRoom_33 : decode prog_8_method_7_code 33 = .ok (.aload_n 0, 1) := by decide +kernel
theorem d_TO_makeRoom_34 : decode prog_8_method_7_code 34 = .ok (.iload_n 2, 1) := by decide +kernel
theorem d_TO_makeRoom_35 : decode prog_8_method_7_code 35 = .ok (.newarray .int, 2) := by decide +kernel
theorem d_TO_makeRoom_37 : decode prog_8_method_7_code 37 = .ok (.putfield 26, 3) := by decide +kernel
theorem d_TO_makeRoom_40 : decode prog_8_method_7_code 40 = .ok (.return_, 1) := by decide +kernel
theorem d_TO_add_0 : decode prog_8_method_8_code 0 = .ok (.aload_n 0, 1) := by decide +kernel
theorem d_TO_add_1 : decode prog_8_method_8_code 1 = .ok (.getfield 29, 3) := by decide +kernel
theorem d_TO_add_4 : decode prog_8_method_8_code 4 = .ok (.aload_n 0, 1) := by decide +kernel
theorem d_TO_add_5 : decode prog_8_method_8_code 5 = .ok (.getfield 19, 3) := by decide +kernel
theorem d_TO_add_8 : decode prog_8_method_8_code 8 = .ok (.arraylength, 1) := by decide +kernel
theorem d_TO_add_9 : decode prog_8_method_8_code 9 = .ok (.if_icmp .ge 43, 3) := by decide +kernel
theorem d_TO_add_12 : decode prog_8_method_8_code 12 = .ok (.aload_n 0, 1) := by decide +kernel
theorem d_TO_add_13 : decode prog_8_method_8_code 13 = .ok (.getfield 19, 3) := by decide +kernel
theorem d_TO_add_16 : decode prog_8_method_8_code 16 = .ok (.aload_n 0, 1) := by decide +kernel
theorem d_TO_add_17 : decode prog_8_method_8_code 17 = .ok (.getfield 29, 3) := by decide +kernel
theorem d_TO_add_20 : decode prog_8_method_8_code 20 = .ok (.iload_n 1, 1) := by decide +kernel
theorem d_TO_add_21 : decode prog_8_method_8_code 21 = .ok (.iastore, 1) := by decide +kernel
theorem d_TO_add_22 : decode prog_8_method_8_code 22 = .ok (.aload_n 0, 1) := by decide +kernel
theorem d_TO_add_23 : decode prog_8_method_8_code 23 = .ok (.getfield 23, 3) := by decide +kernel
theorem d_TO_add_26 : decode prog_8_method_8_code 26 = .ok (.aload_n 0, 1) := by decide +kernel
theorem d_TO_add_27 : decode prog_8_method_8_code 27 = .ok (.getfield 29, 3) := by decide +kernel
theorem d_TO_add_30 : decode prog_8_method_8_code 30 = .ok (.iload_n 2, 1) := by decide +kernel
theorem d_TO_add_31 : decode prog_8_method_8_code 31 = .ok (.iastore, 1) := by decide +kernel
theorem d_TO_add_32 : decode prog_8_method_8_code 32 = .ok (.aload_n 0, 1) := by decide +kernel
theorem d_TO_add_33 : decode prog_8_method_8_code 33 = .ok (.getfield 26, 3) := by decide +kernel
theorem d_TO_add_36 : decode prog_8_method_8_code 36 = .ok (.aload_n 0, 1) := by decide +kernel
theorem d_TO_add_37 : decode prog_8_method_8_code 37 = .ok (.getfield 29, 3) := by decide +kernel
theorem d_TO_add_40 : decode prog_8_method_8_code 40 = .ok (.iload_n 3, 1) := by decide +kernel
theorem d_TO_add_41 : decode prog_8_method_8_code 41 = .ok (.iastore, 1) := by decide +kernel
theorem d_TO_add_42 : decode prog_8_method_8_code 42 = .ok (.aload_n 0, 1) := by decide +kernel
theorem d_TO_add_43 : decode prog_8_method_8_code 43 = .ok (.dup, 1) := by decide +kernel
theorem d_TO_add_44 : decode prog_8_method_8_code 44 = .ok (.getfield 29, 3) := by decide +kernel
theorem d_TO_add_47 : decode prog_8_method_8_code 47 = .ok (.iconst 1, 1) := by decide +kernel
theorem d_TO_add_48 : decode prog_8_method_8_code 48 = .ok (.iadd, 1) := by decide +kernel
theorem d_TO_add_49 : decode prog_8_method_8_code 49 = .ok (.putfield 29, 3) := by decide +kernel
theorem d_TO_add_52 : decode prog_8_method_8_code 52 = .ok (.return_, 1) := by decide +kernel
theorem d_TO_behindBlanks_0 : decode prog_8_method_9_code 0 = .ok (.iconst 0, 1) := by decide +kernel
theorem d_TO_behindBlanks_1 : decode prog_8_method_9_code 1 = .ok (.istore_n 2, 1) := by decide +kernel
theorem d_TO_behindBlanks_2 : decode prog_8_method_9_code 2 = .ok (.iload_n 1, 1) := by decide +kernel
theorem d_TO_behindBlanks_3 : decode prog_8_method_9_code 3 = .ok (.istore_n 3, 1) := by decide +kernel
theorem d_TO_behindBlanks_4 : decode prog_8_method_9_code 4 = .ok (.iload_n 3, 1) := by decide +kernel
theorem d_TO_behindBlanks_5 : decode prog_8_method_9_code 5 = .ok (.aload_n 0, 1) := by decide +kernel
theorem d_TO_behindBlanks_6 : decode prog_8_method_9_code 6 = .ok (.getfield 15, 3) := by decide +kernel
theorem d_TO_behindBlanks_9 : decode prog_8_method_9_code 9 = .ok (.if_icmp .ge 61, 3) := by decide +kernel
theorem d_TO_behindBlanks_12 : decode prog_8_method_9_code 12 = .ok (.iload_n 2, 1) := by decide +kernel
theorem d_TO_behindBlanks_13 : decode prog_8_method_9_code 13 = .ok (.ifCond .eq 23, 3) := by decide +kernel
theorem d_TO_behindBlanks_16 : decode prog_8_method_9_code 16 = .ok (.aload_n 0, 1) := by decide +kernel
theorem d_TO_behindBlanks_17 : decode prog_8_method_9_code 17 = .ok (.getfield 9, 3) := by decide +kernel
theorem d_TO_behindBlanks_20 : decode prog_8_method_9_code 20 = .ok (.iload_n 3, 1) := by decide +kernel
theorem d_TO_behindBlanks_21 : decode prog_8_method_9_code 21 = .ok (.baload, 1) := by decide +kernel
theorem d_TO_behindBlanks_22 : decode prog_8_method_9_code 22 = .ok (.bipush 10, 2) := by decide +kernel
theorem d_TO_behindBlanks_24 : decode prog_8_method_9_code 24 = .ok (.if_icmp .eq 7, 3) := by decide +kernel
theorem d_TO_behindBlanks_27 : decode prog_8_method_9_code 27 = .ok (.iconst 1, 1) := by decide +kernel
theorem d_TO_behindBlanks_28 : decode prog_8_method_9_code 28 = .ok (.goto 4, 3) := by decide +kernel
theorem d_TO_behindBlanks_31 : decode prog_8_method_9_code 31 = .ok (.iconst 0, 1) := by decide +kernel
theorem d_TO_behindBlanks_32 : decode prog_8_method_9_code 32 = .ok (.istore_n 2, 1) := by decide +kernel
theorem d_TO_behindBlanks_33 : decode prog_8_method_9_code 33 = .ok (.goto 31, 3) := by decide +kernel
theorem d_TO_behindBlanks_36 : decode prog_8_method_9_code 36 = .ok (.aload_n 0, 1) := by decide +kernel
theorem d_TO_behindBlanks_37 : decode prog_8_method_9_code 37 = .ok (.iload_n 3, 1) := by decide +kernel
theorem d_TO_behindBlanks_38 : decode prog_8_method_9_code 38 = .ok (.invokevirtual 62, 3) := by decide +kernel
theorem d_TO_behindBlanks_41 : decode prog_8_method_9_code 41 = .ok (.ifCond .eq 8, 3) := by decide +kernel
theorem d_TO_behindBlanks_44 : decode prog_8_method_9_code 44 = .ok (.iconst 1, 1) := by decide +kernel
theorem d_TO_behindBlanks_45 : decode prog_8_method_9_code 45 = .ok (.istore_n 2, 1) := by decide +kernel
theorem d_TO_behindBlanks_46 : decode prog_8_method_9_code 46 = .ok (.goto 18, 3) := by decide +kernel
theorem d_TO_behindBlanks_49 : decode prog_8_method_9_code 49 = .ok (.aload_n 0, 1) := by decide +kernel
theorem d_TO_behindBlanks_50 : decode prog_8_method_9_code 50 = .ok (.getfield 9, 3) := by decide +kernel
theorem d_TO_behindBlanks_53 : decode prog_8_method_9_code 53 = .ok (.iload_n 3, 1) := by decide +kernel
theorem d_TO_behindBlanks_54 : decode prog_8_method_9_code 54 = .ok (.baload, 1) := by decide +kernel
theorem d_TO_behindBlanks_55 : decode prog_8_method_9_code 55 = .ok (.invokestatic 65, 3) := by decide +kernel
theorem d_TO_behindBlanks_58 : decode prog_8_method_9_code 58 = .ok (.ifCond .ne 6, 3) := by decide +kernel
theorem d_TO_behindBlanks_61 : decode prog_8_method_9_code 61 = .ok (.goto 9, 3) := by decide +kernel
theorem d_TO_behindBlanks_64 : decode prog_8_method_9_code 64 = .ok (.iinc 3 1, 3) := by decide +kernel
theorem d_TO_behindBlanks_67 : decode prog_8_method_9_code 67 = .ok (.goto (-63), 3) := by decide +kernel
theorem d_TO_behindBlanks_70 : decode prog_8_method_9_code 70 = .ok (.iload_n 3, 1) := by decide +kernel
theorem d_TO_behindBlanks_71 : decode prog_8_method_9_code 71 = .ok (.ireturn, 1) := by decide +kernel
theorem d_TO_startsRemark_0 : decode prog_8_method_10_code 0 = .ok (.iload_n 1, 1) := by decide +kernel
theorem d_TO_startsRemark_1 : decode prog_8_method_10_code 1 = .ok (.iconst 1, 1) := by decide +kernel
theorem d_TO_startsRemark_2 : decode prog_8_method_10_code 2 = .ok (.iadd, 1) := by decide +kernel
theorem d_TO_startsRemark_3 : decode prog_8_method_10_code 3 = .ok (.aload_n 0, 1) := by decide +kernel
theorem d_TO_startsRemark_4 : decode prog_8_method_10_code 4 = .ok (.getfield 15, 3) := by decide +kernel
theorem d_TO_startsRemark_7 : decode prog_8_method_10_code 7 = .ok (.if_icmp .ge 31, 3) := by decide +kernel
theorem d_TO_startsRemark_10 : decode prog_8_method_10_code 10 = .ok (.aload_n 0, 1) := by decide +kernel
theorem d_TO_startsRemark_11 : decode prog_8_method_10_code 11 = .ok (.getfield 9, 3) := by decide +kernel
theorem d_TO_startsRemark_14 : decode prog_8_method_10_code 14 = .ok (.iload_n 1, 1) := by decide +kernel
theorem d_TO_startsRemark_15 : decode prog_8_method_10_code 15 = .ok (.baload, 1) := by decide +kernel
theorem d_TO_startsRemark_16 : decode prog_8_method_10_code 16 = .ok (.bipush 47, 2) := by decide +kernel
theorem d_TO_startsRemark_18 : decode prog_8_method_10_code 18 = .ok (.if_icmp .ne 20, 3) := by decide +kernel
theorem d_TO_startsRemark_21 : decode prog_8_method_10_code 21 = .ok (.aload_n 0, 1) := by decide +kernel
theorem d_TO_startsRemark_22 : decode prog_8_method_10_code 22 = .ok (.getfield 9, 3) := by decide +kernel
theorem d_TO_startsRemark_25 : decode prog_8_method_10_code 25 = .ok (.iload_n 1, 1) := by decide +kernel
theorem d_TO_startsRemark_26 : decode prog_8_method_10_code 26 = .ok (.iconst 1, 1) := by decide +kernel
theorem d_TO_startsRemark_27 : decode prog_8_method_10_code 27 = .ok (.iadd, 1) := by decide +kernel
theorem d_TO_startsRemark_28 : decode prog_8_method_10_code 28 = .ok (.baload, 1) := by decide +kernel
theorem d_TO_startsRemark_29 : decode prog_8_method_10_code 29 = .ok (.bipush 47, 2) := by decide +kernel
theorem d_TO_startsRemark_31 : decode prog_8_method_10_code 31 = .ok (.if_icmp .ne 7, 3) := by decide +kernel
theorem d_TO_startsRemark_34 : decode prog_8_method_10_code 34 = .ok (.iconst 1, 1) := by decide +kernel
theorem d_TO_startsRemark_35 : decode prog_8_method_10_code 35 = .ok (.goto 4, 3) := by decide +kernel
theorem d_TO_startsRemark_38 : decode prog_8_method_10_code 38 = .ok (.iconst 0, 1) := by decide +kernel
theorem d_TO_startsRemark_39 : decode prog_8_method_10_code 39 = .ok (.ireturn, 1) := by decide +kernel
theorem d_TO_takeToken_0 : decode prog_8_method_11_code 0 = .ok (.aload_n 0, 1) := by decide +kernel
theorem d_TO_takeToken_1 : decode prog_8_method_11_code 1 = .ok (.getfield 9, 3) := by decide +kernel
theorem d_TO_takeToken_4 : decode prog_8_method_11_code 4 = .ok (.iload_n 1, 1) := by decide +kernel
theorem d_TO_takeToken_5 : decode prog_8_method_11_code 5 = .ok (.baload, 1) := by decide +kernel
theorem d_TO_takeToken_6 : decode prog_8_method_11_code 6 = .ok (.invokestatic 68, 3) := by decide +kernel
theorem d_TO_takeToken_9 : decode prog_8_method_11_code 9 = .ok (.ifCond .eq 9, 3) := by decide +kernel
theorem d_TO_takeToken_12 : decode prog_8_method_11_code 12 = .ok (.aload_n 0, 1) := by decide +kernel
theorem d_TO_takeToken_13 : decode prog_8_method_11_code 13 = .ok (.iload_n 1, 1) := by decide +kernel
theorem d_TO_takeToken_14 : decode prog_8_method_11_code 14 = .ok (.invokevirtual 71, 3) := by decide +kernel
theorem d_TO_takeToken_17 : decode prog_8_method_11_code 17 = .ok (.ireturn, 1) := by decide +kernel
theorem d_TO_takeToken_18 : decode prog_8_method_11_code 18 = .ok (.aload_n 0, 1) := by decide +kernel
theorem d_TO_takeToken_19 : decode prog_8_method_11_code 19 = .ok (.getfield 9, 3) := by decide +kernel
theorem d_TO_takeToken_22 : decode prog_8_method_11_code 22 = .ok (.iload_n 1, 1) := by decide +kernel
theorem d_TO_takeToken_23 : decode prog_8_method_11_code 23 = .ok (.baload, 1) := by decide +kernel
theorem d_TO_takeToken_24 : decode prog_8_method_11_code 24 = .ok (.invokestatic 74, 3) := by decide +kernel
theorem d_TO_takeToken_27 : decode prog_8_method_11_code 27 = .ok (.ifCond .eq 9, 3) := by decide +kernel
theorem d_TO_takeToken_30 : decode prog_8_method_11_code 30 = .ok (.aload_n 0, 1) := by decide +kernel
theorem d_TO_takeToken_31 : decode prog_8_method_11_code 31 = .ok (.iload_n 1, 1) := by decide +kernel
theorem d_TO_takeToken_32 : decode prog_8_method_11_code 32 = .ok (.invokevirtual 77, 3) := by decide +kernel
theorem d_TO_takeToken_35 : decode prog_8_method_11_code 35 = .ok (.ireturn, 1) := by decide +kernel
theorem d_TO_takeToken_36 : decode prog_8_method_11_code 36 = .ok (.aload_n 0, 1) := by decide +kernel
theorem d_TO_takeToken_37 : decode prog_8_method_11_code 37 = .ok (.iload_n 1, 1) := by decide +kernel
theorem d_TO_takeToken_38 : decode prog_8_method_11_code 38 = .ok (.invokevirtual 80, 3) := by decide +kernel
theorem d_TO_takeToken_41 : decode prog_8_method_11_code 41 = .ok (.istore_n 2, 1) := by decide +kernel
theorem d_TO_takeToken_42 : decode prog_8_method_11_code 42 = .ok (.aload_n 0, 1) := by decide +kernel
theorem d_TO_takeToken_43 : decode prog_8_method_11_code 43 = .ok (.iload_n 2, 1) := by decide +kernel
theorem d_TO_takeToken_44 : decode prog_8_method_11_code 44 = .ok (.iload_n 1, 1) := by decide +kernel
theorem d_TO_takeToken_45 : decode prog_8_method_11_code 45 = .ok (.iload_n 1, 1) := by decide +kernel
theorem d_TO_takeToken_46 : decode prog_8_method_11_code 46 = .ok (.iload_n 2, 1) := by decide +kernel
theorem d_TO_takeToken_47 : decode prog_8_method_11_code 47 = .ok (.invokestatic 83, 3) := by decide +kernel
theorem d_TO_takeToken_50 : decode prog_8_method_11_code 50 = .ok (.ifCond .eq 7, 3) := by decide +kernel
theorem d_TO_takeToken_53 : decode prog_8_method_11_code 53 = .ok (.iconst 2, 1) := by decide +kernel
theorem d_TO_takeToken_54 : decode prog_8_method_11_code 54 = .ok (.goto 4, 3) := by decide +kernel
theorem d_TO_takeToken_57 : decode prog_8_method_11_code 57 = .ok (.iconst 1, 1) := by decide +kernel
theorem d_TO_takeToken_58 : decode prog_8_method_11_code 58 = .ok (.iadd, 1) := by decide +kernel
theorem d_TO_takeToken_59 : decode prog_8_method_11_code 59 = .ok (.iconst 0, 1) := by decide +kernel
theorem d_TO_takeToken_60 : decode prog_8_method_11_code 60 = .ok (.invokevirtual 86, 3) := by decide +kernel
theorem d_TO_takeToken_63 : decode prog_8_method_11_code 63 = .ok (.ireturn, 1) := by decide +kernel
theorem d_TO_take_0 : decode prog_8_method_12_code 0 = .ok (.aload_n 0, 1) := by decide +kernel
theorem d_TO_take_1 : decode prog_8_method_12_code 1 = .ok (.iload_n 1, 1) := by decide +kernel
theorem d_TO_take_2 : decode prog_8_method_12_code 2 = .ok (.iload_n 2, 1) := by decide +kernel
theorem d_TO_take_3 : decode prog_8_method_12_code 3 = .ok (.iload 4, 2) := by decide +kernel
theorem d_TO_take_5 : decode prog_8_method_12_code 5 = .ok (.invokevirtual 51, 3) := by decide +kernel
theorem d_TO_take_8 : decode prog_8_method_12_code 8 = .ok (.iload_n 1, 1) := by decide +kernel
theorem d_TO_take_9 : decode prog_8_method_12_code 9 = .ok (.iconst 1, 1) := by decide +kernel
theorem d_TO_take_10 : decode prog_8_method_12_code 10 = .ok (.if_icmp .ne 10, 3) := by decide +kernel
theorem d_TO_take_13 : decode prog_8_method_12_code 13 = .ok (.aload_n 0, 1) := by decide +kernel
theorem d_TO_take_14 : decode prog_8_method_12_code 14 = .ok (.getfield 15, 3) := by decide +kernel
theorem d_TO_take_17 : decode prog_8_method_12_code 17 = .ok (.goto 4, 3) := by decide +kernel
theorem d_TO_take_20 : decode prog_8_method_12_code 20 = .ok (.iload_n 3, 1) := by decide +kernel
theorem d_TO_take_21 : decode prog_8_method_12_code 21 = .ok (.ireturn, 1) := by decide +kernel
theorem d_TO_takeWord_0 : decode prog_8_method_13_code 0 = .ok (.aload_n 0, 1) := by decide +kernel
theorem d_TO_takeWord_1 : decode prog_8_method_13_code 1 = .ok (.iload_n 1, 1) := by decide +kernel
theorem d_TO_takeWord_2 : decode prog_8_method_13_code 2 = .ok (.invokevirtual 90, 3) := by decide +kernel
theorem d_TO_takeWord_5 : decode prog_8_method_13_code 5 = .ok (.istore_n 2, 1) := by decide +kernel
theorem d_TO_takeWord_6 : decode prog_8_method_13_code 6 = .ok (.iload_n 2, 1) := by decide +kernel
theorem d_TO_takeWord_7 : decode prog_8_method_13_code 7 = .ok (.iload_n 1, 1) := by decide +kernel
theorem d_TO_takeWord_8 : decode prog_8_method_13_code 8 = .ok (.isub, 1) := by decide +kernel
theorem d_TO_takeWord_9 : decode prog_8_method_13_code 9 = .ok (.bipush 30, 2) := by decide +kernel
theorem d_TO_takeWord_11 : decode prog_8_method_13_code 11 = .ok (.if_icmp .le 7, 3) := by decide +kernel
theorem d_TO_takeWord_14 : decode prog_8_method_13_code 14 = .ok (.iconst 1, 1) := by decide +kernel
theorem d_TO_takeWord_15 : decode prog_8_method_13_code 15 = .ok (.goto 4, 3) := by decide +kernel
theorem d_TO_takeWord_18 : decode prog_8_method_13_code 18 = .ok (.iconst 0, 1) := by decide +kernel
theorem d_TO_takeWord_19 : decode prog_8_method_13_code 19 = .ok (.istore_n 3, 1) := by decide +kernel
theorem d_TO_takeWord_20 : decode prog_8_method_13_code 20 = .ok (.aload_n 0, 1) := by decide +kernel
theorem d_TO_takeWord_21 : decode prog_8_method_13_code 21 = .ok (.iload_n 3, 1) := by decide +kernel
theorem d_TO_takeWord_22 : decode prog_8_method_13_code 22 = .ok (.ifCond .eq 7, 3) := by decide +kernel
theorem d_TO_takeWord_25 : decode prog_8_method_13_code 25 = .ok (.iconst 1, 1) := by decide +kernel
theorem d_TO_takeWord_26 : decode prog_8_method_13_code 26 = .ok (.goto 9, 3) := by decide +kernel
theorem d_TO_takeWord_29 : decode prog_8_method_13_code 29 = .ok (.aload_n 0, 1) := by decide +kernel
theorem d_TO_takeWord_30 : decode prog_8_method_13_code 30 = .ok (.iload_n 1, 1) := by decide +kernel
theorem d_TO_takeWord_31 : decode prog_8_method_13_code 31 = .ok (.iload_n 2, 1) := by decide +kernel
theorem d_TO_takeWord_32 : decode prog_8_method_13_code 32 = .ok (.invokevirtual 93, 3) := by decide +kernel
theorem d_TO_takeWord_35 : decode prog_8_method_13_code 35 = .ok (.iload_n 1, 1) := by decide +kernel
theorem d_TO_takeWord_36 : decode prog_8_method_13_code 36 = .ok (.iload_n 2, 1) := by decide +kernel
theorem d_TO_takeWord_37 : decode prog_8_method_13_code 37 = .ok (.iconst 0, 1) := by decide +kernel
theorem d_TO_takeWord_38 : decode prog_8_method_13_code 38 = .ok (.invokevirtual 86, 3) := by decide +kernel
theorem d_TO_takeWord_41 : decode prog_8_method_13_code 41 = .ok (.ireturn, 1) := by decide +kernel
theorem d_TO_takeNumber_0 : decode prog_8_method_14_code 0 = .ok (.lconst 0, 1) := by decide +kernel
theorem d_TO_takeNumber_1 : decode prog_8_method_14_code 1 = .ok (.lstore_n 2, 1) := by decide +kernel
theorem d_TO_takeNumber_2 : decode prog_8_method_14_code 2 = .ok (.iload_n 1, 1) := by decide +kernel
theorem d_TO_takeNumber_3 : decode prog_8_method_14_code 3 = .ok (.istore 4, 2) := by decide +kernel
theorem d_TO_takeNumber_5 : decode prog_8_method_14_code 5 = .ok (.iload 4, 2) := by decide +kernel
theorem d_TO_takeNumber_7 : decode prog_8_method_14_code 7 = .ok (.aload_n 0, 1) := by decide +kernel
theorem d_TO_takeNumber_8 : decode prog_8_method_14_code 8 = .ok (.getfield 15, 3) := by decide +kernel
theorem d_TO_takeNumber_11 : decode prog_8_method_14_code 11 = .ok (.if_icmp .ge 47, 3) := by decide +kernel
theorem d_TO_takeNumber_14 : decode prog_8_method_14_code 14 = .ok (.aload_n 0, 1) := by decide +kernel
theorem d_TO_takeNumber_15 : decode prog_8_method_14_code 15 = .ok (.getfield 9, 3) := by decide +kernel
theorem d_TO_takeNumber_18 : decode prog_8_method_14_code 18 = .ok (.iload 4, 2) := by decide +kernel
theorem d_TO_takeNumber_20 : decode prog_8_method_14_code 20 = .ok (.baload, 1) := by decide +kernel
theorem d_TO_takeNumber_21 : decode prog_8_method_14_code 21 = .ok (.invokestatic 74, 3) := by decide +kernel
theorem d_TO_takeNumber_24 : decode prog_8_method_14_code 24 = .ok (.ifCond .eq 34, 3) := by decide +kernel
theorem d_TO_takeNumber_27 : decode prog_8_method_14_code 27 = .ok (.ldc2_w 96, 3) := by decide +kernel
theorem d_TO_takeNumber_30 : decode prog_8_method_14_code 30 = .ok (.ldc2_w 98, 3) := by decide +kernel
theorem d_TO_takeNumber_33 : decode prog_8_method_14_code 33 = .ok (.lload_n 2, 1) := by decide +kernel
theorem d_TO_takeNumber_34 : decode prog_8_method_14_code 34 = .ok (.lmul, 1) := by decide +kernel
theorem d_TO_takeNumber_35 : decode prog_8_method_14_code 35 = .ok (.aload_n 0, 1) := by decide +kernel
theorem d_TO_takeNumber_36 : decode prog_8_method_14_code 36 = .ok (.getfield 9, 3) := by decide +kernel
theorem d_TO_takeNumber_39 : decode prog_8_method_14_code 39 = .ok (.iload 4, 2) := by decide +kernel
theorem d_TO_takeNumber_41 : decode prog_8_method_14_code 41 = .ok (.baload, 1) := by decide +kernel
theorem d_TO_takeNumber_42 : decode prog_8_method_14_code 42 = .ok (.i2l, 1) := by decide +kernel
theorem d_TO_takeNumber_43 : decode prog_8_method_14_code 43 = .ok (.ladd, 1) := by decide +kernel
theorem d_TO_takeNumber_44 : decode prog_8_method_14_code 44 = .ok (.ldc2_w 100, 3) := by decide +kernel
theorem d_TO_takeNumber_47 : decode prog_8_method_14_code 47 = .ok (.lsub, 1) := by decide +kernel
theorem d_TO_takeNumber_48 : decode prog_8_method_14_code 48 = .ok (.invokestatic 102, 3) := by decide +kernel
theorem d_TO_takeNumber_51 : decode prog_8_method_14_code 51 = .ok (.lstore_n 2, 1) := by decide +kernel
theorem d_TO_takeNumber_52 : decode prog_8_method_14_code 52 = .ok (.iinc 4 1, 3) := by decide +kernel
theorem d_TO_takeNumber_55 : decode prog_8_method_14_code 55 = .ok (.goto (-50), 3) := by decide +kernel
theorem d_TO_takeNumber_58 : decode prog_8_method_14_code 58 = .ok (.aload_n 0, 1) := by decide +kernel
theorem d_TO_takeNumber_59 : decode prog_8_method_14_code 59 = .ok (.getfield 9, 3) := by decide +kernel
theorem d_TO_takeNumber_62 : decode prog_8_method_14_code 62 = .ok (.iload_n 1, 1) := by decide +kernel
theorem d_TO_takeNumber_63 : decode prog_8_method_14_code 63 = .ok (.baload, 1) := by decide +kernel
theorem d_TO_takeNumber_64 : decode prog_8_method_14_code 64 = .ok (.bipush 48, 2) := by decide +kernel
theorem d_TO_takeNumber_66 : decode prog_8_method_14_code 66 = .ok (.if_icmp .ne 15, 3) := by decide +kernel
theorem d_TO_takeNumber_69 : decode prog_8_method_14_code 69 = .ok (.iload 4, 2) := by decide +kernel
theorem d_TO_takeNumber_71 : decode prog_8_method_14_code 71 = .ok (.iload_n 1, 1) := by decide +kernel
theorem d_TO_takeNumber_72 : decode prog_8_method_14_code 72 = .ok (.iconst 1, 1) := by decide +kernel
theorem d_TO_takeNumber_73 : decode prog_8_method_14_code 73 = .ok (.iadd, 1) := by decide +kernel
theorem d_TO_takeNumber_74 : decode prog_8_method_14_code 74 = .ok (.if_icmp .le 7, 3) := by decide +kernel
theorem d_TO_takeNumber_77 : decode prog_8_method_14_code 77 = .ok (.iconst 1, 1) := by decide +kernel
theorem d_TO_takeNumber_78 : decode prog_8_method_14_code 78 = .ok (.goto 4, 3) := by decide +kernel
theorem d_TO_takeNumber_81 : decode prog_8_method_14_code 81 = .ok (.iconst 0, 1) := by decide +kernel
theorem d_TO_takeNumber_82 : decode prog_8_method_14_code 82 = .ok (.istore 5, 2) := by decide +kernel
theorem d_TO_takeNumber_84 : decode prog_8_method_14_code 84 = .ok (.iload 4, 2) := by decide +kernel
theorem d_TO_takeNumber_86 : decode prog_8_method_14_code 86 = .ok (.aload_n 0, 1) := by decide +kernel
theorem d_TO_takeNumber_87 : decode prog_8_method_14_code 87 = .ok (.getfield 15, 3) := by decide +kernel
theorem d_TO_takeNumber_90 : decode prog_8_method_14_code 90 = .ok (.if_icmp .ge 20, 3) := by decide +kernel
theorem d_TO_takeNumber_93 : decode prog_8_method_14_code 93 = .ok (.aload_n 0, 1) := by decide +kernel
theorem d_TO_takeNumber_94 : decode prog_8_method_14_code 94 = .ok (.getfield 9, 3) := by decide +kernel
theorem d_TO_takeNumber_97 : decode prog_8_method_14_code 97 = .ok (.iload 4, 2) := by decide +kernel
theorem d_TO_takeNumber_99 : decode prog_8_method_14_code 99 = .ok (.baload, 1) := by decide +kernel
theorem d_TO_takeNumber_100 : decode prog_8_method_14_code 100 = .ok (.invokestatic 68, 3) := by decide +kernel
theorem d_TO_takeNumber_103 : decode prog_8_method_14_code 103 = .ok (.ifCond .eq 7, 3) := by decide +kernel
theorem d_TO_takeNumber_106 : decode prog_8_method_14_code 106 = .ok (.iconst 1, 1) := by decide +kernel
theorem d_TO_takeNumber_107 : decode prog_8_method_14_code 107 = .ok (.goto 4, 3) := by decide +kernel
theorem d_TO_takeNumber_110 : decode prog_8_method_14_code 110 = .ok (.iconst 0, 1) := by decide +kernel
theorem d_TO_takeNumber_111 : decode prog_8_method_14_code 111 = .ok (.istore 6, 2) := by decide +kernel
theorem d_TO_takeNumber_113 : decode prog_8_method_14_code 113 = .ok (.lload_n 2, 1) := by decide +kernel
theorem d_TO_takeNumber_114 : decode prog_8_method_14_code 114 = .ok (.ldc2_w 96, 3) := by decide +kernel
theorem d_TO_takeNumber_117 : decode prog_8_method_14_code 117 = .ok (.lcmp, 1) := by decide +kernel
theorem d_TO_takeNumber_118 : decode prog_8_method_14_code 118 = .ok (.ifCond .ge 13, 3) := by decide +kernel
theorem d_TO_takeNumber_121 : decode prog_8_method_14_code 121 = .ok (.iload 5, 2) := by decide +kernel
theorem d_TO_takeNumber_123 : decode prog_8_method_14_code 123 = .ok (.ifCond .ne 8, 3) := by decide +kernel
theorem d_TO_takeNumber_126 : decode prog_8_method_14_code 126 = .ok (.iload 6, 2) := by decide +kernel
theorem d_TO_takeNumber_128 : decode prog_8_method_14_code 128 = .ok (.ifCond .eq 13, 3) := by decide +kernel
theorem d_TO_takeNumber_131 : decode prog_8_method_14_code 131 = .ok (.aload_n 0, 1) := by decide +kernel
theorem d_TO_takeNumber_132 : decode prog_8_method_14_code 132 = .ok (.iconst 1, 1) := by decide +kernel
theorem d_TO_takeNumber_133 : decode prog_8_method_14_code 133 = .ok (.iload_n 1, 1) := by decide +kernel
theorem d_TO_takeNumber_134 : decode prog_8_method_14_code 134 = .ok (.iload 4, 2) := by decide +kernel
theorem d_TO_takeNumber_136 : decode prog_8_method_14_code 136 = .ok (.iconst 0, 1) := by decide +kernel
theorem d_TO_takeNumber_137 : decode prog_8_method_14_code 137 = .ok (.invokevirtual 86, 3) := by decide +kernel
theorem d_TO_takeNumber_140 : decode prog_8_method_14_code 140 = .ok (.ireturn, 1) := by decide +kernel
theorem d_TO_takeNumber_141 : decode prog_8_method_14_code 141 = .ok (.aload_n 0, 1) := by decide +kernel
theorem d_TO_takeNumber_142 : decode prog_8_method_14_code 142 = .ok (.iconst 3, 1) := by decide +kernel
theorem d_TO_takeNumber_143 : decode prog_8_method_14_code 143 = .ok (.iload_n 1, 1) := by decide +kernel
theorem d_TO_takeNumber_144 : decode prog_8_method_14_code 144 = .ok (.iload 4, 2) := by decide +kernel
theorem d_TO_takeNumber_146 : decode prog_8_method_14_code 146 = .ok (.lload_n 2, 1) := by decide +kernel
theorem d_TO_takeNumber_147 : decode prog_8_method_14_code 147 = .ok (.l2i, 1) := by decide +kernel
theorem d_TO_takeNumber_148 : decode prog_8_method_14_code 148 = .ok (.invokevirtual 86, 3) := by decide +kernel
theorem d_TO_takeNumber_151 : decode prog_8_method_14_code 151 = .ok (.ireturn, 1) := by decide +kernel
theorem d_TO_wordAt_0 : decode prog_8_method_15_code 0 = .ok (.iconst 4, 1) := by decide +kernel
theorem d_TO_wordAt_1 : decode prog_8_method_15_code 1 = .ok (.istore_n 3, 1) := by decide +kernel
theorem d_TO_wordAt_2 : decode prog_8_method_15_code 2 = .ok (.iload_n 3, 1) := by decide +kernel
theorem d_TO_wordAt_3 : decode prog_8_method_15_code 3 = .ok (.bipush 11, 2) := by decide +kernel
theorem d_TO_wordAt_5 : decode prog_8_method_15_code 5 = .ok (.if_icmp .gt 24, 3) := by decide +kernel
theorem d_TO_wordAt_8 : decode prog_8_method_15_code 8 = .ok (.aload_n 0, 1) := by decide +kernel
theorem d_TO_wordAt_9 : decode prog_8_method_15_code 9 = .ok (.iload_n 3, 1) := by decide +kernel
theorem d_TO_wordAt_10 : decode prog_8_method_15_code 10 = .ok (.invokestatic 105, 3) := by decide +kernel
theorem d_TO_wordAt_13 : decode prog_8_method_15_code 13 = .ok (.iload_n 1, 1) := by decide +kernel
theorem d_TO_wordAt_14 : decode prog_8_method_15_code 14 = .ok (.iload_n 2, 1) := by decide +kernel
theorem d_TO_wordAt_15 : decode prog_8_method_15_code 15 = .ok (.invokevirtual 109, 3) := by decide +kernel
theorem d_TO_wordAt_18 : decode prog_8_method_15_code 18 = .ok (.ifCond .eq 5, 3) := by decide +kernel
theorem d_TO_wordAt_21 : decode prog_8_method_15_code 21 = .ok (.iload_n 3, 1) := by decide +kernel
theorem d_TO_wordAt_22 : decode prog_8_method_15_code 22 = .ok (.ireturn, 1) := by decide +kernel
theorem d_TO_wordAt_23 : decode prog_8_method_15_code 23 = .ok (.iinc 3 1, 3) := by decide +kernel
theorem d_TO_wordAt_26 : decode prog_8_method_15_code 26 = .ok (.goto (-24), 3) := by decide +kernel
theorem d_TO_wordAt_29 : decode prog_8_method_15_code 29 = .ok (.iconst 2, 1) := by decide +kernel
theorem d_TO_wordAt_30 : decode prog_8_method_15_code 30 = .ok (.ireturn, 1) := by decide +kernel
theorem d_TO_isSpelt_0 : decode prog_8_method_16_code 0 = .ok (.aload_n 1, 1) := by decide +kernel
theorem d_TO_isSpelt_1 : decode prog_8_method_16_code 1 = .ok (.invokevirtual 113, 3) := by decide +kernel
theorem d_TO_isSpelt_4 : decode prog_8_method_16_code 4 = .ok (.iload_n 3, 1) := by decide +kernel
theorem d_TO_isSpelt_5 : decode prog_8_method_16_code 5 = .ok (.iload_n 2, 1) := by decide +kernel
theorem d_TO_isSpelt_6 : decode prog_8_method_16_code 6 = .ok (.isub, 1) := by decide +kernel
theorem d_TO_isSpelt_7 : decode prog_8_method_16_code 7 = .ok (.if_icmp .eq 5, 3) := by decide +kernel
theorem d_TO_isSpelt_10 : decode prog_8_method_16_code 10 = .ok (.iconst 0, 1) := by decide +kernel
theorem d_TO_isSpelt_11 : decode prog_8_method_16_code 11 = .ok (.ireturn, 1) := by decide +kernel
theorem d_TO_isSpelt_12 : decode prog_8_method_16_code 12 = .ok (.iconst 0, 1) := by decide +kernel
theorem d_TO_isSpelt_13 : decode prog_8_method_16_code 13 = .ok (.istore 4, 2) := by decide +kernel
theorem d_TO_isSpelt_15 : decode prog_8_method_16_code 15 = .ok (.iload 4, 2) := by decide +kernel
theorem d_TO_isSpelt_17 : decode prog_8_method_16_code 17 = .ok (.aload_n 1, 1) := by decide +kernel
theorem d_TO_isSpelt_18 : decode prog_8_method_16_code 18 = .ok (.invokevirtual 113, 3) := by decide +kernel
theorem d_TO_isSpelt_21 : decode prog_8_method_16_code 21 = .ok (.if_icmp .ge 29, 3) := by decide +kernel
theorem d_TO_isSpelt_24 : decode prog_8_method_16_code 24 = .ok (.aload_n 0, 1) := by decide +kernel
theorem d_TO_isSpelt_25 : decode prog_8_method_16_code 25 = .ok (.getfield 9, 3) := by decide +kernel
theorem d_TO_isSpelt_28 : decode prog_8_method_16_code 28 = .ok (.iload_n 2, 1) := by decide +kernel
theorem d_TO_isSpelt_29 : decode prog_8_method_16_code 29 = .ok (.iload 4, 2) := by decide +kernel
theorem d_TO_isSpelt_31 : decode prog_8_method_16_code 31 = .ok (.iadd, 1) := by decide +kernel
theorem d_TO_isSpelt_32 : decode prog_8_method_16_code 32 = .ok (.baload, 1) := by decide +kernel
theorem d_TO_isSpelt_33 : decode prog_8_method_16_code 33 = .ok (.aload_n 1, 1) := by decide +kernel
theorem d_TO_isSpelt_34 : decode prog_8_method_16_code 34 = .ok (.iload 4, 2) := by decide +kernel
theorem d_TO_isSpelt_36 : decode prog_8_method_16_code 36 = .ok (.invokevirtual 119, 3) := by decide +kernel
theorem d_TO_isSpelt_39 : decode prog_8_method_16_code 39 = .ok (.if_icmp .eq 5, 3) := by decide +kernel
theorem d_TO_isSpelt_42 : decode prog_8_method_16_code 42 = .ok (.iconst 0, 1) := by decide +kernel
theorem d_TO_isSpelt_43 : decode prog_8_method_16_code 43 = .ok (.ireturn, 1) := by decide +kernel
theorem d_TO_isSpelt_44 : decode prog_8_method_16_code 44 = .ok (.iinc 4 1, 3) := by decide +kernel
theorem d_TO_isSpelt_47 : decode prog_8_method_16_code 47 = .ok (.goto (-32), 3) := by decide +kernel
theorem d_TO_isSpelt_50 : decode prog_8_method_16_code 50 = .ok (.iconst 1, 1) := by decide +kernel
theorem d_TO_isSpelt_51 : decode prog_8_method_16_code 51 = .ok (.ireturn, 1) := by decide +kernel
theorem d_TO_wordText_0 : decode prog_8_method_17_code 0 = .ok (.iload_n 0, 1) := by decide +kernel
theorem d_TO_wordText_1 : decode prog_8_method_17_code 1 = .ok (.tableswitch 71 4 11 #[47, 50, 53, 56, 59, 62, 65, 68], 47) := by decide +kernel
theorem d_TO_wordText_48 : decode prog_8_method_17_code 48 = .ok (.ldc 123, 2) := by decide +kernel
theorem d_TO_wordText_50 : decode prog_8_method_17_code 50 = .ok (.areturn, 1) := by decide +kernel
theorem d_TO_wordText_51 : decode prog_8_method_17_code 51 = .ok (.ldc 125, 2) := by decide +kernel
theorem d_TO_wordText_53 : decode prog_8_method_17_code 53 = .ok (.areturn, 1) := by decide +kernel
theorem d_TO_wordText_54 : decode prog_8_method_17_code 54 = .ok (.ldc 127, 2) := by decide +kernel
theorem d_TO_wordText_56 : decode prog_8_method_17_code 56 = .ok (.areturn, 1) := by decide +kernel
theorem d_TO_wordText_57 : decode prog_8_method_17_code 57 = .ok (.ldc 129, 2) := by decide +kernel
theorem d_TO_wordText_59 : decode prog_8_method_17_code 59 = .ok (.areturn, 1) := by decide +kernel
theorem d_TO_wordText_60 : decode prog_8_method_17_code 60 = .ok (.ldc 131, 2) := by decide +kernel
theorem d_TO_wordText_62 : decode prog_8_method_17_code 62 = .ok (.areturn, 1) := by decide +kernel
theorem d_TO_wordText_63 : decode prog_8_method_17_code 63 = .ok (.ldc 133, 2) := by decide +kernel
theorem d_TO_wordText_65 : decode prog_8_method_17_code 65 = .ok (.areturn, 1) := by decide +kernel
theorem d_TO_wordText_66 : decode prog_8_method_17_code 66 = .ok (.ldc 135, 2) := by decide +kernel
theorem d_TO_wordText_68 : decode prog_8_method_17_code 68 = .ok (.areturn, 1) := by decide +kernel
theorem d_TO_wordText_69 : decode prog_8_method_17_code 69 = .ok (.ldc 137, 2) := by decide +kernel
theorem d_TO_wordText_71 : decode prog_8_method_17_code 71 = .ok (.areturn, 1) := by decide +kernel
theorem d_TO_wordText_72 : decode prog_8_method_17_code 72 = .ok (.ldc 139, 2) := by decide +kernel
theorem d_TO_wordText_74 : decode prog_8_method_17_code 74 = .ok (.areturn, 1) := by decide +kernel
theorem d_TO_isLongSign_0 : decode prog_8_method_18_code 0 = .ok (.iload_n 0, 1) := by decide +kernel
theorem d_TO_isLongSign_1 : decode prog_8_method_18_code 1 = .ok (.bipush 27, 2) := by decide +kernel
theorem d_TO_isLongSign_3 : decode prog_8_method_18_code 3 = .ok (.if_icmp .le 13, 3) := by decide +kernel
theorem d_TO_isLongSign_6 : decode prog_8_method_18_code 6 = .ok (.iload_n 0, 1) := by decide +kernel
theorem d_TO_isLongSign_7 : decode prog_8_method_18_code 7 = .ok (.bipush 29, 2) := by decide +kernel
theorem d_TO_isLongSign_9 : decode prog_8_method_18_code 9 = .ok (.if_icmp .eq 7, 3) := by decide +kernel
theorem d_TO_isLongSign_12 : decode prog_8_method_18_code 12 = .ok (.iconst 1, 1) := by decide +kernel
theorem d_TO_isLongSign_13 : decode prog_8_method_18_code 13 = .ok (.goto 4, 3) := by decide +kernel
theorem d_TO_isLongSign_16 : decode prog_8_method_18_code 16 = .ok (.iconst 0, 1) := by decide +kernel
theorem d_TO_isLongSign_17 : decode prog_8_method_18_code 17 = .ok (.ireturn, 1) := by decide +kernel
theorem d_TO_signAt_0 : decode prog_8_method_19_code 0 = .ok (.iload_n 1, 1) := by decide +kernel
theorem d_TO_signAt_1 : decode prog_8_method_19_code 1 = .ok (.iconst 1, 1) := by decide +kernel
theorem d_TO_signAt_2 : decode prog_8_method_19_code 2 = .ok (.iadd, 1) := by decide +kernel
theorem d_TO_signAt_3 : decode prog_8_method_19_code 3 = .ok (.aload_n 0, 1) := by decide +kernel
theorem d_TO_signAt_4 : decode prog_8_method_19_code 4 = .ok (.getfield 15, 3) := by decide +kernel
theorem d_TO_signAt_7 : decode prog_8_method_19_code 7 = .ok (.if_icmp .ge 14, 3) := by decide +kernel
theorem d_TO_signAt_10 : decode prog_8_method_19_code 10 = .ok (.aload_n 0, 1) := by decide +kernel
theorem d_TO_signAt_11 : decode prog_8_method_19_code 11 = .ok (.getfield 9, 3) := by decide +kernel
theorem d_TO_signAt_14 : decode prog_8_method_19_code 14 = .ok (.iload_n 1, 1) := by decide +kernel
theorem d_TO_signAt_15 : decode prog_8_method_19_code 15 = .ok (.iconst 1, 1) := by decide +kernel
theorem d_TO_signAt_16 : decode prog_8_method_19_code 16 = .ok (.iadd, 1) := by decide +kernel
theorem d_TO_signAt_17 : decode prog_8_method_19_code 17 = .ok (.baload, 1) := by decide +kernel
theorem d_TO_signAt_18 : decode prog_8_method_19_code 18 = .ok (.goto 4, 3) := by decide +kernel
theorem d_TO_signAt_21 : decode prog_8_method_19_code 21 = .ok (.iconst 0, 1) := by decide +kernel
theorem d_TO_signAt_22 : decode prog_8_method_19_code 22 = .ok (.istore_n 2, 1) := by decide +kernel
theorem d_TO_signAt_23 : decode prog_8_method_19_code 23 = .ok (.aload_n 0, 1) := by decide +kernel
theorem d_TO_signAt_24 : decode prog_8_method_19_code 24 = .ok (.getfield 9, 3) := by decide +kernel
theorem d_TO_signAt_27 : decode prog_8_method_19_code 27 = .ok (.iload_n 1, 1) := by decide +kernel
theorem d_TO_signAt_28 : decode prog_8_method_19_code 28 = .ok (.baload, 1) := by decide +kernel
theorem d_TO_signAt_29 : decode prog_8_method_19_code 29 = .ok (.lookupswitch 284 #[(33, 244), (37, 199), (38, 258), (40, 163), (41, 166), (42, 193), (43, 187), (44, 181), (45, 190), (47, 196), (59, 184), (60, 216), (61, 202), (62, 230), (91, 175), (93, 178), (123, 169), (124, 271), (125, 172)], 163) := by decide +kernel
theorem d_TO_signAt_192 : decode prog_8_method_19_code 192 = .ok (.bipush 12, 2) := by decide +kernel
theorem d_TO_signAt_194 : decode prog_8_method_19_code 194 = .ok (.ireturn, 1) := by decide +kernel
theorem d_TO_signAt_195 : decode prog_8_method_19_code 195 = .ok (.bipush 13, 2) := by decide +kernel
theorem d_TO_signAt_197 : decode prog_8_method_19_code 197 = .ok (.ireturn, 1) := by decide +kernel
theorem d_TO_signAt_198 : decode prog_8_method_19_code 198 = .ok (.bipush 14, 2) := by decide +kernel
theorem d_TO_signAt_200 : decode prog_8_method_19_code 200 = .ok (.ireturn, 1) := by decide +kernel
theorem d_TO_signAt_201 : decode prog_8_method_19_code 201 = .ok (.bipush 15, 2) := by decide +kernel
theorem d_TO_signAt_203 : decode prog_8_method_19_code 203 = .ok (.ireturn, 1) := by decide +kernel
theorem d_TO_signAt_204 : decode prog_8_method_19_code 204 = .ok (.bipush 16, 2) := by decide +kernel
theorem d_TO_signAt_206 : decode prog_8_method_19_code 206 = .ok (.ireturn, 1) := by decide +kernel
theorem d_TO_signAt_207 : decode prog_8_method_19_code 207 = .ok (.bipush 17, 2) := by decide +kernel
theorem d_TO_signAt_209 : decode prog_8_method_19_code 209 = .ok (.ireturn, 1) := by decide +kernel
theorem d_TO_signAt_210 : decode prog_8_method_19_code 210 = .ok (.bipush 18, 2) := by decide +kernel
theorem d_TO_signAt_212 : decode prog_8_method_19_code 212 = .ok (.ireturn, 1) := by decide +kernel
theorem d_TO_signAt_213 : decode prog_8_method_19_code 213 = .ok (.bipush 19, 2) := by decide +kernel
theorem d_TO_signAt_215 : decode prog_8_method_19_code 215 = .ok (.ireturn, 1) := by decide +kernel
theorem d_TO_signAt_216 : decode prog_8_method_19_code 216 = .ok (.bipush 22, 2) := by decide +kernel
theorem d_TO_signAt_218 : decode prog_8_method_19_code 218 = .ok (.ireturn, 1) := by decide +kernel
theorem d_TO_signAt_219 : decode prog_8_method_19_code 219 = .ok (.bipush 23, 2) := by decide +kernel
theorem d_TO_signAt_221 : decode prog_8_method_19_code 221 = .ok (.ireturn, 1) := by decide +kernel
theorem d_TO_signAt_222 : decode prog_8_method_19_code 222 = .ok (.bipush 24, 2) := by decide +kernel
theorem d_TO_signAt_224 : decode prog_8_method_19_code 224 = .ok (.ireturn, 1) := by decide +kernel
theorem d_TO_signAt_225 : decode prog_8_method_19_code 225 = .ok (.bipush 25, 2) := by decide +kernel
theorem d_TO_signAt_227 : decode prog_8_method_19_code 227 = .ok (.ireturn, 1) := by decide +kernel
theorem d_TO_signAt_228 : decode prog_8_method_19_code 228 = .ok (.bipush 26, 2) := by decide +kernel
theorem d_TO_signAt_230 : decode prog_8_method_19_code 230 = .ok (.ireturn, 1) := by decide +kernel
theorem d_TO_signAt_231 : decode prog_8_method_19_code 231 = .ok (.iload_n 2, 1) := by decide +kernel
theorem d_TO_signAt_232 : decode prog_8_method_19_code 232 = .ok (.bipush 61, 2) := by decide +kernel
theorem d_TO_signAt_234 : decode prog_8_method_19_code 234 = .ok (.if_icmp .ne 8, 3) := by decide +kernel
theorem d_TO_signAt_237 : decode prog_8_method_19_code 237 = .ok (.bipush 31, 2) := by decide +kernel
theorem d_TO_signAt_239 : decode prog_8_method_19_code 239 = .ok (.goto 5, 3) := by decide +kernel
theorem d_TO_signAt_242 : decode prog_8_method_19_code 242 = .ok (.bipush 20, 2) := by decide +kernel
theorem d_TO_signAt_244 : decode prog_8_method_19_code 244 = .ok (.ireturn, 1) := by decide +kernel
theorem d_TO_signAt_245 : decode prog_8_method_19_code 245 = .ok (.iload_n 2, 1) := by decide +kernel
theorem d_TO_signAt_246 : decode prog_8_method_19_code 246 = .ok (.bipush 61, 2) := by decide +kernel
theorem d_TO_signAt_248 : decode prog_8_method_19_code 248 = .ok (.if_icmp .ne 8, 3) := by decide +kernel
theorem d_TO_signAt_251 : decode prog_8_method_19_code 251 = .ok (.bipush 28, 2) := by decide +kernel
theorem d_TO_signAt_253 : decode prog_8_method_19_code 253 = .ok (.goto 5, 3) := by decide +kernel
theorem d_TO_signAt_256 : decode prog_8_method_19_code 256 = .ok (.bipush 27, 2) := by decide +kernel
theorem d_TO_signAt_258 : decode prog_8_method_19_code 258 = .ok (.ireturn, 1) := by decide +kernel
theorem d_TO_signAt_259 : decode prog_8_method_19_code 259 = .ok (.iload_n 2, 1) := by decide +kernel
theorem d_TO_signAt_260 : decode prog_8_method_19_code 260 = .ok (.bipush 61, 2) := by decide +kernel
theorem d_TO_signAt_262 : decode prog_8_method_19_code 262 = .ok (.if_icmp .ne 8, 3) := by decide +kernel
theorem d_TO_signAt_265 : decode prog_8_method_19_code 265 = .ok (.bipush 30, 2) := by decide +kernel
theorem d_TO_signAt_267 : decode prog_8_method_19_code 267 = .ok (.goto 5, 3) := by decide +kernel
theorem d_TO_signAt_270 : decode prog_8_method_19_code 270 = .ok (.bipush 29, 2) := by decide +kernel
theorem d_TO_signAt_272 : decode prog_8_method_19_code 272 = .ok (.ireturn, 1) := by decide +kernel
theorem d_TO_signAt_273 : decode prog_8_method_19_code 273 = .ok (.iload_n 2, 1) := by decide +kernel
theorem d_TO_signAt_274 : decode prog_8_method_19_code 274 = .ok (.bipush 61, 2) := by decide +kernel
theorem d_TO_signAt_276 : decode prog_8_method_19_code 276 = .ok (.if_icmp .ne 8, 3) := by decide +kernel
theorem d_TO_signAt_279 : decode prog_8_method_19_code 279 = .ok (.bipush 32, 2) := by decide +kernel
theorem d_TO_signAt_281 : decode prog_8_method_19_code 281 = .ok (.goto 5, 3) := by decide +kernel
theorem d_TO_signAt_284 : decode prog_8_method_19_code 284 = .ok (.bipush 21, 2) := by decide +kernel
theorem d_TO_signAt_286 : decode prog_8_method_19_code 286 = .ok (.ireturn, 1) := by decide +kernel
theorem d_TO_signAt_287 : decode prog_8_method_19_code 287 = .ok (.iload_n 2, 1) := by decide +kernel
theorem d_TO_signAt_288 : decode prog_8_method_19_code 288 = .ok (.bipush 38, 2) := by decide +kernel
theorem d_TO_signAt_290 : decode prog_8_method_19_code 290 = .ok (.if_icmp .ne 8, 3) := by decide +kernel
theorem d_TO_signAt_293 : decode prog_8_method_19_code 293 = .ok (.bipush 33, 2) := by decide +kernel
theorem d_TO_signAt_295 : decode prog_8_method_19_code 295 = .ok (.goto 4, 3) := by decide +kernel
theorem d_TO_signAt_298 : decode prog_8_method_19_code 298 = .ok (.iconst 1, 1) := by decide +kernel
theorem d_TO_signAt_299 : decode prog_8_method_19_code 299 = .ok (.ireturn, 1) := by decide +kernel
theorem d_TO_signAt_300 : decode prog_8_method_19_code 300 = .ok (.iload_n 2, 1) := by decide +kernel
theorem d_TO_signAt_301 : decode prog_8_method_19_code 301 = .ok (.bipush 124, 2) := by decide +kernel
theorem d_TO_signAt_303 : decode prog_8_method_19_code 303 = .ok (.if_icmp .ne 8, 3) := by decide +kernel
theorem d_TO_signAt_306 : decode prog_8_method_19_code 306 = .ok (.bipush 34, 2) := by decide +kernel
theorem d_TO_signAt_308 : decode prog_8_method_19_code 308 = .ok (.goto 4, 3) := by decide +kernel
theorem d_TO_signAt_311 : decode prog_8_method_19_code 311 = .ok (.iconst 1, 1) := by decide +kernel
theorem d_TO_signAt_312 : decode prog_8_method_19_code 312 = .ok (.ireturn, 1) := by decide +kernel
theorem d_TO_signAt_313 : decode prog_8_method_19_code 313 = .ok (.iconst 1, 1) := by decide +kernel
theorem d_TO_signAt_314 : decode prog_8_method_19_code 314 = .ok (.ireturn, 1) := by decide +kernel
