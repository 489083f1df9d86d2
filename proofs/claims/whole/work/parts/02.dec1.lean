theorem dTr_init_0 : decode cTr_init 0 = .ok (.aload_n 0, 1) := by decide +kernel
theorem dTr_init_1 : decode cTr_init 1 = .ok (.invokespecial 3, 3) := by decide +kernel
theorem dTr_init_4 : decode cTr_init 4 = .ok (.aload_n 0, 1) := by decide +kernel
theorem dTr_init_5 : decode cTr_init 5 = .ok (.bipush 61, 2) := by decide +kernel
theorem dTr_init_7 : decode cTr_init 7 = .ok (.newarray .int, 2) := by decide +kernel
theorem dTr_init_9 : decode cTr_init 9 = .ok (.putfield 9, 3) := by decide +kernel
theorem dTr_init_12 : decode cTr_init 12 = .ok (.aload_n 0, 1) := by decide +kernel
theorem dTr_init_13 : decode cTr_init 13 = .ok (.bipush 61, 2) := by decide +kernel
theorem dTr_init_15 : decode cTr_init 15 = .ok (.newarray .int, 2) := by decide +kernel
theorem dTr_init_17 : decode cTr_init 17 = .ok (.putfield 15, 3) := by decide +kernel
theorem dTr_init_20 : decode cTr_init 20 = .ok (.aload_n 0, 1) := by decide +kernel
theorem dTr_init_21 : decode cTr_init 21 = .ok (.iconst 4, 1) := by decide +kernel
theorem dTr_init_22 : decode cTr_init 22 = .ok (.newarray .int, 2) := by decide +kernel
theorem dTr_init_24 : decode cTr_init 24 = .ok (.putfield 18, 3) := by decide +kernel
theorem dTr_init_27 : decode cTr_init 27 = .ok (.aload_n 0, 1) := by decide +kernel
theorem dTr_init_28 : decode cTr_init 28 = .ok (.iconst 0, 1) := by decide +kernel
theorem dTr_init_29 : decode cTr_init 29 = .ok (.putfield 21, 3) := by decide +kernel
theorem dTr_init_32 : decode cTr_init 32 = .ok (.return_, 1) := by decide +kernel
theorem dCk_init_0 : decode cCk_init 0 = .ok (.aload_n 0, 1) := by decide +kernel
theorem dCk_init_1 : decode cCk_init 1 = .ok (.invokespecial 3, 3) := by decide +kernel
theorem dCk_init_4 : decode cCk_init 4 = .ok (.aload_n 0, 1) := by decide +kernel
theorem dCk_init_5 : decode cCk_init 5 = .ok (.bipush 100, 2) := by decide +kernel
theorem dCk_init_7 : decode cCk_init 7 = .ok (.newarray .int, 2) := by decide +kernel
theorem dCk_init_9 : decode cCk_init 9 = .ok (.putfield 9, 3) := by decide +kernel
theorem dCk_init_12 : decode cCk_init 12 = .ok (.aload_n 0, 1) := by decide +kernel
theorem dCk_init_13 : decode cCk_init 13 = .ok (.bipush 100, 2) := by decide +kernel
theorem dCk_init_15 : decode cCk_init 15 = .ok (.newarray .int, 2) := by decide +kernel
theorem dCk_init_17 : decode cCk_init 17 = .ok (.putfield 15, 3) := by decide +kernel
theorem dCk_init_20 : decode cCk_init 20 = .ok (.aload_n 0, 1) := by decide +kernel
theorem dCk_init_21 : decode cCk_init 21 = .ok (.bipush 100, 2) := by decide +kernel
theorem dCk_init_23 : decode cCk_init 23 = .ok (.newarray .boolean, 2) := by decide +kernel
theorem dCk_init_25 : decode cCk_init 25 = .ok (.putfield 18, 3) := by decide +kernel
theorem dCk_init_28 : decode cCk_init 28 = .ok (.aload_n 0, 1) := by decide +kernel
theorem dCk_init_29 : decode cCk_init 29 = .ok (.iconst 0, 1) := by decide +kernel
theorem dCk_init_30 : decode cCk_init 30 = .ok (.putfield 22, 3) := by decide +kernel
theorem dCk_init_33 : decode cCk_init 33 = .ok (.return_, 1) := by decide +kernel
theorem dUs_init_0 : decode cUs_init 0 = .ok (.aload_n 0, 1) := by decide +kernel
theorem dUs_init_1 : decode cUs_init 1 = .ok (.invokespecial 3, 3) := by decide +kernel
theorem dUs_init_4 : decode cUs_init 4 = .ok (.aload_n 0, 1) := by decide +kernel
theorem dUs_init_5 : decode cUs_init 5 = .ok (.bipush 30, 2) := by decide +kernel
theorem dUs_init_7 : decode cUs_init 7 = .ok (.newarray .int, 2) := by decide +kernel
theorem dUs_init_9 : decode cUs_init 9 = .ok (.putfield 9, 3) := by decide +kernel
theorem dUs_init_12 : decode cUs_init 12 = .ok (.aload_n 0, 1) := by decide +kernel
theorem dUs_init_13 : decode cUs_init 13 = .ok (.bipush 30, 2) := by decide +kernel
theorem dUs_init_15 : decode cUs_init 15 = .ok (.newarray .int, 2) := by decide +kernel
theorem dUs_init_17 : decode cUs_init 17 = .ok (.putfield 15, 3) := by decide +kernel
theorem dUs_init_20 : decode cUs_init 20 = .ok (.aload_n 0, 1) := by decide +kernel
theorem dUs_init_21 : decode cUs_init 21 = .ok (.iconst 0, 1) := by decide +kernel
theorem dUs_init_22 : decode cUs_init 22 = .ok (.putfield 18, 3) := by decide +kernel
theorem dUs_init_25 : decode cUs_init 25 = .ok (.return_, 1) := by decide +kernel
theorem dOm_init_0 : decode cOm_init 0 = .ok (.aload_n 0, 1) := by decide +kernel
theorem dOm_init_1 : decode cOm_init 1 = .ok (.invokespecial 3, 3) := by decide +kernel
theorem dOm_init_4 : decode cOm_init 4 = .ok (.aload_n 0, 1) := by decide +kernel
theorem dOm_init_5 : decode cOm_init 5 = .ok (.bipush 20, 2) := by decide +kernel
theorem dOm_init_7 : decode cOm_init 7 = .ok (.newarray .int, 2) := by decide +kernel
theorem dOm_init_9 : decode cOm_init 9 = .ok (.putfield 9, 3) := by decide +kernel
theorem dOm_init_12 : decode cOm_init 12 = .ok (.iconst 0, 1) := by decide +kernel
theorem dOm_init_13 : decode cOm_init 13 = .ok (.istore_n 1, 1) := by decide +kernel
theorem dOm_init_14 : decode cOm_init 14 = .ok (.iload_n 1, 1) := by decide +kernel
theorem dOm_init_15 : decode cOm_init 15 = .ok (.aload_n 0, 1) := by decide +kernel
theorem dOm_init_16 : decode cOm_init 16 = .ok (.getfield 9, 3) := by decide +kernel
theorem dOm_init_19 : decode cOm_init 19 = .ok (.arraylength, 1) := by decide +kernel
theorem dOm_init_20 : decode cOm_init 20 = .ok (.if_icmp .ge 16, 3) := by decide +kernel
theorem dOm_init_23 : decode cOm_init 23 = .ok (.aload_n 0, 1) := by decide +kernel
theorem dOm_init_24 : decode cOm_init 24 = .ok (.getfield 9, 3) := by decide +kernel
theorem dOm_init_27 : decode cOm_init 27 = .ok (.iload_n 1, 1) := by decide +kernel
theorem dOm_init_28 : decode cOm_init 28 = .ok (.iconst (-1), 1) := by decide +kernel
theorem dOm_init_29 : decode cOm_init 29 = .ok (.iastore, 1) := by decide +kernel
theorem dOm_init_30 : decode cOm_init 30 = .ok (.iinc 1 1, 3) := by decide +kernel
theorem dOm_init_33 : decode cOm_init 33 = .ok (.goto (-19), 3) := by decide +kernel
theorem dOm_init_36 : decode cOm_init 36 = .ok (.return_, 1) := by decide +kernel
theorem dRn_init_0 : decode cRn_init 0 = .ok (.aload_n 0, 1) := by decide +kernel
theorem dRn_init_1 : decode cRn_init 1 = .ok (.invokespecial 3, 3) := by decide +kernel
theorem dRn_init_4 : decode cRn_init 4 = .ok (.aload_n 0, 1) := by decide +kernel
theorem dRn_init_5 : decode cRn_init 5 = .ok (.bipush 10, 2) := by decide +kernel
theorem dRn_init_7 : decode cRn_init 7 = .ok (.newarray .int, 2) := by decide +kernel
theorem dRn_init_9 : decode cRn_init 9 = .ok (.putfield 9, 3) := by decide +kernel
theorem dRn_init_12 : decode cRn_init 12 = .ok (.aload_n 0, 1) := by decide +kernel
theorem dRn_init_13 : decode cRn_init 13 = .ok (.bipush 10, 2) := by decide +kernel
theorem dRn_init_15 : decode cRn_init 15 = .ok (.newarray .int, 2) := by decide +kernel
theorem dRn_init_17 : decode cRn_init 17 = .ok (.putfield 15, 3) := by decide +kernel
theorem dRn_init_20 : decode cRn_init 20 = .ok (.aload_n 0, 1) := by decide +kernel
theorem dRn_init_21 : decode cRn_init 21 = .ok (.iconst 0, 1) := by decide +kernel
theorem dRn_init_22 : decode cRn_init 22 = .ok (.putfield 18, 3) := by decide +kernel
theorem dRn_init_25 : decode cRn_init 25 = .ok (.return_, 1) := by decide +kernel
theorem dLt_init_0 : decode cLt_init 0 = .ok (.aload_n 0, 1) := by decide +kernel
theorem dLt_init_1 : decode cLt_init 1 = .ok (.invokespecial 3, 3) := by decide +kernel
theorem dLt_init_4 : decode cLt_init 4 = .ok (.aload_n 0, 1) := by decide +kernel
theorem dLt_init_5 : decode cLt_init 5 = .ok (.iconst 0, 1) := by decide +kernel
theorem dLt_init_6 : decode cLt_init 6 = .ok (.putfield 9, 3) := by decide +kernel
theorem dLt_init_9 : decode cLt_init 9 = .ok (.aload_n 0, 1) := by decide +kernel
theorem dLt_init_10 : decode cLt_init 10 = .ok (.iconst 0, 1) := by decide +kernel
theorem dLt_init_11 : decode cLt_init 11 = .ok (.putfield 15, 3) := by decide +kernel
theorem dLt_init_14 : decode cLt_init 14 = .ok (.aload_n 0, 1) := by decide +kernel
theorem dLt_init_15 : decode cLt_init 15 = .ok (.iconst 0, 1) := by decide +kernel
theorem dLt_init_16 : decode cLt_init 16 = .ok (.putfield 18, 3) := by decide +kernel
theorem dLt_init_19 : decode cLt_init 19 = .ok (.aload_n 0, 1) := by decide +kernel
theorem dLt_init_20 : decode cLt_init 20 = .ok (.iconst (-1), 1) := by decide +kernel
theorem dLt_init_21 : decode cLt_init 21 = .ok (.putfield 21, 3) := by decide +kernel
theorem dLt_init_24 : decode cLt_init 24 = .ok (.return_, 1) := by decide +kernel
theorem dRw_init_0 : decode cRw_init 0 = .ok (.aload_n 0, 1) := by decide +kernel
theorem dRw_init_1 : decode cRw_init 1 = .ok (.invokespecial 1, 3) := by decide +kernel
theorem dRw_init_4 : decode cRw_init 4 = .ok (.aload_n 0, 1) := by decide +kernel
theorem dRw_init_5 : decode cRw_init 5 = .ok (.new 7, 3) := by decide +kernel
theorem dRw_init_8 : decode cRw_init 8 = .ok (.dup, 1) := by decide +kernel
theorem dRw_init_9 : decode cRw_init 9 = .ok (.invokespecial 9, 3) := by decide +kernel
theorem dRw_init_12 : decode cRw_init 12 = .ok (.putfield 10, 3) := by decide +kernel
theorem dRw_init_15 : decode cRw_init 15 = .ok (.aload_n 0, 1) := by decide +kernel
theorem dRw_init_16 : decode cRw_init 16 = .ok (.new 16, 3) := by decide +kernel
theorem dRw_init_19 : decode cRw_init 19 = .ok (.dup, 1) := by decide +kernel
theorem dRw_init_20 : decode cRw_init 20 = .ok (.invokespecial 18, 3) := by decide +kernel
theorem dRw_init_23 : decode cRw_init 23 = .ok (.putfield 19, 3) := by decide +kernel
theorem dRw_init_26 : decode cRw_init 26 = .ok (.aload_n 0, 1) := by decide +kernel
theorem dRw_init_27 : decode cRw_init 27 = .ok (.new 23, 3) := by decide +kernel
theorem dRw_init_30 : decode cRw_init 30 = .ok (.dup, 1) := by decide +kernel
theorem dRw_init_31 : decode cRw_init 31 = .ok (.invokespecial 25, 3) := by decide +kernel
theorem dRw_init_34 : decode cRw_init 34 = .ok (.putfield 26, 3) := by decide +kernel
theorem dRw_init_37 : decode cRw_init 37 = .ok (.aload_n 0, 1) := by decide +kernel
theorem dRw_init_38 : decode cRw_init 38 = .ok (.new 30, 3) := by decide +kernel
theorem dRw_init_41 : decode cRw_init 41 = .ok (.dup, 1) := by decide +kernel
theorem dRw_init_42 : decode cRw_init 42 = .ok (.invokespecial 32, 3) := by decide +kernel
theorem dRw_init_45 : decode cRw_init 45 = .ok (.putfield 33, 3) := by decide +kernel
theorem dRw_init_48 : decode cRw_init 48 = .ok (.aload_n 0, 1) := by decide +kernel
theorem dRw_init_49 : decode cRw_init 49 = .ok (.new 37, 3) := by decide +kernel
theorem dRw_init_52 : decode cRw_init 52 = .ok (.dup, 1) := by decide +kernel
theorem dRw_init_53 : decode cRw_init 53 = .ok (.invokespecial 39, 3) := by decide +kernel
theorem dRw_init_56 : decode cRw_init 56 = .ok (.putfield 40, 3) := by decide +kernel
theorem dRw_init_59 : decode cRw_init 59 = .ok (.aload_n 0, 1) := by decide +kernel
theorem dRw_init_60 : decode cRw_init 60 = .ok (.new 44, 3) := by decide +kernel
theorem dRw_init_63 : decode cRw_init 63 = .ok (.dup, 1) := by decide +kernel
theorem dRw_init_64 : decode cRw_init 64 = .ok (.invokespecial 46, 3) := by decide +kernel
theorem dRw_init_67 : decode cRw_init 67 = .ok (.putfield 47, 3) := by decide +kernel
theorem dRw_init_70 : decode cRw_init 70 = .ok (.aload_n 0, 1) := by decide +kernel
theorem dRw_init_71 : decode cRw_init 71 = .ok (.iconst 0, 1) := by decide +kernel
theorem dRw_init_72 : decode cRw_init 72 = .ok (.putfield 51, 3) := by decide +kernel
theorem dRw_init_75 : decode cRw_init 75 = .ok (.aload_n 0, 1) := by decide +kernel
theorem dRw_init_76 : decode cRw_init 76 = .ok (.iconst 0, 1) := by decide +kernel
theorem dRw_init_77 : decode cRw_init 77 = .ok (.putfield 55, 3) := by decide +kernel
theorem dRw_init_80 : decode cRw_init 80 = .ok (.aload_n 0, 1) := by decide +kernel
theorem dRw_init_81 : decode cRw_init 81 = .ok (.iconst 0, 1) := by decide +kernel
theorem dRw_init_82 : decode cRw_init 82 = .ok (.putfield 58, 3) := by decide +kernel
theorem dRw_init_85 : decode cRw_init 85 = .ok (.return_, 1) := by decide +kernel
theorem dRw_isBelow_0 : decode cRw_isBelow 0 = .ok (.iload_n 0, 1) := by decide +kernel
theorem dRw_isBelow_1 : decode cRw_isBelow 1 = .ok (.ifCond .lt 12, 3) := by decide +kernel
theorem dRw_isBelow_4 : decode cRw_isBelow 4 = .ok (.iload_n 0, 1) := by decide +kernel
theorem dRw_isBelow_5 : decode cRw_isBelow 5 = .ok (.iload_n 1, 1) := by decide +kernel
theorem dRw_isBelow_6 : decode cRw_isBelow 6 = .ok (.if_icmp .ge 7, 3) := by decide +kernel
theorem dRw_isBelow_9 : decode cRw_isBelow 9 = .ok (.iconst 1, 1) := by decide +kernel
theorem dRw_isBelow_10 : decode cRw_isBelow 10 = .ok (.goto 4, 3) := by decide +kernel
theorem dRw_isBelow_13 : decode cRw_isBelow 13 = .ok (.iconst 0, 1) := by decide +kernel
theorem dRw_isBelow_14 : decode cRw_isBelow 14 = .ok (.ireturn, 1) := by decide +kernel
theorem dTr_latestOf_0 : decode cTr_latestOf 0 = .ok (.iload_n 1, 1) := by decide +kernel
theorem dTr_latestOf_1 : decode cTr_latestOf 1 = .ok (.iconst 1, 1) := by decide +kernel
theorem dTr_latestOf_2 : decode cTr_latestOf 2 = .ok (.if_icmp .lt 21, 3) := by decide +kernel
theorem dTr_latestOf_5 : decode cTr_latestOf 5 = .ok (.iload_n 1, 1) := by decide +kernel
theorem dTr_latestOf_6 : decode cTr_latestOf 6 = .ok (.aload_n 0, 1) := by decide +kernel
theorem dTr_latestOf_7 : decode cTr_latestOf 7 = .ok (.getfield 18, 3) := by decide +kernel
theorem dTr_latestOf_10 : decode cTr_latestOf 10 = .ok (.arraylength, 1) := by decide +kernel
theorem dTr_latestOf_11 : decode cTr_latestOf 11 = .ok (.if_icmp .ge 12, 3) := by decide +kernel
theorem dTr_latestOf_14 : decode cTr_latestOf 14 = .ok (.aload_n 0, 1) := by decide +kernel
theorem dTr_latestOf_15 : decode cTr_latestOf 15 = .ok (.getfield 18, 3) := by decide +kernel
theorem dTr_latestOf_18 : decode cTr_latestOf 18 = .ok (.iload_n 1, 1) := by decide +kernel
theorem dTr_latestOf_19 : decode cTr_latestOf 19 = .ok (.iaload, 1) := by decide +kernel
theorem dTr_latestOf_20 : decode cTr_latestOf 20 = .ok (.goto 4, 3) := by decide +kernel
theorem dTr_latestOf_23 : decode cTr_latestOf 23 = .ok (.iconst 0, 1) := by decide +kernel
theorem dTr_latestOf_24 : decode cTr_latestOf 24 = .ok (.ireturn, 1) := by decide +kernel
theorem dTr_add_0 : decode cTr_add 0 = .ok (.aload_n 0, 1) := by decide +kernel
theorem dTr_add_1 : decode cTr_add 1 = .ok (.getfield 21, 3) := by decide +kernel
theorem dTr_add_4 : decode cTr_add 4 = .ok (.iconst 1, 1) := by decide +kernel
theorem dTr_add_5 : decode cTr_add 5 = .ok (.iadd, 1) := by decide +kernel
theorem dTr_add_6 : decode cTr_add 6 = .ok (.istore_n 3, 1) := by decide +kernel
theorem dTr_add_7 : decode cTr_add 7 = .ok (.iload_n 3, 1) := by decide +kernel
theorem dTr_add_8 : decode cTr_add 8 = .ok (.aload_n 0, 1) := by decide +kernel
theorem dTr_add_9 : decode cTr_add 9 = .ok (.getfield 9, 3) := by decide +kernel
theorem dTr_add_12 : decode cTr_add 12 = .ok (.arraylength, 1) := by decide +kernel
theorem dTr_add_13 : decode cTr_add 13 = .ok (.if_icmp .ge 26, 3) := by decide +kernel
theorem dTr_add_16 : decode cTr_add 16 = .ok (.iload_n 3, 1) := by decide +kernel
theorem dTr_add_17 : decode cTr_add 17 = .ok (.aload_n 0, 1) := by decide +kernel
theorem dTr_add_18 : decode cTr_add 18 = .ok (.getfield 15, 3) := by decide +kernel
theorem dTr_add_21 : decode cTr_add 21 = .ok (.arraylength, 1) := by decide +kernel
theorem dTr_add_22 : decode cTr_add 22 = .ok (.if_icmp .ge 17, 3) := by decide +kernel
theorem dTr_add_25 : decode cTr_add 25 = .ok (.iload_n 1, 1) := by decide +kernel
theorem dTr_add_26 : decode cTr_add 26 = .ok (.iconst 1, 1) := by decide +kernel
theorem dTr_add_27 : decode cTr_add 27 = .ok (.if_icmp .lt 12, 3) := by decide +kernel
theorem dTr_add_30 : decode cTr_add 30 = .ok (.iload_n 1, 1) := by decide +kernel
theorem dTr_add_31 : decode cTr_add 31 = .ok (.aload_n 0, 1) := by decide +kernel
theorem dTr_add_32 : decode cTr_add 32 = .ok (.getfield 18, 3) := by decide +kernel
theorem dTr_add_35 : decode cTr_add 35 = .ok (.arraylength, 1) := by decide +kernel
theorem dTr_add_36 : decode cTr_add 36 = .ok (.if_icmp .lt 5, 3) := by decide +kernel
theorem dTr_add_39 : decode cTr_add 39 = .ok (.iconst (-1), 1) := by decide +kernel
theorem dTr_add_40 : decode cTr_add 40 = .ok (.ireturn, 1) := by decide +kernel
theorem dTr_add_41 : decode cTr_add 41 = .ok (.aload_n 0, 1) := by decide +kernel
theorem dTr_add_42 : decode cTr_add 42 = .ok (.getfield 9, 3) := by decide +kernel
theorem dTr_add_45 : decode cTr_add 45 = .ok (.iload_n 3, 1) := by decide +kernel
theorem dTr_add_46 : decode cTr_add 46 = .ok (.iload_n 2, 1) := by decide +kernel
theorem dTr_add_47 : decode cTr_add 47 = .ok (.iastore, 1) := by decide +kernel
theorem dTr_add_48 : decode cTr_add 48 = .ok (.aload_n 0, 1) := by decide +kernel
theorem dTr_add_49 : decode cTr_add 49 = .ok (.getfield 15, 3) := by decide +kernel
theorem dTr_add_52 : decode cTr_add 52 = .ok (.iload_n 3, 1) := by decide +kernel
theorem dTr_add_53 : decode cTr_add 53 = .ok (.aload_n 0, 1) := by decide +kernel
theorem dTr_add_54 : decode cTr_add 54 = .ok (.iload_n 1, 1) := by decide +kernel
theorem dTr_add_55 : decode cTr_add 55 = .ok (.iconst 1, 1) := by decide +kernel
theorem dTr_add_56 : decode cTr_add 56 = .ok (.isub, 1) := by decide +kernel
theorem dTr_add_57 : decode cTr_add 57 = .ok (.invokevirtual 25, 3) := by decide +kernel
theorem dTr_add_60 : decode cTr_add 60 = .ok (.iastore, 1) := by decide +kernel
theorem dTr_add_61 : decode cTr_add 61 = .ok (.aload_n 0, 1) := by decide +kernel
theorem dTr_add_62 : decode cTr_add 62 = .ok (.getfield 18, 3) := by decide +kernel
theorem dTr_add_65 : decode cTr_add 65 = .ok (.iload_n 1, 1) := by decide +kernel
theorem dTr_add_66 : decode cTr_add 66 = .ok (.iload_n 3, 1) := by decide +kernel
theorem dTr_add_67 : decode cTr_add 67 = .ok (.iastore, 1) := by decide +kernel
theorem dTr_add_68 : decode cTr_add 68 = .ok (.aload_n 0, 1) := by decide +kernel
theorem dTr_add_69 : decode cTr_add 69 = .ok (.iload_n 3, 1) := by decide +kernel
theorem dTr_add_70 : decode cTr_add 70 = .ok (.putfield 21, 3) := by decide +kernel
theorem dTr_add_73 : decode cTr_add 73 = .ok (.iload_n 3, 1) := by decide +kernel
theorem dTr_add_74 : decode cTr_add 74 = .ok (.ireturn, 1) := by decide +kernel
theorem dRw_exception_0 : decode cRw_exception 0 = .ok (.iload_n 1, 1) := by decide +kernel
theorem dRw_exception_1 : decode cRw_exception 1 = .ok (.iconst 1, 1) := by decide +kernel
theorem dRw_exception_2 : decode cRw_exception 2 = .ok (.if_icmp .lt 17, 3) := by decide +kernel
theorem dRw_exception_5 : decode cRw_exception 5 = .ok (.iload_n 1, 1) := by decide +kernel
theorem dRw_exception_6 : decode cRw_exception 6 = .ok (.iconst 3, 1) := by decide +kernel
theorem dRw_exception_7 : decode cRw_exception 7 = .ok (.if_icmp .gt 12, 3) := by decide +kernel
theorem dRw_exception_10 : decode cRw_exception 10 = .ok (.iload_n 2, 1) := by decide +kernel
theorem dRw_exception_11 : decode cRw_exception 11 = .ok (.bipush 100, 2) := by decide +kernel
theorem dRw_exception_13 : decode cRw_exception 13 = .ok (.invokestatic 62, 3) := by decide +kernel
theorem dRw_exception_16 : decode cRw_exception 16 = .ok (.ifCond .ne 6, 3) := by decide +kernel
theorem dRw_exception_19 : decode cRw_exception 19 = .ok (.bipush (-4), 2) := by decide +kernel
theorem dRw_exception_21 : decode cRw_exception 21 = .ok (.ireturn, 1) := by decide +kernel
theorem dRw_exception_22 : decode cRw_exception 22 = .ok (.iload_n 1, 1) := by decide +kernel
theorem dRw_exception_23 : decode cRw_exception 23 = .ok (.iconst 1, 1) := by decide +kernel
theorem dRw_exception_24 : decode cRw_exception 24 = .ok (.if_icmp .le 19, 3) := by decide +kernel
theorem dRw_exception_27 : decode cRw_exception 27 = .ok (.aload_n 0, 1) := by decide +kernel
theorem dRw_exception_28 : decode cRw_exception 28 = .ok (.getfield 10, 3) := by decide +kernel
theorem dRw_exception_31 : decode cRw_exception 31 = .ok (.iload_n 1, 1) := by decide +kernel
theorem dRw_exception_32 : decode cRw_exception 32 = .ok (.iconst 1, 1) := by decide +kernel
theorem dRw_exception_33 : decode cRw_exception 33 = .ok (.isub, 1) := by decide +kernel
theorem dRw_exception_34 : decode cRw_exception 34 = .ok (.invokevirtual 66, 3) := by decide +kernel
theorem dRw_exception_37 : decode cRw_exception 37 = .ok (.ifCond .ne 6, 3) := by decide +kernel
theorem dRw_exception_40 : decode cRw_exception 40 = .ok (.bipush (-2), 2) := by decide +kernel
theorem dRw_exception_42 : decode cRw_exception 42 = .ok (.ireturn, 1) := by decide +kernel
theorem dRw_exception_43 : decode cRw_exception 43 = .ok (.aload_n 0, 1) := by decide +kernel
theorem dRw_exception_44 : decode cRw_exception 44 = .ok (.getfield 10, 3) := by decide +kernel
theorem dRw_exception_47 : decode cRw_exception 47 = .ok (.iload_n 1, 1) := by decide +kernel
theorem dRw_exception_48 : decode cRw_exception 48 = .ok (.iload_n 2, 1) := by decide +kernel
theorem dRw_exception_49 : decode cRw_exception 49 = .ok (.invokevirtual 70, 3) := by decide +kernel
theorem dRw_exception_52 : decode cRw_exception 52 = .ok (.ireturn, 1) := by decide +kernel
theorem dTr_has_0 : decode cTr_has 0 = .ok (.iload_n 1, 1) := by decide +kernel
theorem dTr_has_1 : decode cTr_has 1 = .ok (.iconst 1, 1) := by decide +kernel
theorem dTr_has_2 : decode cTr_has 2 = .ok (.if_icmp .lt 24, 3) := by decide +kernel
theorem dTr_has_5 : decode cTr_has 5 = .ok (.iload_n 1, 1) := by decide +kernel
theorem dTr_has_6 : decode cTr_has 6 = .ok (.aload_n 0, 1) := by decide +kernel
theorem dTr_has_7 : decode cTr_has 7 = .ok (.getfield 21, 3) := by decide +kernel
theorem dTr_has_10 : decode cTr_has 10 = .ok (.if_icmp .gt 16, 3) := by decide +kernel
theorem dTr_has_13 : decode cTr_has 13 = .ok (.iload_n 1, 1) := by decide +kernel
theorem dTr_has_14 : decode cTr_has 14 = .ok (.aload_n 0, 1) := by decide +kernel
theorem dTr_has_15 : decode cTr_has 15 = .ok (.getfield 9, 3) := by decide +kernel
theorem dTr_has_18 : decode cTr_has 18 = .ok (.arraylength, 1) := by decide +kernel
theorem dTr_has_19 : decode cTr_has 19 = .ok (.if_icmp .ge 7, 3) := by decide +kernel
theorem dTr_has_22 : decode cTr_has 22 = .ok (.iconst 1, 1) := by decide +kernel
theorem dTr_has_23 : decode cTr_has 23 = .ok (.goto 4, 3) := by decide +kernel
theorem dTr_has_26 : decode cTr_has 26 = .ok (.iconst 0, 1) := by decide +kernel
theorem dTr_has_27 : decode cTr_has 27 = .ok (.ireturn, 1) := by decide +kernel
theorem dUs_isRow_0 : decode cUs_isRow 0 = .ok (.iload_n 1, 1) := by decide +kernel
theorem dUs_isRow_1 : decode cUs_isRow 1 = .ok (.ifCond .lt 25, 3) := by decide +kernel
theorem dUs_isRow_4 : decode cUs_isRow 4 = .ok (.iload_n 1, 1) := by decide +kernel
theorem dUs_isRow_5 : decode cUs_isRow 5 = .ok (.aload_n 0, 1) := by decide +kernel
theorem dUs_isRow_6 : decode cUs_isRow 6 = .ok (.getfield 9, 3) := by decide +kernel
theorem dUs_isRow_9 : decode cUs_isRow 9 = .ok (.arraylength, 1) := by decide +kernel
theorem dUs_isRow_10 : decode cUs_isRow 10 = .ok (.if_icmp .ge 16, 3) := by decide +kernel
theorem dUs_isRow_13 : decode cUs_isRow 13 = .ok (.iload_n 1, 1) := by decide +kernel
theorem dUs_isRow_14 : decode cUs_isRow 14 = .ok (.aload_n 0, 1) := by decide +kernel
theorem dUs_isRow_15 : decode cUs_isRow 15 = .ok (.getfield 15, 3) := by decide +kernel
theorem dUs_isRow_18 : decode cUs_isRow 18 = .ok (.arraylength, 1) := by decide +kernel
theorem dUs_isRow_19 : decode cUs_isRow 19 = .ok (.if_icmp .ge 7, 3) := by decide +kernel
theorem dUs_isRow_22 : decode cUs_isRow 22 = .ok (.iconst 1, 1) := by decide +kernel
theorem dUs_isRow_23 : decode cUs_isRow 23 = .ok (.goto 4, 3) := by decide +kernel
theorem dUs_isRow_26 : decode cUs_isRow 26 = .ok (.iconst 0, 1) := by decide +kernel
theorem dUs_isRow_27 : decode cUs_isRow 27 = .ok (.ireturn, 1) := by decide +kernel
theorem dUs_add_0 : decode cUs_add 0 = .ok (.aload_n 0, 1) := by decide +kernel
theorem dUs_add_1 : decode cUs_add 1 = .ok (.aload_n 0, 1) := by decide +kernel
theorem dUs_add_2 : decode cUs_add 2 = .ok (.getfield 18, 3) := by decide +kernel
theorem dUs_add_5 : decode cUs_add 5 = .ok (.invokevirtual 22, 3) := by decide +kernel
theorem dUs_add_8 : decode cUs_add 8 = .ok (.ifCond .ne 5, 3) := by decide +kernel
theorem dUs_add_11 : decode cUs_add 11 = .ok (.iconst (-1), 1) := by decide +kernel
theorem dUs_add_12 : decode cUs_add 12 = .ok (.ireturn, 1) := by decide +kernel
theorem dUs_add_13 : decode cUs_add 13 = .ok (.aload_n 0, 1) := by decide +kernel
theorem dUs_add_14 : decode cUs_add 14 = .ok (.getfield 9, 3) := by decide +kernel
theorem dUs_add_17 : decode cUs_add 17 = .ok (.aload_n 0, 1) := by decide +kernel
theorem dUs_add_18 : decode cUs_add 18 = .ok (.getfield 18, 3) := by decide +kernel
theorem dUs_add_21 : decode cUs_add 21 = .ok (.iload_n 1, 1) := by decide +kernel
theorem dUs_add_22 : decode cUs_add 22 = .ok (.iastore, 1) := by decide +kernel
theorem dUs_add_23 : decode cUs_add 23 = .ok (.aload_n 0, 1) := by decide +kernel
theorem dUs_add_24 : decode cUs_add 24 = .ok (.getfield 15, 3) := by decide +kernel
theorem dUs_add_27 : decode cUs_add 27 = .ok (.aload_n 0, 1) := by decide +kernel
theorem dUs_add_28 : decode cUs_add 28 = .ok (.getfield 18, 3) := by decide +kernel
theorem dUs_add_31 : decode cUs_add 31 = .ok (.iload_n 2, 1) := by decide +kernel
theorem dUs_add_32 : decode cUs_add 32 = .ok (.iastore, 1) := by decide +kernel
theorem dUs_add_33 : decode cUs_add 33 = .ok (.aload_n 0, 1) := by decide +kernel
theorem dUs_add_34 : decode cUs_add 34 = .ok (.dup, 1) := by decide +kernel
theorem dUs_add_35 : decode cUs_add 35 = .ok (.getfield 18, 3) := by decide +kernel
theorem dUs_add_38 : decode cUs_add 38 = .ok (.iconst 1, 1) := by decide +kernel
theorem dUs_add_39 : decode cUs_add 39 = .ok (.iadd, 1) := by decide +kernel
theorem dUs_add_40 : decode cUs_add 40 = .ok (.putfield 18, 3) := by decide +kernel
theorem dUs_add_43 : decode cUs_add 43 = .ok (.aload_n 0, 1) := by decide +kernel
theorem dUs_add_44 : decode cUs_add 44 = .ok (.getfield 18, 3) := by decide +kernel
theorem dUs_add_47 : decode cUs_add 47 = .ok (.ireturn, 1) := by decide +kernel
theorem dRw_use_0 : decode cRw_use 0 = .ok (.iload_n 1, 1) := by decide +kernel
theorem dRw_use_1 : decode cRw_use 1 = .ok (.tableswitch 100 0 2 #[27, 53, 77], 27) := by decide +kernel
theorem dRw_use_28 : decode cRw_use 28 = .ok (.aload_n 0, 1) := by decide +kernel
theorem dRw_use_29 : decode cRw_use 29 = .ok (.getfield 10, 3) := by decide +kernel
theorem dRw_use_32 : decode cRw_use 32 = .ok (.iload_n 2, 1) := by decide +kernel
theorem dRw_use_33 : decode cRw_use 33 = .ok (.invokevirtual 74, 3) := by decide +kernel
theorem dRw_use_36 : decode cRw_use 36 = .ok (.ifCond .eq 15, 3) := by decide +kernel
theorem dRw_use_39 : decode cRw_use 39 = .ok (.aload_n 0, 1) := by decide +kernel
theorem dRw_use_40 : decode cRw_use 40 = .ok (.getfield 26, 3) := by decide +kernel
theorem dRw_use_43 : decode cRw_use 43 = .ok (.iload_n 1, 1) := by decide +kernel
theorem dRw_use_44 : decode cRw_use 44 = .ok (.iload_n 2, 1) := by decide +kernel
theorem dRw_use_45 : decode cRw_use 45 = .ok (.invokevirtual 78, 3) := by decide +kernel
theorem dRw_use_48 : decode cRw_use 48 = .ok (.goto 5, 3) := by decide +kernel
theorem dRw_use_51 : decode cRw_use 51 = .ok (.bipush (-2), 2) := by decide +kernel
theorem dRw_use_53 : decode cRw_use 53 = .ok (.ireturn, 1) := by decide +kernel
theorem dRw_use_54 : decode cRw_use 54 = .ok (.iload_n 2, 1) := by decide +kernel
theorem dRw_use_55 : decode cRw_use 55 = .ok (.bipush 20, 2) := by decide +kernel
theorem dRw_use_57 : decode cRw_use 57 = .ok (.invokestatic 62, 3) := by decide +kernel
theorem dRw_use_60 : decode cRw_use 60 = .ok (.ifCond .eq 15, 3) := by decide +kernel
theorem dRw_use_63 : decode cRw_use 63 = .ok (.aload_n 0, 1) := by decide +kernel
theorem dRw_use_64 : decode cRw_use 64 = .ok (.getfield 26, 3) := by decide +kernel
theorem dRw_use_67 : decode cRw_use 67 = .ok (.iload_n 1, 1) := by decide +kernel
theorem dRw_use_68 : decode cRw_use 68 = .ok (.iload_n 2, 1) := by decide +kernel
theorem dRw_use_69 : decode cRw_use 69 = .ok (.invokevirtual 78, 3) := by decide +kernel
theorem dRw_use_72 : decode cRw_use 72 = .ok (.goto 5, 3) := by decide +kernel
theorem dRw_use_75 : decode cRw_use 75 = .ok (.bipush (-4), 2) := by decide +kernel
theorem dRw_use_77 : decode cRw_use 77 = .ok (.ireturn, 1) := by decide +kernel
theorem dRw_use_78 : decode cRw_use 78 = .ok (.iload_n 2, 1) := by decide +kernel
theorem dRw_use_79 : decode cRw_use 79 = .ok (.iconst 4, 1) := by decide +kernel
theorem dRw_use_80 : decode cRw_use 80 = .ok (.invokestatic 62, 3) := by decide +kernel
theorem dRw_use_83 : decode cRw_use 83 = .ok (.ifCond .eq 15, 3) := by decide +kernel
theorem dRw_use_86 : decode cRw_use 86 = .ok (.aload_n 0, 1) := by decide +kernel
theorem dRw_use_87 : decode cRw_use 87 = .ok (.getfield 26, 3) := by decide +kernel
theorem dRw_use_90 : decode cRw_use 90 = .ok (.iload_n 1, 1) := by decide +kernel
theorem dRw_use_91 : decode cRw_use 91 = .ok (.iload_n 2, 1) := by decide +kernel
theorem dRw_use_92 : decode cRw_use 92 = .ok (.invokevirtual 78, 3) := by decide +kernel
theorem dRw_use_95 : decode cRw_use 95 = .ok (.goto 5, 3) := by decide +kernel
theorem dRw_use_98 : decode cRw_use 98 = .ok (.bipush (-4), 2) := by decide +kernel
theorem dRw_use_100 : decode cRw_use 100 = .ok (.ireturn, 1) := by decide +kernel
theorem dRw_use_101 : decode cRw_use 101 = .ok (.bipush (-4), 2) := by decide +kernel
theorem dRw_use_103 : decode cRw_use 103 = .ok (.ireturn, 1) := by decide +kernel
theorem dCk_isRow_0 : decode cCk_isRow 0 = .ok (.iload_n 1, 1) := by decide +kernel
theorem dCk_isRow_1 : decode cCk_isRow 1 = .ok (.ifCond .lt 34, 3) := by decide +kernel
theorem dCk_isRow_4 : decode cCk_isRow 4 = .ok (.iload_n 1, 1) := by decide +kernel
theorem dCk_isRow_5 : decode cCk_isRow 5 = .ok (.aload_n 0, 1) := by decide +kernel
theorem dCk_isRow_6 : decode cCk_isRow 6 = .ok (.getfield 9, 3) := by decide +kernel
theorem dCk_isRow_9 : decode cCk_isRow 9 = .ok (.arraylength, 1) := by decide +kernel
theorem dCk_isRow_10 : decode cCk_isRow 10 = .ok (.if_icmp .ge 25, 3) := by decide +kernel
theorem dCk_isRow_13 : decode cCk_isRow 13 = .ok (.iload_n 1, 1) := by decide +kernel
theorem dCk_isRow_14 : decode cCk_isRow 14 = .ok (.aload_n 0, 1) := by decide +kernel
theorem dCk_isRow_15 : decode cCk_isRow 15 = .ok (.getfield 15, 3) := by decide +kernel
theorem dCk_isRow_18 : decode cCk_isRow 18 = .ok (.arraylength, 1) := by decide +kernel
theorem dCk_isRow_19 : decode cCk_isRow 19 = .ok (.if_icmp .ge 16, 3) := by decide +kernel
theorem dCk_isRow_22 : decode cCk_isRow 22 = .ok (.iload_n 1, 1) := by decide +kernel
theorem dCk_isRow_23 : decode cCk_isRow 23 = .ok (.aload_n 0, 1) := by decide +kernel
theorem dCk_isRow_24 : decode cCk_isRow 24 = .ok (.getfield 18, 3) := by decide +kernel
theorem dCk_isRow_27 : decode cCk_isRow 27 = .ok (.arraylength, 1) := by decide +kernel
theorem dCk_isRow_28 : decode cCk_isRow 28 = .ok (.if_icmp .ge 7, 3) := by decide +kernel
theorem dCk_isRow_31 : decode cCk_isRow 31 = .ok (.iconst 1, 1) := by decide +kernel
theorem dCk_isRow_32 : decode cCk_isRow 32 = .ok (.goto 4, 3) := by decide +kernel
theorem dCk_isRow_35 : decode cCk_isRow 35 = .ok (.iconst 0, 1) := by decide +kernel
theorem dCk_isRow_36 : decode cCk_isRow 36 = .ok (.ireturn, 1) := by decide +kernel
theorem dCk_add_0 : decode cCk_add 0 = .ok (.aload_n 0, 1) := by decide +kernel
theorem dCk_add_1 : decode cCk_add 1 = .ok (.aload_n 0, 1) := by decide +kernel
theorem dCk_add_2 : decode cCk_add 2 = .ok (.getfield 22, 3) := by decide +kernel
theorem dCk_add_5 : decode cCk_add 5 = .ok (.invokevirtual 26, 3) := by decide +kernel
theorem dCk_add_8 : decode cCk_add 8 = .ok (.ifCond .ne 5, 3) := by decide +kernel
theorem dCk_add_11 : decode cCk_add 11 = .ok (.iconst (-1), 1) := by decide +kernel
theorem dCk_add_12 : decode cCk_add 12 = .ok (.ireturn, 1) := by decide +kernel
theorem dCk_add_13 : decode cCk_add 13 = .ok (.aload_n 0, 1) := by decide +kernel
theorem dCk_add_14 : decode cCk_add 14 = .ok (.getfield 9, 3) := by decide +kernel
theorem dCk_add_17 : decode cCk_add 17 = .ok (.aload_n 0, 1) := by decide +kernel
theorem dCk_add_18 : decode cCk_add 18 = .ok (.getfield 22, 3) := by decide +kernel
theorem dCk_add_21 : decode cCk_add 21 = .ok (.iload_n 1, 1) := by decide +kernel
theorem dCk_add_22 : decode cCk_add 22 = .ok (.iastore, 1) := by decide +kernel
theorem dCk_add_23 : decode cCk_add 23 = .ok (.aload_n 0, 1) := by decide +kernel
theorem dCk_add_24 : decode cCk_add 24 = .ok (.getfield 15, 3) := by decide +kernel
theorem dCk_add_27 : decode cCk_add 27 = .ok (.aload_n 0, 1) := by decide +kernel
theorem dCk_add_28 : decode cCk_add 28 = .ok (.getfield 22, 3) := by decide +kernel
theorem dCk_add_31 : decode cCk_add 31 = .ok (.iload_n 2, 1) := by decide +kernel
theorem dCk_add_32 : decode cCk_add 32 = .ok (.iastore, 1) := by decide +kernel
theorem dCk_add_33 : decode cCk_add 33 = .ok (.aload_n 0, 1) := by decide +kernel
theorem dCk_add_34 : decode cCk_add 34 = .ok (.getfield 18, 3) := by decide +kernel
theorem dCk_add_37 : decode cCk_add 37 = .ok (.aload_n 0, 1) := by decide +kernel
theorem dCk_add_38 : decode cCk_add 38 = .ok (.getfield 22, 3) := by decide +kernel
theorem dCk_add_41 : decode cCk_add 41 = .ok (.iload_n 3, 1) := by decide +kernel
theorem dCk_add_42 : decode cCk_add 42 = .ok (.bastore, 1) := by decide +kernel
theorem dCk_add_43 : decode cCk_add 43 = .ok (.aload_n 0, 1) := by decide +kernel
theorem dCk_add_44 : decode cCk_add 44 = .ok (.dup, 1) := by decide +kernel
theorem dCk_add_45 : decode cCk_add 45 = .ok (.getfield 22, 3) := by decide +kernel
theorem dCk_add_48 : decode cCk_add 48 = .ok (.iconst 1, 1) := by decide +kernel
theorem dCk_add_49 : decode cCk_add 49 = .ok (.iadd, 1) := by decide +kernel
theorem dCk_add_50 : decode cCk_add 50 = .ok (.putfield 22, 3) := by decide +kernel
theorem dCk_add_53 : decode cCk_add 53 = .ok (.aload_n 0, 1) := by decide +kernel
theorem dCk_add_54 : decode cCk_add 54 = .ok (.getfield 22, 3) := by decide +kernel
theorem dCk_add_57 : decode cCk_add 57 = .ok (.ireturn, 1) := by decide +kernel
theorem dRw_check_0 : decode cRw_check 0 = .ok (.aload_n 0, 1) := by decide +kernel
theorem dRw_check_1 : decode cRw_check 1 = .ok (.getfield 10, 3) := by decide +kernel
theorem dRw_check_4 : decode cRw_check 4 = .ok (.iload_n 1, 1) := by decide +kernel
theorem dRw_check_5 : decode cRw_check 5 = .ok (.invokevirtual 74, 3) := by decide +kernel
theorem dRw_check_8 : decode cRw_check 8 = .ok (.ifCond .ne 6, 3) := by decide +kernel
theorem dRw_check_11 : decode cRw_check 11 = .ok (.bipush (-2), 2) := by decide +kernel
theorem dRw_check_13 : decode cRw_check 13 = .ok (.ireturn, 1) := by decide +kernel
theorem dRw_check_14 : decode cRw_check 14 = .ok (.iload_n 2, 1) := by decide +kernel
theorem dRw_check_15 : decode cRw_check 15 = .ok (.sipush 10000, 3) := by decide +kernel
theorem dRw_check_18 : decode cRw_check 18 = .ok (.invokestatic 62, 3) := by decide +kernel
theorem dRw_check_21 : decode cRw_check 21 = .ok (.ifCond .ne 6, 3) := by decide +kernel
theorem dRw_check_24 : decode cRw_check 24 = .ok (.bipush (-4), 2) := by decide +kernel
theorem dRw_check_26 : decode cRw_check 26 = .ok (.ireturn, 1) := by decide +kernel
theorem dRw_check_27 : decode cRw_check 27 = .ok (.aload_n 0, 1) := by decide +kernel
theorem dRw_check_28 : decode cRw_check 28 = .ok (.getfield 19, 3) := by decide +kernel
theorem dRw_check_31 : decode cRw_check 31 = .ok (.iload_n 1, 1) := by decide +kernel
theorem dRw_check_32 : decode cRw_check 32 = .ok (.iload_n 2, 1) := by decide +kernel
theorem dRw_check_33 : decode cRw_check 33 = .ok (.iload_n 3, 1) := by decide +kernel
theorem dRw_check_34 : decode cRw_check 34 = .ok (.invokevirtual 79, 3) := by decide +kernel
theorem dRw_check_37 : decode cRw_check 37 = .ok (.ireturn, 1) := by decide +kernel
theorem dTr_above_0 : decode cTr_above 0 = .ok (.aload_n 0, 1) := by decide +kernel
theorem dTr_above_1 : decode cTr_above 1 = .ok (.iload_n 1, 1) := by decide +kernel
theorem dTr_above_2 : decode cTr_above 2 = .ok (.invokevirtual 29, 3) := by decide +kernel
theorem dTr_above_5 : decode cTr_above 5 = .ok (.ifCond .eq 21, 3) := by decide +kernel
theorem dTr_above_8 : decode cTr_above 8 = .ok (.iload_n 1, 1) := by decide +kernel
theorem dTr_above_9 : decode cTr_above 9 = .ok (.aload_n 0, 1) := by decide +kernel
theorem dTr_above_10 : decode cTr_above 10 = .ok (.getfield 15, 3) := by decide +kernel
theorem dTr_above_13 : decode cTr_above 13 = .ok (.arraylength, 1) := by decide +kernel
theorem dTr_above_14 : decode cTr_above 14 = .ok (.if_icmp .ge 12, 3) := by decide +kernel
theorem dTr_above_17 : decode cTr_above 17 = .ok (.aload_n 0, 1) := by decide +kernel
theorem dTr_above_18 : decode cTr_above 18 = .ok (.getfield 15, 3) := by decide +kernel
theorem dTr_above_21 : decode cTr_above 21 = .ok (.iload_n 1, 1) := by decide +kernel
theorem dTr_above_22 : decode cTr_above 22 = .ok (.iaload, 1) := by decide +kernel
theorem dTr_above_23 : decode cTr_above 23 = .ok (.goto 4, 3) := by decide +kernel
theorem dTr_above_26 : decode cTr_above 26 = .ok (.iconst 0, 1) := by decide +kernel
theorem dTr_above_27 : decode cTr_above 27 = .ok (.ireturn, 1) := by decide +kernel
theorem dTr_isSameOrAbove_0 : decode cTr_isSameOrAbove 0 = .ok (.iload_n 2, 1) := by decide +kernel
theorem dTr_isSameOrAbove_1 : decode cTr_isSameOrAbove 1 = .ok (.istore_n 3, 1) := by decide +kernel
theorem dTr_isSameOrAbove_2 : decode cTr_isSameOrAbove 2 = .ok (.iconst 0, 1) := by decide +kernel
theorem dTr_isSameOrAbove_3 : decode cTr_isSameOrAbove 3 = .ok (.istore 4, 2) := by decide +kernel
theorem dTr_isSameOrAbove_5 : decode cTr_isSameOrAbove 5 = .ok (.iload 4, 2) := by decide +kernel
theorem dTr_isSameOrAbove_7 : decode cTr_isSameOrAbove 7 = .ok (.iconst 3, 1) := by decide +kernel
theorem dTr_isSameOrAbove_8 : decode cTr_isSameOrAbove 8 = .ok (.if_icmp .ge 30, 3) := by decide +kernel
theorem dTr_isSameOrAbove_11 : decode cTr_isSameOrAbove 11 = .ok (.aload_n 0, 1) := by decide +kernel
theorem dTr_isSameOrAbove_12 : decode cTr_isSameOrAbove 12 = .ok (.iload_n 3, 1) := by decide +kernel
theorem dTr_isSameOrAbove_13 : decode cTr_isSameOrAbove 13 = .ok (.invokevirtual 29, 3) := by decide +kernel
theorem dTr_isSameOrAbove_16 : decode cTr_isSameOrAbove 16 = .ok (.ifCond .eq 22, 3) := by decide +kernel
theorem dTr_isSameOrAbove_19 : decode cTr_isSameOrAbove 19 = .ok (.iload_n 3, 1) := by decide +kernel
theorem dTr_isSameOrAbove_20 : decode cTr_isSameOrAbove 20 = .ok (.iload_n 1, 1) := by decide +kernel
theorem dTr_isSameOrAbove_21 : decode cTr_isSameOrAbove 21 = .ok (.if_icmp .ne 5, 3) := by decide +kernel
theorem dTr_isSameOrAbove_24 : decode cTr_isSameOrAbove 24 = .ok (.iconst 1, 1) := by decide +kernel
theorem dTr_isSameOrAbove_25 : decode cTr_isSameOrAbove 25 = .ok (.ireturn, 1) := by decide +kernel
theorem dTr_isSameOrAbove_26 : decode cTr_isSameOrAbove 26 = .ok (.aload_n 0, 1) := by decide +kernel
theorem dTr_isSameOrAbove_27 : decode cTr_isSameOrAbove 27 = .ok (.iload_n 3, 1) := by decide +kernel
theorem dTr_isSameOrAbove_28 : decode cTr_isSameOrAbove 28 = .ok (.invokevirtual 33, 3) := by decide +kernel
theorem dTr_isSameOrAbove_31 : decode cTr_isSameOrAbove 31 = .ok (.istore_n 3, 1) := by decide +kernel
theorem dTr_isSameOrAbove_32 : decode cTr_isSameOrAbove 32 = .ok (.iinc 4 1, 3) := by decide +kernel
theorem dTr_isSameOrAbove_35 : decode cTr_isSameOrAbove 35 = .ok (.goto (-30), 3) := by decide +kernel
theorem dTr_isSameOrAbove_38 : decode cTr_isSameOrAbove 38 = .ok (.iconst 0, 1) := by decide +kernel
theorem dTr_isSameOrAbove_39 : decode cTr_isSameOrAbove 39 = .ok (.ireturn, 1) := by decide +kernel
theorem dCk_areOn_0 : decode cCk_areOn 0 = .ok (.iconst 0, 1) := by decide +kernel
theorem dCk_areOn_1 : decode cCk_areOn 1 = .ok (.istore 4, 2) := by decide +kernel
theorem dCk_areOn_3 : decode cCk_areOn 3 = .ok (.iconst 0, 1) := by decide +kernel
theorem dCk_areOn_4 : decode cCk_areOn 4 = .ok (.istore 5, 2) := by decide +kernel
theorem dCk_areOn_6 : decode cCk_areOn 6 = .ok (.iconst 0, 1) := by decide +kernel
theorem dCk_areOn_7 : decode cCk_areOn 7 = .ok (.istore 6, 2) := by decide +kernel
theorem dCk_areOn_9 : decode cCk_areOn 9 = .ok (.iload 6, 2) := by decide +kernel
theorem dCk_areOn_11 : decode cCk_areOn 11 = .ok (.aload_n 0, 1) := by decide +kernel
theorem dCk_areOn_12 : decode cCk_areOn 12 = .ok (.getfield 22, 3) := by decide +kernel
theorem dCk_areOn_15 : decode cCk_areOn 15 = .ok (.if_icmp .ge 78, 3) := by decide +kernel
theorem dCk_areOn_18 : decode cCk_areOn 18 = .ok (.aload_n 0, 1) := by decide +kernel
theorem dCk_areOn_19 : decode cCk_areOn 19 = .ok (.iload 6, 2) := by decide +kernel
theorem dCk_areOn_21 : decode cCk_areOn 21 = .ok (.invokevirtual 26, 3) := by decide +kernel
theorem dCk_areOn_24 : decode cCk_areOn 24 = .ok (.ifCond .eq 69, 3) := by decide +kernel
theorem dCk_areOn_27 : decode cCk_areOn 27 = .ok (.aload_n 0, 1) := by decide +kernel
theorem dCk_areOn_28 : decode cCk_areOn 28 = .ok (.getfield 15, 3) := by decide +kernel
theorem dCk_areOn_31 : decode cCk_areOn 31 = .ok (.iload 6, 2) := by decide +kernel
theorem dCk_areOn_33 : decode cCk_areOn 33 = .ok (.iaload, 1) := by decide +kernel
theorem dCk_areOn_34 : decode cCk_areOn 34 = .ok (.iload 5, 2) := by decide +kernel
theorem dCk_areOn_36 : decode cCk_areOn 36 = .ok (.if_icmp .lt 51, 3) := by decide +kernel
theorem dCk_areOn_39 : decode cCk_areOn 39 = .ok (.aload_n 0, 1) := by decide +kernel
theorem dCk_areOn_40 : decode cCk_areOn 40 = .ok (.getfield 15, 3) := by decide +kernel
theorem dCk_areOn_43 : decode cCk_areOn 43 = .ok (.iload 6, 2) := by decide +kernel
theorem dCk_areOn_45 : decode cCk_areOn 45 = .ok (.iaload, 1) := by decide +kernel
theorem dCk_areOn_46 : decode cCk_areOn 46 = .ok (.iload_n 3, 1) := by decide +kernel
theorem dCk_areOn_47 : decode cCk_areOn 47 = .ok (.if_icmp .gt 40, 3) := by decide +kernel
theorem dCk_areOn_50 : decode cCk_areOn 50 = .ok (.aload_n 1, 1) := by decide +kernel
theorem dCk_areOn_51 : decode cCk_areOn 51 = .ok (.ifnull 36, 3) := by decide +kernel
theorem dCk_areOn_54 : decode cCk_areOn 54 = .ok (.aload_n 1, 1) := by decide +kernel
theorem dCk_areOn_55 : decode cCk_areOn 55 = .ok (.aload_n 0, 1) := by decide +kernel
theorem dCk_areOn_56 : decode cCk_areOn 56 = .ok (.getfield 9, 3) := by decide +kernel
theorem dCk_areOn_59 : decode cCk_areOn 59 = .ok (.iload 6, 2) := by decide +kernel
theorem dCk_areOn_61 : decode cCk_areOn 61 = .ok (.iaload, 1) := by decide +kernel
theorem dCk_areOn_62 : decode cCk_areOn 62 = .ok (.iload_n 2, 1) := by decide +kernel
theorem dCk_areOn_63 : decode cCk_areOn 63 = .ok (.invokevirtual 30, 3) := by decide +kernel
theorem dCk_areOn_66 : decode cCk_areOn 66 = .ok (.ifCond .eq 21, 3) := by decide +kernel
theorem dCk_areOn_69 : decode cCk_areOn 69 = .ok (.aload_n 0, 1) := by decide +kernel
theorem dCk_areOn_70 : decode cCk_areOn 70 = .ok (.getfield 15, 3) := by decide +kernel
theorem dCk_areOn_73 : decode cCk_areOn 73 = .ok (.iload 6, 2) := by decide +kernel
theorem dCk_areOn_75 : decode cCk_areOn 75 = .ok (.iaload, 1) := by decide +kernel
theorem dCk_areOn_76 : decode cCk_areOn 76 = .ok (.istore 5, 2) := by decide +kernel
theorem dCk_areOn_78 : decode cCk_areOn 78 = .ok (.aload_n 0, 1) := by decide +kernel
theorem dCk_areOn_79 : decode cCk_areOn 79 = .ok (.getfield 18, 3) := by decide +kernel
theorem dCk_areOn_82 : decode cCk_areOn 82 = .ok (.iload 6, 2) := by decide +kernel
theorem dCk_areOn_84 : decode cCk_areOn 84 = .ok (.baload, 1) := by decide +kernel
theorem dCk_areOn_85 : decode cCk_areOn 85 = .ok (.istore 4, 2) := by decide +kernel
theorem dCk_areOn_87 : decode cCk_areOn 87 = .ok (.iinc 6 1, 3) := by decide +kernel
theorem dCk_areOn_90 : decode cCk_areOn 90 = .ok (.goto (-81), 3) := by decide +kernel
theorem dCk_areOn_93 : decode cCk_areOn 93 = .ok (.iload 4, 2) := by decide +kernel
theorem dCk_areOn_95 : decode cCk_areOn 95 = .ok (.ireturn, 1) := by decide +kernel
theorem dUs_firstFor_0 : decode cUs_firstFor 0 = .ok (.iconst 0, 1) := by decide +kernel
theorem dUs_firstFor_1 : decode cUs_firstFor 1 = .ok (.istore_n 3, 1) := by decide +kernel
theorem dUs_firstFor_2 : decode cUs_firstFor 2 = .ok (.iload_n 3, 1) := by decide +kernel
theorem dUs_firstFor_3 : decode cUs_firstFor 3 = .ok (.aload_n 0, 1) := by decide +kernel
theorem dUs_firstFor_4 : decode cUs_firstFor 4 = .ok (.getfield 18, 3) := by decide +kernel
theorem dUs_firstFor_7 : decode cUs_firstFor 7 = .ok (.if_icmp .ge 41, 3) := by decide +kernel
theorem dUs_firstFor_10 : decode cUs_firstFor 10 = .ok (.aload_n 0, 1) := by decide +kernel
theorem dUs_firstFor_11 : decode cUs_firstFor 11 = .ok (.iload_n 3, 1) := by decide +kernel
theorem dUs_firstFor_12 : decode cUs_firstFor 12 = .ok (.invokevirtual 22, 3) := by decide +kernel
theorem dUs_firstFor_15 : decode cUs_firstFor 15 = .ok (.ifCond .eq 33, 3) := by decide +kernel
theorem dUs_firstFor_18 : decode cUs_firstFor 18 = .ok (.aload_n 0, 1) := by decide +kernel
theorem dUs_firstFor_19 : decode cUs_firstFor 19 = .ok (.getfield 9, 3) := by decide +kernel
theorem dUs_firstFor_22 : decode cUs_firstFor 22 = .ok (.iload_n 3, 1) := by decide +kernel
theorem dUs_firstFor_23 : decode cUs_firstFor 23 = .ok (.iaload, 1) := by decide +kernel
theorem dUs_firstFor_24 : decode cUs_firstFor 24 = .ok (.iload_n 1, 1) := by decide +kernel
theorem dUs_firstFor_25 : decode cUs_firstFor 25 = .ok (.if_icmp .ne 17, 3) := by decide +kernel
theorem dUs_firstFor_28 : decode cUs_firstFor 28 = .ok (.aload_n 0, 1) := by decide +kernel
theorem dUs_firstFor_29 : decode cUs_firstFor 29 = .ok (.getfield 15, 3) := by decide +kernel
theorem dUs_firstFor_32 : decode cUs_firstFor 32 = .ok (.iload_n 3, 1) := by decide +kernel
theorem dUs_firstFor_33 : decode cUs_firstFor 33 = .ok (.iaload, 1) := by decide +kernel
theorem dUs_firstFor_34 : decode cUs_firstFor 34 = .ok (.iload_n 2, 1) := by decide +kernel
theorem dUs_firstFor_35 : decode cUs_firstFor 35 = .ok (.if_icmp .ne 7, 3) := by decide +kernel
theorem dUs_firstFor_38 : decode cUs_firstFor 38 = .ok (.iload_n 3, 1) := by decide +kernel
theorem dUs_firstFor_39 : decode cUs_firstFor 39 = .ok (.iconst 1, 1) := by decide +kernel
theorem dUs_firstFor_40 : decode cUs_firstFor 40 = .ok (.iadd, 1) := by decide +kernel
theorem dUs_firstFor_41 : decode cUs_firstFor 41 = .ok (.ireturn, 1) := by decide +kernel
theorem dUs_firstFor_42 : decode cUs_firstFor 42 = .ok (.iinc 3 1, 3) := by decide +kernel
theorem dUs_firstFor_45 : decode cUs_firstFor 45 = .ok (.goto (-43), 3) := by decide +kernel
theorem dUs_firstFor_48 : decode cUs_firstFor 48 = .ok (.iconst 0, 1) := by decide +kernel
theorem dUs_firstFor_49 : decode cUs_firstFor 49 = .ok (.ireturn, 1) := by decide +kernel
theorem dRw_takerOfException_0 : decode cRw_takerOfException 0 = .ok (.iload_n 1, 1) := by decide +kernel
theorem dRw_takerOfException_1 : decode cRw_takerOfException 1 = .ok (.istore_n 2, 1) := by decide +kernel
theorem dRw_takerOfException_2 : decode cRw_takerOfException 2 = .ok (.iconst 0, 1) := by decide +kernel
theorem dRw_takerOfException_3 : decode cRw_takerOfException 3 = .ok (.istore_n 3, 1) := by decide +kernel
theorem dRw_takerOfException_4 : decode cRw_takerOfException 4 = .ok (.iload_n 3, 1) := by decide +kernel
theorem dRw_takerOfException_5 : decode cRw_takerOfException 5 = .ok (.iconst 3, 1) := by decide +kernel
theorem dRw_takerOfException_6 : decode cRw_takerOfException 6 = .ok (.if_icmp .ge 48, 3) := by decide +kernel
theorem dRw_takerOfException_9 : decode cRw_takerOfException 9 = .ok (.aload_n 0, 1) := by decide +kernel
theorem dRw_takerOfException_10 : decode cRw_takerOfException 10 = .ok (.getfield 10, 3) := by decide +kernel
theorem dRw_takerOfException_13 : decode cRw_takerOfException 13 = .ok (.iload_n 2, 1) := by decide +kernel
theorem dRw_takerOfException_14 : decode cRw_takerOfException 14 = .ok (.invokevirtual 74, 3) := by decide +kernel
theorem dRw_takerOfException_17 : decode cRw_takerOfException 17 = .ok (.ifCond .eq 37, 3) := by decide +kernel
theorem dRw_takerOfException_20 : decode cRw_takerOfException 20 = .ok (.aload_n 0, 1) := by decide +kernel
theorem dRw_takerOfException_21 : decode cRw_takerOfException 21 = .ok (.getfield 26, 3) := by decide +kernel
theorem dRw_takerOfException_24 : decode cRw_takerOfException 24 = .ok (.iconst 0, 1) := by decide +kernel
theorem dRw_takerOfException_25 : decode cRw_takerOfException 25 = .ok (.iload_n 2, 1) := by decide +kernel
theorem dRw_takerOfException_26 : decode cRw_takerOfException 26 = .ok (.invokevirtual 125, 3) := by decide +kernel
theorem dRw_takerOfException_29 : decode cRw_takerOfException 29 = .ok (.istore 4, 2) := by decide +kernel
theorem dRw_takerOfException_31 : decode cRw_takerOfException 31 = .ok (.iload 4, 2) := by decide +kernel
theorem dRw_takerOfException_33 : decode cRw_takerOfException 33 = .ok (.ifCond .eq 6, 3) := by decide +kernel
theorem dRw_takerOfException_36 : decode cRw_takerOfException 36 = .ok (.iload 4, 2) := by decide +kernel
theorem dRw_takerOfException_38 : decode cRw_takerOfException 38 = .ok (.ireturn, 1) := by decide +kernel
theorem dRw_takerOfException_39 : decode cRw_takerOfException 39 = .ok (.aload_n 0, 1) := by decide +kernel
theorem dRw_takerOfException_40 : decode cRw_takerOfException 40 = .ok (.getfield 10, 3) := by decide +kernel
theorem dRw_takerOfException_43 : decode cRw_takerOfException 43 = .ok (.iload_n 2, 1) := by decide +kernel
theorem dRw_takerOfException_44 : decode cRw_takerOfException 44 = .ok (.invokevirtual 128, 3) := by decide +kernel
theorem dRw_takerOfException_47 : decode cRw_takerOfException 47 = .ok (.istore_n 2, 1) := by decide +kernel
theorem dRw_takerOfException_48 : decode cRw_takerOfException 48 = .ok (.iinc 3 1, 3) := by decide +kernel
theorem dRw_takerOfException_51 : decode cRw_takerOfException 51 = .ok (.goto (-47), 3) := by decide +kernel
theorem dRw_takerOfException_54 : decode cRw_takerOfException 54 = .ok (.iconst 0, 1) := by decide +kernel
theorem dRw_takerOfException_55 : decode cRw_takerOfException 55 = .ok (.ireturn, 1) := by decide +kernel
theorem dTr_isFatal_0 : decode cTr_isFatal 0 = .ok (.aload_n 0, 1) := by decide +kernel
theorem dTr_isFatal_1 : decode cTr_isFatal 1 = .ok (.iload_n 1, 1) := by decide +kernel
theorem dTr_isFatal_2 : decode cTr_isFatal 2 = .ok (.invokevirtual 29, 3) := by decide +kernel
theorem dTr_isFatal_5 : decode cTr_isFatal 5 = .ok (.ifCond .eq 18, 3) := by decide +kernel
theorem dTr_isFatal_8 : decode cTr_isFatal 8 = .ok (.aload_n 0, 1) := by decide +kernel
theorem dTr_isFatal_9 : decode cTr_isFatal 9 = .ok (.getfield 9, 3) := by decide +kernel
theorem dTr_isFatal_12 : decode cTr_isFatal 12 = .ok (.iload_n 1, 1) := by decide +kernel
theorem dTr_isFatal_13 : decode cTr_isFatal 13 = .ok (.iaload, 1) := by decide +kernel
theorem dTr_isFatal_14 : decode cTr_isFatal 14 = .ok (.bipush 50, 2) := by decide +kernel
theorem dTr_isFatal_16 : decode cTr_isFatal 16 = .ok (.if_icmp .ge 7, 3) := by decide +kernel
theorem dTr_isFatal_19 : decode cTr_isFatal 19 = .ok (.iconst 1, 1) := by decide +kernel
theorem dTr_isFatal_20 : decode cTr_isFatal 20 = .ok (.goto 4, 3) := by decide +kernel
theorem dTr_isFatal_23 : decode cTr_isFatal 23 = .ok (.iconst 0, 1) := by decide +kernel
theorem dTr_isFatal_24 : decode cTr_isFatal 24 = .ok (.ireturn, 1) := by decide +kernel
theorem dLt_put_0 : decode cLt_put 0 = .ok (.aload_n 0, 1) := by decide +kernel
theorem dLt_put_1 : decode cLt_put 1 = .ok (.iload_n 1, 1) := by decide +kernel
theorem dLt_put_2 : decode cLt_put 2 = .ok (.putfield 9, 3) := by decide +kernel
theorem dLt_put_5 : decode cLt_put 5 = .ok (.aload_n 0, 1) := by decide +kernel
theorem dLt_put_6 : decode cLt_put 6 = .ok (.iload_n 2, 1) := by decide +kernel
theorem dLt_put_7 : decode cLt_put 7 = .ok (.putfield 15, 3) := by decide +kernel
theorem dLt_put_10 : decode cLt_put 10 = .ok (.aload_n 0, 1) := by decide +kernel
theorem dLt_put_11 : decode cLt_put 11 = .ok (.iload_n 3, 1) := by decide +kernel
theorem dLt_put_12 : decode cLt_put 12 = .ok (.putfield 18, 3) := by decide +kernel
theorem dLt_put_15 : decode cLt_put 15 = .ok (.aload_n 0, 1) := by decide +kernel
theorem dLt_put_16 : decode cLt_put 16 = .ok (.iconst (-1), 1) := by decide +kernel
theorem dLt_put_17 : decode cLt_put 17 = .ok (.putfield 21, 3) := by decide +kernel
theorem dLt_put_20 : decode cLt_put 20 = .ok (.return_, 1) := by decide +kernel
theorem dRn_isRow_0 : decode cRn_isRow 0 = .ok (.iload_n 1, 1) := by decide +kernel
theorem dRn_isRow_1 : decode cRn_isRow 1 = .ok (.ifCond .lt 25, 3) := by decide +kernel
theorem dRn_isRow_4 : decode cRn_isRow 4 = .ok (.iload_n 1, 1) := by decide +kernel
theorem dRn_isRow_5 : decode cRn_isRow 5 = .ok (.aload_n 0, 1) := by decide +kernel
theorem dRn_isRow_6 : decode cRn_isRow 6 = .ok (.getfield 9, 3) := by decide +kernel
theorem dRn_isRow_9 : decode cRn_isRow 9 = .ok (.arraylength, 1) := by decide +kernel
theorem dRn_isRow_10 : decode cRn_isRow 10 = .ok (.if_icmp .ge 16, 3) := by decide +kernel
theorem dRn_isRow_13 : decode cRn_isRow 13 = .ok (.iload_n 1, 1) := by decide +kernel
theorem dRn_isRow_14 : decode cRn_isRow 14 = .ok (.aload_n 0, 1) := by decide +kernel
theorem dRn_isRow_15 : decode cRn_isRow 15 = .ok (.getfield 15, 3) := by decide +kernel
theorem dRn_isRow_18 : decode cRn_isRow 18 = .ok (.arraylength, 1) := by decide +kernel
theorem dRn_isRow_19 : decode cRn_isRow 19 = .ok (.if_icmp .ge 7, 3) := by decide +kernel
theorem dRn_isRow_22 : decode cRn_isRow 22 = .ok (.iconst 1, 1) := by decide +kernel
theorem dRn_isRow_23 : decode cRn_isRow 23 = .ok (.goto 4, 3) := by decide +kernel
theorem dRn_isRow_26 : decode cRn_isRow 26 = .ok (.iconst 0, 1) := by decide +kernel
theorem dRn_isRow_27 : decode cRn_isRow 27 = .ok (.ireturn, 1) := by decide +kernel
theorem dRn_holds_0 : decode cRn_holds 0 = .ok (.iconst 0, 1) := by decide +kernel
theorem dRn_holds_1 : decode cRn_holds 1 = .ok (.istore_n 2, 1) := by decide +kernel
theorem dRn_holds_2 : decode cRn_holds 2 = .ok (.iload_n 2, 1) := by decide +kernel
theorem dRn_holds_3 : decode cRn_holds 3 = .ok (.aload_n 0, 1) := by decide +kernel
theorem dRn_holds_4 : decode cRn_holds 4 = .ok (.getfield 18, 3) := by decide +kernel
theorem dRn_holds_7 : decode cRn_holds 7 = .ok (.if_icmp .ge 29, 3) := by decide +kernel
theorem dRn_holds_10 : decode cRn_holds 10 = .ok (.aload_n 0, 1) := by decide +kernel
theorem dRn_holds_11 : decode cRn_holds 11 = .ok (.iload_n 2, 1) := by decide +kernel
theorem dRn_holds_12 : decode cRn_holds 12 = .ok (.invokevirtual 22, 3) := by decide +kernel
theorem dRn_holds_15 : decode cRn_holds 15 = .ok (.ifCond .eq 21, 3) := by decide +kernel
theorem dRn_holds_18 : decode cRn_holds 18 = .ok (.aload_n 0, 1) := by decide +kernel
theorem dRn_holds_19 : decode cRn_holds 19 = .ok (.getfield 9, 3) := by decide +kernel
theorem dRn_holds_22 : decode cRn_holds 22 = .ok (.iload_n 2, 1) := by decide +kernel
theorem dRn_holds_23 : decode cRn_holds 23 = .ok (.iaload, 1) := by decide +kernel
theorem dRn_holds_24 : decode cRn_holds 24 = .ok (.iload_n 1, 1) := by decide +kernel
theorem dRn_holds_25 : decode cRn_holds 25 = .ok (.if_icmp .ne 5, 3) := by decide +kernel
theorem dRn_holds_28 : decode cRn_holds 28 = .ok (.iconst 1, 1) := by decide +kernel
theorem dRn_holds_29 : decode cRn_holds 29 = .ok (.ireturn, 1) := by decide +kernel
theorem dRn_holds_30 : decode cRn_holds 30 = .ok (.iinc 2 1, 3) := by decide +kernel
theorem dRn_holds_33 : decode cRn_holds 33 = .ok (.goto (-31), 3) := by decide +kernel
theorem dRn_holds_36 : decode cRn_holds 36 = .ok (.iconst 0, 1) := by decide +kernel
theorem dRn_holds_37 : decode cRn_holds 37 = .ok (.ireturn, 1) := by decide +kernel
theorem dRn_start_0 : decode cRn_start 0 = .ok (.aload_n 0, 1) := by decide +kernel
theorem dRn_start_1 : decode cRn_start 1 = .ok (.aload_n 0, 1) := by decide +kernel
theorem dRn_start_2 : decode cRn_start 2 = .ok (.getfield 18, 3) := by decide +kernel
theorem dRn_start_5 : decode cRn_start 5 = .ok (.invokevirtual 22, 3) := by decide +kernel
theorem dRn_start_8 : decode cRn_start 8 = .ok (.ifCond .ne 5, 3) := by decide +kernel
theorem dRn_start_11 : decode cRn_start 11 = .ok (.iconst 0, 1) := by decide +kernel
theorem dRn_start_12 : decode cRn_start 12 = .ok (.ireturn, 1) := by decide +kernel
theorem dRn_start_13 : decode cRn_start 13 = .ok (.aload_n 0, 1) := by decide +kernel
theorem dRn_start_14 : decode cRn_start 14 = .ok (.getfield 9, 3) := by decide +kernel
theorem dRn_start_17 : decode cRn_start 17 = .ok (.aload_n 0, 1) := by decide +kernel
theorem dRn_start_18 : decode cRn_start 18 = .ok (.getfield 18, 3) := by decide +kernel
theorem dRn_start_21 : decode cRn_start 21 = .ok (.iload_n 1, 1) := by decide +kernel
theorem dRn_start_22 : decode cRn_start 22 = .ok (.iastore, 1) := by decide +kernel
theorem dRn_start_23 : decode cRn_start 23 = .ok (.aload_n 0, 1) := by decide +kernel
theorem dRn_start_24 : decode cRn_start 24 = .ok (.getfield 15, 3) := by decide +kernel
theorem dRn_start_27 : decode cRn_start 27 = .ok (.aload_n 0, 1) := by decide +kernel
theorem dRn_start_28 : decode cRn_start 28 = .ok (.getfield 18, 3) := by decide +kernel
theorem dRn_start_31 : decode cRn_start 31 = .ok (.iload_n 2, 1) := by decide +kernel
theorem dRn_start_32 : decode cRn_start 32 = .ok (.iastore, 1) := by decide +kernel
theorem dRn_start_33 : decode cRn_start 33 = .ok (.aload_n 0, 1) := by decide +kernel
theorem dRn_start_34 : decode cRn_start 34 = .ok (.dup, 1) := by decide +kernel
theorem dRn_start_35 : decode cRn_start 35 = .ok (.getfield 18, 3) := by decide +kernel
theorem dRn_start_38 : decode cRn_start 38 = .ok (.iconst 1, 1) := by decide +kernel
theorem dRn_start_39 : decode cRn_start 39 = .ok (.iadd, 1) := by decide +kernel
theorem dRn_start_40 : decode cRn_start 40 = .ok (.putfield 18, 3) := by decide +kernel
theorem dRn_start_43 : decode cRn_start 43 = .ok (.iconst 1, 1) := by decide +kernel
theorem dRn_start_44 : decode cRn_start 44 = .ok (.ireturn, 1) := by decide +kernel
theorem dRw_come_0 : decode cRw_come 0 = .ok (.aload_n 0, 1) := by decide +kernel
theorem dRw_come_1 : decode cRw_come 1 = .ok (.getfield 47, 3) := by decide +kernel
theorem dRw_come_4 : decode cRw_come 4 = .ok (.iload_n 1, 1) := by decide +kernel
theorem dRw_come_5 : decode cRw_come 5 = .ok (.iload_n 2, 1) := by decide +kernel
theorem dRw_come_6 : decode cRw_come 6 = .ok (.iload_n 3, 1) := by decide +kernel
theorem dRw_come_7 : decode cRw_come 7 = .ok (.invokevirtual 134, 3) := by decide +kernel
theorem dRw_come_10 : decode cRw_come 10 = .ok (.aload_n 0, 1) := by decide +kernel
theorem dRw_come_11 : decode cRw_come 11 = .ok (.dup, 1) := by decide +kernel
theorem dRw_come_12 : decode cRw_come 12 = .ok (.getfield 51, 3) := by decide +kernel
theorem dRw_come_15 : decode cRw_come 15 = .ok (.iconst 1, 1) := by decide +kernel
theorem dRw_come_16 : decode cRw_come 16 = .ok (.iadd, 1) := by decide +kernel
theorem dRw_come_17 : decode cRw_come 17 = .ok (.putfield 51, 3) := by decide +kernel
theorem dRw_come_20 : decode cRw_come 20 = .ok (.iload_n 3, 1) := by decide +kernel
theorem dRw_come_21 : decode cRw_come 21 = .ok (.ifCond .ne 25, 3) := by decide +kernel
theorem dRw_come_24 : decode cRw_come 24 = .ok (.aload_n 0, 1) := by decide +kernel
theorem dRw_come_25 : decode cRw_come 25 = .ok (.dup, 1) := by decide +kernel
theorem dRw_come_26 : decode cRw_come 26 = .ok (.getfield 55, 3) := by decide +kernel
theorem dRw_come_29 : decode cRw_come 29 = .ok (.iconst 1, 1) := by decide +kernel
theorem dRw_come_30 : decode cRw_come 30 = .ok (.iadd, 1) := by decide +kernel
theorem dRw_come_31 : decode cRw_come 31 = .ok (.putfield 55, 3) := by decide +kernel
theorem dRw_come_34 : decode cRw_come 34 = .ok (.iload 4, 2) := by decide +kernel
theorem dRw_come_36 : decode cRw_come 36 = .ok (.ifCond .eq 8, 3) := by decide +kernel
theorem dRw_come_39 : decode cRw_come 39 = .ok (.aload_n 0, 1) := by decide +kernel
theorem dRw_come_40 : decode cRw_come 40 = .ok (.iconst 1, 1) := by decide +kernel
theorem dRw_come_41 : decode cRw_come 41 = .ok (.putfield 58, 3) := by decide +kernel
theorem dRw_come_44 : decode cRw_come 44 = .ok (.iconst 0, 1) := by decide +kernel
theorem dRw_come_45 : decode cRw_come 45 = .ok (.ireturn, 1) := by decide +kernel
theorem dRw_come_46 : decode cRw_come 46 = .ok (.aload_n 0, 1) := by decide +kernel
theorem dRw_come_47 : decode cRw_come 47 = .ok (.getfield 40, 3) := by decide +kernel
theorem dRw_come_50 : decode cRw_come 50 = .ok (.iload_n 3, 1) := by decide +kernel
theorem dRw_come_51 : decode cRw_come 51 = .ok (.invokevirtual 106, 3) := by decide +kernel
theorem dRw_come_54 : decode cRw_come 54 = .ok (.ifCond .ne 15, 3) := by decide +kernel
theorem dRw_come_57 : decode cRw_come 57 = .ok (.aload_n 0, 1) := by decide +kernel
theorem dRw_come_58 : decode cRw_come 58 = .ok (.getfield 40, 3) := by decide +kernel
theorem dRw_come_61 : decode cRw_come 61 = .ok (.iload_n 3, 1) := by decide +kernel
theorem dRw_come_62 : decode cRw_come 62 = .ok (.iload_n 2, 1) := by decide +kernel
theorem dRw_come_63 : decode cRw_come 63 = .ok (.invokevirtual 137, 3) := by decide +kernel
theorem dRw_come_66 : decode cRw_come 66 = .ok (.ifCond .ne 10, 3) := by decide +kernel
theorem dRw_come_69 : decode cRw_come 69 = .ok (.aload_n 0, 1) := by decide +kernel
theorem dRw_come_70 : decode cRw_come 70 = .ok (.iconst 1, 1) := by decide +kernel
theorem dRw_come_71 : decode cRw_come 71 = .ok (.putfield 58, 3) := by decide +kernel
theorem dRw_come_74 : decode cRw_come 74 = .ok (.iconst 0, 1) := by decide +kernel
theorem dRw_come_75 : decode cRw_come 75 = .ok (.ireturn, 1) := by decide +kernel
theorem dRw_come_76 : decode cRw_come 76 = .ok (.iload_n 3, 1) := by decide +kernel
theorem dRw_come_77 : decode cRw_come 77 = .ok (.ireturn, 1) := by decide +kernel
theorem dRw_raise_0 : decode cRw_raise 0 = .ok (.aload_n 0, 1) := by decide +kernel
theorem dRw_raise_1 : decode cRw_raise 1 = .ok (.getfield 10, 3) := by decide +kernel
theorem dRw_raise_4 : decode cRw_raise 4 = .ok (.iload_n 1, 1) := by decide +kernel
theorem dRw_raise_5 : decode cRw_raise 5 = .ok (.invokevirtual 74, 3) := by decide +kernel
theorem dRw_raise_8 : decode cRw_raise 8 = .ok (.ifCond .ne 6, 3) := by decide +kernel
theorem dRw_raise_11 : decode cRw_raise 11 = .ok (.bipush (-2), 2) := by decide +kernel
theorem dRw_raise_13 : decode cRw_raise 13 = .ok (.ireturn, 1) := by decide +kernel
theorem dRw_raise_14 : decode cRw_raise 14 = .ok (.iload_n 2, 1) := by decide +kernel
theorem dRw_raise_15 : decode cRw_raise 15 = .ok (.sipush 10000, 3) := by decide +kernel
theorem dRw_raise_18 : decode cRw_raise 18 = .ok (.invokestatic 62, 3) := by decide +kernel
theorem dRw_raise_21 : decode cRw_raise 21 = .ok (.ifCond .ne 6, 3) := by decide +kernel
theorem dRw_raise_24 : decode cRw_raise 24 = .ok (.bipush (-4), 2) := by decide +kernel
theorem dRw_raise_26 : decode cRw_raise 26 = .ok (.ireturn, 1) := by decide +kernel
theorem dRw_raise_27 : decode cRw_raise 27 = .ok (.aload_n 0, 1) := by decide +kernel
theorem dRw_raise_28 : decode cRw_raise 28 = .ok (.getfield 58, 3) := by decide +kernel
theorem dRw_raise_31 : decode cRw_raise 31 = .ok (.ifCond .ne 19, 3) := by decide +kernel
theorem dRw_raise_34 : decode cRw_raise 34 = .ok (.aload_n 0, 1) := by decide +kernel
theorem dRw_raise_35 : decode cRw_raise 35 = .ok (.getfield 19, 3) := by decide +kernel
theorem dRw_raise_38 : decode cRw_raise 38 = .ok (.aload_n 0, 1) := by decide +kernel
theorem dRw_raise_39 : decode cRw_raise 39 = .ok (.getfield 10, 3) := by decide +kernel
theorem dRw_raise_42 : decode cRw_raise 42 = .ok (.iload_n 1, 1) := by decide +kernel
theorem dRw_raise_43 : decode cRw_raise 43 = .ok (.iload_n 2, 1) := by decide +kernel
theorem dRw_raise_44 : decode cRw_raise 44 = .ok (.invokevirtual 82, 3) := by decide +kernel
theorem dRw_raise_47 : decode cRw_raise 47 = .ok (.ifCond .ne 5, 3) := by decide +kernel
theorem dRw_raise_50 : decode cRw_raise 50 = .ok (.iconst (-1), 1) := by decide +kernel
theorem dRw_raise_51 : decode cRw_raise 51 = .ok (.ireturn, 1) := by decide +kernel
theorem dRw_raise_52 : decode cRw_raise 52 = .ok (.aload_n 0, 1) := by decide +kernel
theorem dRw_raise_53 : decode cRw_raise 53 = .ok (.iload_n 1, 1) := by decide +kernel
theorem dRw_raise_54 : decode cRw_raise 54 = .ok (.iload_n 2, 1) := by decide +kernel
theorem dRw_raise_55 : decode cRw_raise 55 = .ok (.aload_n 0, 1) := by decide +kernel
theorem dRw_raise_56 : decode cRw_raise 56 = .ok (.iload_n 1, 1) := by decide +kernel
theorem dRw_raise_57 : decode cRw_raise 57 = .ok (.invokevirtual 86, 3) := by decide +kernel
theorem dRw_raise_60 : decode cRw_raise 60 = .ok (.aload_n 0, 1) := by decide +kernel
theorem dRw_raise_61 : decode cRw_raise 61 = .ok (.getfield 10, 3) := by decide +kernel
theorem dRw_raise_64 : decode cRw_raise 64 = .ok (.iload_n 1, 1) := by decide +kernel
theorem dRw_raise_65 : decode cRw_raise 65 = .ok (.invokevirtual 89, 3) := by decide +kernel
theorem dRw_raise_68 : decode cRw_raise 68 = .ok (.invokevirtual 92, 3) := by decide +kernel
theorem dRw_raise_71 : decode cRw_raise 71 = .ok (.ireturn, 1) := by decide +kernel
theorem dRn_useAt_0 : decode cRn_useAt 0 = .ok (.iload_n 1, 1) := by decide +kernel
theorem dRn_useAt_1 : decode cRn_useAt 1 = .ok (.aload_n 0, 1) := by decide +kernel
theorem dRn_useAt_2 : decode cRn_useAt 2 = .ok (.getfield 18, 3) := by decide +kernel
theorem dRn_useAt_5 : decode cRn_useAt 5 = .ok (.invokestatic 26, 3) := by decide +kernel
theorem dRn_useAt_8 : decode cRn_useAt 8 = .ok (.ifCond .ne 5, 3) := by decide +kernel
theorem dRn_useAt_11 : decode cRn_useAt 11 = .ok (.iconst 0, 1) := by decide +kernel
theorem dRn_useAt_12 : decode cRn_useAt 12 = .ok (.ireturn, 1) := by decide +kernel
theorem dRn_useAt_13 : decode cRn_useAt 13 = .ok (.aload_n 0, 1) := by decide +kernel
theorem dRn_useAt_14 : decode cRn_useAt 14 = .ok (.getfield 18, 3) := by decide +kernel
theorem dRn_useAt_17 : decode cRn_useAt 17 = .ok (.iconst 1, 1) := by decide +kernel
theorem dRn_useAt_18 : decode cRn_useAt 18 = .ok (.isub, 1) := by decide +kernel
theorem dRn_useAt_19 : decode cRn_useAt 19 = .ok (.iload_n 1, 1) := by decide +kernel
theorem dRn_useAt_20 : decode cRn_useAt 20 = .ok (.isub, 1) := by decide +kernel
theorem dRn_useAt_21 : decode cRn_useAt 21 = .ok (.istore_n 2, 1) := by decide +kernel
theorem dRn_useAt_22 : decode cRn_useAt 22 = .ok (.aload_n 0, 1) := by decide +kernel
theorem dRn_useAt_23 : decode cRn_useAt 23 = .ok (.iload_n 2, 1) := by decide +kernel
theorem dRn_useAt_24 : decode cRn_useAt 24 = .ok (.invokevirtual 22, 3) := by decide +kernel
theorem dRn_useAt_27 : decode cRn_useAt 27 = .ok (.ifCond .eq 12, 3) := by decide +kernel
theorem dRn_useAt_30 : decode cRn_useAt 30 = .ok (.aload_n 0, 1) := by decide +kernel
theorem dRn_useAt_31 : decode cRn_useAt 31 = .ok (.getfield 9, 3) := by decide +kernel
theorem dRn_useAt_34 : decode cRn_useAt 34 = .ok (.iload_n 2, 1) := by decide +kernel
theorem dRn_useAt_35 : decode cRn_useAt 35 = .ok (.iaload, 1) := by decide +kernel
theorem dRn_useAt_36 : decode cRn_useAt 36 = .ok (.goto 4, 3) := by decide +kernel
theorem dRn_useAt_39 : decode cRn_useAt 39 = .ok (.iconst 0, 1) := by decide +kernel
theorem dRn_useAt_40 : decode cRn_useAt 40 = .ok (.ireturn, 1) := by decide +kernel
theorem dRw_taken_0 : decode cRw_taken 0 = .ok (.aload_n 0, 1) := by decide +kernel
theorem dRw_taken_1 : decode cRw_taken 1 = .ok (.getfield 40, 3) := by decide +kernel
theorem dRw_taken_4 : decode cRw_taken 4 = .ok (.iload_n 1, 1) := by decide +kernel
theorem dRw_taken_5 : decode cRw_taken 5 = .ok (.invokevirtual 96, 3) := by decide +kernel
theorem dRw_taken_8 : decode cRw_taken 8 = .ok (.ireturn, 1) := by decide +kernel
theorem dRn_size_0 : decode cRn_size 0 = .ok (.aload_n 0, 1) := by decide +kernel
theorem dRn_size_1 : decode cRn_size 1 = .ok (.getfield 18, 3) := by decide +kernel
theorem dRn_size_4 : decode cRn_size 4 = .ok (.ireturn, 1) := by decide +kernel
theorem dRn_endLatest_0 : decode cRn_endLatest 0 = .ok (.aload_n 0, 1) := by decide +kernel
theorem dRn_endLatest_1 : decode cRn_endLatest 1 = .ok (.getfield 18, 3) := by decide +kernel
theorem dRn_endLatest_4 : decode cRn_endLatest 4 = .ok (.iconst 1, 1) := by decide +kernel
theorem dRn_endLatest_5 : decode cRn_endLatest 5 = .ok (.isub, 1) := by decide +kernel
theorem dRn_endLatest_6 : decode cRn_endLatest 6 = .ok (.istore_n 1, 1) := by decide +kernel
theorem dRn_endLatest_7 : decode cRn_endLatest 7 = .ok (.aload_n 0, 1) := by decide +kernel
theorem dRn_endLatest_8 : decode cRn_endLatest 8 = .ok (.iload_n 1, 1) := by decide +kernel
theorem dRn_endLatest_9 : decode cRn_endLatest 9 = .ok (.invokevirtual 22, 3) := by decide +kernel
theorem dRn_endLatest_12 : decode cRn_endLatest 12 = .ok (.ifCond .ne 5, 3) := by decide +kernel
theorem dRn_endLatest_15 : decode cRn_endLatest 15 = .ok (.iconst 0, 1) := by decide +kernel
theorem dRn_endLatest_16 : decode cRn_endLatest 16 = .ok (.ireturn, 1) := by decide +kernel
theorem dRn_endLatest_17 : decode cRn_endLatest 17 = .ok (.aload_n 0, 1) := by decide +kernel
theorem dRn_endLatest_18 : decode cRn_endLatest 18 = .ok (.iload_n 1, 1) := by decide +kernel
theorem dRn_endLatest_19 : decode cRn_endLatest 19 = .ok (.putfield 18, 3) := by decide +kernel
theorem dRn_endLatest_22 : decode cRn_endLatest 22 = .ok (.aload_n 0, 1) := by decide +kernel
theorem dRn_endLatest_23 : decode cRn_endLatest 23 = .ok (.getfield 15, 3) := by decide +kernel
theorem dRn_endLatest_26 : decode cRn_endLatest 26 = .ok (.iload_n 1, 1) := by decide +kernel
theorem dRn_endLatest_27 : decode cRn_endLatest 27 = .ok (.iaload, 1) := by decide +kernel
theorem dRn_endLatest_28 : decode cRn_endLatest 28 = .ok (.ireturn, 1) := by decide +kernel
theorem dRw_resume_0 : decode cRw_resume 0 = .ok (.iload_n 2, 1) := by decide +kernel
theorem dRw_resume_1 : decode cRw_resume 1 = .ok (.sipush 10000, 3) := by decide +kernel
theorem dRw_resume_4 : decode cRw_resume 4 = .ok (.invokestatic 62, 3) := by decide +kernel
theorem dRw_resume_7 : decode cRw_resume 7 = .ok (.ifCond .ne 6, 3) := by decide +kernel
theorem dRw_resume_10 : decode cRw_resume 10 = .ok (.bipush (-4), 2) := by decide +kernel
theorem dRw_resume_12 : decode cRw_resume 12 = .ok (.ireturn, 1) := by decide +kernel
theorem dRw_resume_13 : decode cRw_resume 13 = .ok (.aload_n 0, 1) := by decide +kernel
theorem dRw_resume_14 : decode cRw_resume 14 = .ok (.getfield 58, 3) := by decide +kernel
theorem dRw_resume_17 : decode cRw_resume 17 = .ok (.ifCond .eq 6, 3) := by decide +kernel
theorem dRw_resume_20 : decode cRw_resume 20 = .ok (.bipush (-5), 2) := by decide +kernel
theorem dRw_resume_22 : decode cRw_resume 22 = .ok (.ireturn, 1) := by decide +kernel
theorem dRw_resume_23 : decode cRw_resume 23 = .ok (.aload_n 0, 1) := by decide +kernel
theorem dRw_resume_24 : decode cRw_resume 24 = .ok (.getfield 40, 3) := by decide +kernel
theorem dRw_resume_27 : decode cRw_resume 27 = .ok (.invokevirtual 99, 3) := by decide +kernel
theorem dRw_resume_30 : decode cRw_resume 30 = .ok (.ifCond .eq 15, 3) := by decide +kernel
theorem dRw_resume_33 : decode cRw_resume 33 = .ok (.aload_n 0, 1) := by decide +kernel
theorem dRw_resume_34 : decode cRw_resume 34 = .ok (.getfield 40, 3) := by decide +kernel
theorem dRw_resume_37 : decode cRw_resume 37 = .ok (.iconst 0, 1) := by decide +kernel
theorem dRw_resume_38 : decode cRw_resume 38 = .ok (.invokevirtual 96, 3) := by decide +kernel
theorem dRw_resume_41 : decode cRw_resume 41 = .ok (.iload_n 1, 1) := by decide +kernel
theorem dRw_resume_42 : decode cRw_resume 42 = .ok (.if_icmp .eq 5, 3) := by decide +kernel
theorem dRw_resume_45 : decode cRw_resume 45 = .ok (.iconst 0, 1) := by decide +kernel
theorem dRw_resume_46 : decode cRw_resume 46 = .ok (.ireturn, 1) := by decide +kernel
theorem dRw_resume_47 : decode cRw_resume 47 = .ok (.aload_n 0, 1) := by decide +kernel
theorem dRw_resume_48 : decode cRw_resume 48 = .ok (.getfield 40, 3) := by decide +kernel
theorem dRw_resume_51 : decode cRw_resume 51 = .ok (.invokevirtual 103, 3) := by decide +kernel
theorem dRw_resume_54 : decode cRw_resume 54 = .ok (.istore_n 3, 1) := by decide +kernel
theorem dRw_resume_55 : decode cRw_resume 55 = .ok (.iload_n 2, 1) := by decide +kernel
theorem dRw_resume_56 : decode cRw_resume 56 = .ok (.ifCond .ne 9, 3) := by decide +kernel
theorem dRw_resume_59 : decode cRw_resume 59 = .ok (.iload_n 3, 1) := by decide +kernel
theorem dRw_resume_60 : decode cRw_resume 60 = .ok (.iconst 1, 1) := by decide +kernel
theorem dRw_resume_61 : decode cRw_resume 61 = .ok (.iadd, 1) := by decide +kernel
theorem dRw_resume_62 : decode cRw_resume 62 = .ok (.goto 4, 3) := by decide +kernel
theorem dRw_resume_65 : decode cRw_resume 65 = .ok (.iload_n 2, 1) := by decide +kernel
theorem dRw_resume_66 : decode cRw_resume 66 = .ok (.ireturn, 1) := by decide +kernel
theorem dRw_nested_0 : decode cRw_nested 0 = .ok (.aload_n 0, 1) := by decide +kernel
theorem dRw_nested_1 : decode cRw_nested 1 = .ok (.getfield 10, 3) := by decide +kernel
theorem dRw_nested_4 : decode cRw_nested 4 = .ok (.iload_n 1, 1) := by decide +kernel
theorem dRw_nested_5 : decode cRw_nested 5 = .ok (.invokevirtual 74, 3) := by decide +kernel
theorem dRw_nested_8 : decode cRw_nested 8 = .ok (.ifCond .ne 6, 3) := by decide +kernel
theorem dRw_nested_11 : decode cRw_nested 11 = .ok (.bipush (-2), 2) := by decide +kernel
theorem dRw_nested_13 : decode cRw_nested 13 = .ok (.ireturn, 1) := by decide +kernel
theorem dRw_nested_14 : decode cRw_nested 14 = .ok (.aload_n 0, 1) := by decide +kernel
theorem dRw_nested_15 : decode cRw_nested 15 = .ok (.getfield 40, 3) := by decide +kernel
theorem dRw_nested_18 : decode cRw_nested 18 = .ok (.aload_n 0, 1) := by decide +kernel
theorem dRw_nested_19 : decode cRw_nested 19 = .ok (.iload_n 1, 1) := by decide +kernel
theorem dRw_nested_20 : decode cRw_nested 20 = .ok (.invokevirtual 86, 3) := by decide +kernel
theorem dRw_nested_23 : decode cRw_nested 23 = .ok (.invokevirtual 106, 3) := by decide +kernel
theorem dRw_nested_26 : decode cRw_nested 26 = .ok (.ifCond .eq 7, 3) := by decide +kernel
theorem dRw_nested_29 : decode cRw_nested 29 = .ok (.iconst 1, 1) := by decide +kernel
theorem dRw_nested_30 : decode cRw_nested 30 = .ok (.goto 4, 3) := by decide +kernel
theorem dRw_nested_33 : decode cRw_nested 33 = .ok (.iconst 0, 1) := by decide +kernel
theorem dRw_nested_34 : decode cRw_nested 34 = .ok (.ireturn, 1) := by decide +kernel
theorem dLt_passTo_0 : decode cLt_passTo 0 = .ok (.aload_n 0, 1) := by decide +kernel
theorem dLt_passTo_1 : decode cLt_passTo 1 = .ok (.getfield 9, 3) := by decide +kernel
theorem dLt_passTo_4 : decode cLt_passTo 4 = .ok (.ifCond .le 11, 3) := by decide +kernel
theorem dLt_passTo_7 : decode cLt_passTo 7 = .ok (.aload_n 0, 1) := by decide +kernel
theorem dLt_passTo_8 : decode cLt_passTo 8 = .ok (.getfield 21, 3) := by decide +kernel
theorem dLt_passTo_11 : decode cLt_passTo 11 = .ok (.iconst (-1), 1) := by decide +kernel
theorem dLt_passTo_12 : decode cLt_passTo 12 = .ok (.if_icmp .eq 5, 3) := by decide +kernel
theorem dLt_passTo_15 : decode cLt_passTo 15 = .ok (.iconst 0, 1) := by decide +kernel
theorem dLt_passTo_16 : decode cLt_passTo 16 = .ok (.ireturn, 1) := by decide +kernel
theorem dLt_passTo_17 : decode cLt_passTo 17 = .ok (.aload_n 0, 1) := by decide +kernel
theorem dLt_passTo_18 : decode cLt_passTo 18 = .ok (.iload_n 1, 1) := by decide +kernel
theorem dLt_passTo_19 : decode cLt_passTo 19 = .ok (.putfield 21, 3) := by decide +kernel
theorem dLt_passTo_22 : decode cLt_passTo 22 = .ok (.aload_n 0, 1) := by decide +kernel
theorem dLt_passTo_23 : decode cLt_passTo 23 = .ok (.getfield 9, 3) := by decide +kernel
theorem dLt_passTo_26 : decode cLt_passTo 26 = .ok (.ireturn, 1) := by decide +kernel
theorem dRw_propagate_0 : decode cRw_propagate 0 = .ok (.iload_n 1, 1) := by decide +kernel
theorem dRw_propagate_1 : decode cRw_propagate 1 = .ok (.bipush 100, 2) := by decide +kernel
theorem dRw_propagate_3 : decode cRw_propagate 3 = .ok (.invokestatic 62, 3) := by decide +kernel
theorem dRw_propagate_6 : decode cRw_propagate 6 = .ok (.ifCond .ne 6, 3) := by decide +kernel
theorem dRw_propagate_9 : decode cRw_propagate 9 = .ok (.bipush (-4), 2) := by decide +kernel
theorem dRw_propagate_11 : decode cRw_propagate 11 = .ok (.ireturn, 1) := by decide +kernel
theorem dRw_propagate_12 : decode cRw_propagate 12 = .ok (.aload_n 0, 1) := by decide +kernel
theorem dRw_propagate_13 : decode cRw_propagate 13 = .ok (.getfield 47, 3) := by decide +kernel
theorem dRw_propagate_16 : decode cRw_propagate 16 = .ok (.iload_n 1, 1) := by decide +kernel
theorem dRw_propagate_17 : decode cRw_propagate 17 = .ok (.invokevirtual 109, 3) := by decide +kernel
theorem dRw_propagate_20 : decode cRw_propagate 20 = .ok (.ireturn, 1) := by decide +kernel
theorem dLt_tell_0 : decode cLt_tell 0 = .ok (.aload_n 0, 1) := by decide +kernel
theorem dLt_tell_1 : decode cLt_tell 1 = .ok (.getfield 9, 3) := by decide +kernel
theorem dLt_tell_4 : decode cLt_tell 4 = .ok (.ifCond .ne 5, 3) := by decide +kernel
theorem dLt_tell_7 : decode cLt_tell 7 = .ok (.iconst (-1), 1) := by decide +kernel
theorem dLt_tell_8 : decode cLt_tell 8 = .ok (.ireturn, 1) := by decide +kernel
theorem dLt_tell_9 : decode cLt_tell 9 = .ok (.iload_n 1, 1) := by decide +kernel
theorem dLt_tell_10 : decode cLt_tell 10 = .ok (.tableswitch 50 0 3 #[30, 35, 40, 45], 30) := by decide +kernel
theorem dLt_tell_40 : decode cLt_tell 40 = .ok (.aload_n 0, 1) := by decide +kernel
theorem dLt_tell_41 : decode cLt_tell 41 = .ok (.getfield 9, 3) := by decide +kernel
theorem dLt_tell_44 : decode cLt_tell 44 = .ok (.ireturn, 1) := by decide +kernel
theorem dLt_tell_45 : decode cLt_tell 45 = .ok (.aload_n 0, 1) := by decide +kernel
theorem dLt_tell_46 : decode cLt_tell 46 = .ok (.getfield 15, 3) := by decide +kernel
theorem dLt_tell_49 : decode cLt_tell 49 = .ok (.ireturn, 1) := by decide +kernel
theorem dLt_tell_50 : decode cLt_tell 50 = .ok (.aload_n 0, 1) := by decide +kernel
theorem dLt_tell_51 : decode cLt_tell 51 = .ok (.getfield 18, 3) := by decide +kernel
theorem dLt_tell_54 : decode cLt_tell 54 = .ok (.ireturn, 1) := by decide +kernel
theorem dLt_tell_55 : decode cLt_tell 55 = .ok (.aload_n 0, 1) := by decide +kernel
theorem dLt_tell_56 : decode cLt_tell 56 = .ok (.getfield 21, 3) := by decide +kernel
theorem dLt_tell_59 : decode cLt_tell 59 = .ok (.ireturn, 1) := by decide +kernel
theorem dLt_tell_60 : decode cLt_tell 60 = .ok (.iconst (-1), 1) := by decide +kernel
theorem dLt_tell_61 : decode cLt_tell 61 = .ok (.ireturn, 1) := by decide +kernel
theorem dRw_last_0 : decode cRw_last 0 = .ok (.aload_n 0, 1) := by decide +kernel
theorem dRw_last_1 : decode cRw_last 1 = .ok (.getfield 47, 3) := by decide +kernel
theorem dRw_last_4 : decode cRw_last 4 = .ok (.iload_n 1, 1) := by decide +kernel
theorem dRw_last_5 : decode cRw_last 5 = .ok (.invokevirtual 112, 3) := by decide +kernel
theorem dRw_last_8 : decode cRw_last 8 = .ok (.ireturn, 1) := by decide +kernel
theorem dOm_of_0 : decode cOm_of 0 = .ok (.iload_n 1, 1) := by decide +kernel
theorem dOm_of_1 : decode cOm_of 1 = .ok (.aload_n 0, 1) := by decide +kernel
theorem dOm_of_2 : decode cOm_of 2 = .ok (.getfield 9, 3) := by decide +kernel
