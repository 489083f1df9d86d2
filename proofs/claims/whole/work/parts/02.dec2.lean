theorem dOm_of_5 : decode cOm_of 5 = .ok (.arraylength, 1) := by decide +kernel
theorem dOm_of_6 : decode cOm_of 6 = .ok (.invokestatic 15, 3) := by decide +kernel
theorem dOm_of_9 : decode cOm_of 9 = .ok (.ifCond .eq 12, 3) := by decide +kernel
theorem dOm_of_12 : decode cOm_of 12 = .ok (.aload_n 0, 1) := by decide +kernel
theorem dOm_of_13 : decode cOm_of 13 = .ok (.getfield 9, 3) := by decide +kernel
theorem dOm_of_16 : decode cOm_of 16 = .ok (.iload_n 1, 1) := by decide +kernel
theorem dOm_of_17 : decode cOm_of 17 = .ok (.iaload, 1) := by decide +kernel
theorem dOm_of_18 : decode cOm_of 18 = .ok (.goto 4, 3) := by decide +kernel
theorem dOm_of_21 : decode cOm_of 21 = .ok (.iconst (-1), 1) := by decide +kernel
theorem dOm_of_22 : decode cOm_of 22 = .ok (.ireturn, 1) := by decide +kernel
theorem dRw_takerOfFile_0 : decode cRw_takerOfFile 0 = .ok (.aload_n 0, 1) := by decide +kernel
theorem dRw_takerOfFile_1 : decode cRw_takerOfFile 1 = .ok (.getfield 26, 3) := by decide +kernel
theorem dRw_takerOfFile_4 : decode cRw_takerOfFile 4 = .ok (.iconst 1, 1) := by decide +kernel
theorem dRw_takerOfFile_5 : decode cRw_takerOfFile 5 = .ok (.iload_n 1, 1) := by decide +kernel
theorem dRw_takerOfFile_6 : decode cRw_takerOfFile 6 = .ok (.invokevirtual 125, 3) := by decide +kernel
theorem dRw_takerOfFile_9 : decode cRw_takerOfFile 9 = .ok (.istore_n 2, 1) := by decide +kernel
theorem dRw_takerOfFile_10 : decode cRw_takerOfFile 10 = .ok (.iload_n 2, 1) := by decide +kernel
theorem dRw_takerOfFile_11 : decode cRw_takerOfFile 11 = .ok (.ifCond .eq 7, 3) := by decide +kernel
theorem dRw_takerOfFile_14 : decode cRw_takerOfFile 14 = .ok (.iload_n 2, 1) := by decide +kernel
theorem dRw_takerOfFile_15 : decode cRw_takerOfFile 15 = .ok (.goto 19, 3) := by decide +kernel
theorem dRw_takerOfFile_18 : decode cRw_takerOfFile 18 = .ok (.aload_n 0, 1) := by decide +kernel
theorem dRw_takerOfFile_19 : decode cRw_takerOfFile 19 = .ok (.getfield 26, 3) := by decide +kernel
theorem dRw_takerOfFile_22 : decode cRw_takerOfFile 22 = .ok (.iconst 2, 1) := by decide +kernel
theorem dRw_takerOfFile_23 : decode cRw_takerOfFile 23 = .ok (.aload_n 0, 1) := by decide +kernel
theorem dRw_takerOfFile_24 : decode cRw_takerOfFile 24 = .ok (.getfield 33, 3) := by decide +kernel
theorem dRw_takerOfFile_27 : decode cRw_takerOfFile 27 = .ok (.iload_n 1, 1) := by decide +kernel
theorem dRw_takerOfFile_28 : decode cRw_takerOfFile 28 = .ok (.invokevirtual 131, 3) := by decide +kernel
theorem dRw_takerOfFile_31 : decode cRw_takerOfFile 31 = .ok (.invokevirtual 125, 3) := by decide +kernel
theorem dRw_takerOfFile_34 : decode cRw_takerOfFile 34 = .ok (.ireturn, 1) := by decide +kernel
theorem dRw_status_0 : decode cRw_status 0 = .ok (.iload_n 1, 1) := by decide +kernel
theorem dRw_status_1 : decode cRw_status 1 = .ok (.bipush 20, 2) := by decide +kernel
theorem dRw_status_3 : decode cRw_status 3 = .ok (.invokestatic 62, 3) := by decide +kernel
theorem dRw_status_6 : decode cRw_status 6 = .ok (.ifCond .ne 6, 3) := by decide +kernel
theorem dRw_status_9 : decode cRw_status 9 = .ok (.bipush (-2), 2) := by decide +kernel
theorem dRw_status_11 : decode cRw_status 11 = .ok (.ireturn, 1) := by decide +kernel
theorem dRw_status_12 : decode cRw_status 12 = .ok (.iload_n 2, 1) := by decide +kernel
theorem dRw_status_13 : decode cRw_status 13 = .ok (.bipush 100, 2) := by decide +kernel
theorem dRw_status_15 : decode cRw_status 15 = .ok (.invokestatic 62, 3) := by decide +kernel
theorem dRw_status_18 : decode cRw_status 18 = .ok (.ifCond .ne 6, 3) := by decide +kernel
theorem dRw_status_21 : decode cRw_status 21 = .ok (.bipush (-4), 2) := by decide +kernel
theorem dRw_status_23 : decode cRw_status 23 = .ok (.ireturn, 1) := by decide +kernel
theorem dRw_status_24 : decode cRw_status 24 = .ok (.aload_n 0, 1) := by decide +kernel
theorem dRw_status_25 : decode cRw_status 25 = .ok (.getfield 58, 3) := by decide +kernel
theorem dRw_status_28 : decode cRw_status 28 = .ok (.ifCond .ne 9, 3) := by decide +kernel
theorem dRw_status_31 : decode cRw_status 31 = .ok (.iload_n 2, 1) := by decide +kernel
theorem dRw_status_32 : decode cRw_status 32 = .ok (.bipush 10, 2) := by decide +kernel
theorem dRw_status_34 : decode cRw_status 34 = .ok (.if_icmp .ge 5, 3) := by decide +kernel
theorem dRw_status_37 : decode cRw_status 37 = .ok (.iconst (-1), 1) := by decide +kernel
theorem dRw_status_38 : decode cRw_status 38 = .ok (.ireturn, 1) := by decide +kernel
theorem dRw_status_39 : decode cRw_status 39 = .ok (.aload_n 0, 1) := by decide +kernel
theorem dRw_status_40 : decode cRw_status 40 = .ok (.iload_n 2, 1) := by decide +kernel
theorem dRw_status_41 : decode cRw_status 41 = .ok (.ineg, 1) := by decide +kernel
theorem dRw_status_42 : decode cRw_status 42 = .ok (.iconst 0, 1) := by decide +kernel
theorem dRw_status_43 : decode cRw_status 43 = .ok (.aload_n 0, 1) := by decide +kernel
theorem dRw_status_44 : decode cRw_status 44 = .ok (.iload_n 1, 1) := by decide +kernel
theorem dRw_status_45 : decode cRw_status 45 = .ok (.invokevirtual 115, 3) := by decide +kernel
theorem dRw_status_48 : decode cRw_status 48 = .ok (.iconst 0, 1) := by decide +kernel
theorem dRw_status_49 : decode cRw_status 49 = .ok (.invokevirtual 92, 3) := by decide +kernel
theorem dRw_status_52 : decode cRw_status 52 = .ok (.ireturn, 1) := by decide +kernel
theorem dOm_put_0 : decode cOm_put 0 = .ok (.iload_n 1, 1) := by decide +kernel
theorem dOm_put_1 : decode cOm_put 1 = .ok (.aload_n 0, 1) := by decide +kernel
theorem dOm_put_2 : decode cOm_put 2 = .ok (.getfield 9, 3) := by decide +kernel
theorem dOm_put_5 : decode cOm_put 5 = .ok (.arraylength, 1) := by decide +kernel
theorem dOm_put_6 : decode cOm_put 6 = .ok (.invokestatic 15, 3) := by decide +kernel
theorem dOm_put_9 : decode cOm_put 9 = .ok (.ifCond .eq 10, 3) := by decide +kernel
theorem dOm_put_12 : decode cOm_put 12 = .ok (.aload_n 0, 1) := by decide +kernel
theorem dOm_put_13 : decode cOm_put 13 = .ok (.getfield 9, 3) := by decide +kernel
theorem dOm_put_16 : decode cOm_put 16 = .ok (.iload_n 1, 1) := by decide +kernel
theorem dOm_put_17 : decode cOm_put 17 = .ok (.iload_n 2, 1) := by decide +kernel
theorem dOm_put_18 : decode cOm_put 18 = .ok (.iastore, 1) := by decide +kernel
theorem dOm_put_19 : decode cOm_put 19 = .ok (.return_, 1) := by decide +kernel
theorem dRw_mode_0 : decode cRw_mode 0 = .ok (.iload_n 1, 1) := by decide +kernel
theorem dRw_mode_1 : decode cRw_mode 1 = .ok (.bipush 20, 2) := by decide +kernel
theorem dRw_mode_3 : decode cRw_mode 3 = .ok (.invokestatic 62, 3) := by decide +kernel
theorem dRw_mode_6 : decode cRw_mode 6 = .ok (.ifCond .ne 6, 3) := by decide +kernel
theorem dRw_mode_9 : decode cRw_mode 9 = .ok (.bipush (-2), 2) := by decide +kernel
theorem dRw_mode_11 : decode cRw_mode 11 = .ok (.ireturn, 1) := by decide +kernel
theorem dRw_mode_12 : decode cRw_mode 12 = .ok (.iload_n 2, 1) := by decide +kernel
theorem dRw_mode_13 : decode cRw_mode 13 = .ok (.iconst (-1), 1) := by decide +kernel
theorem dRw_mode_14 : decode cRw_mode 14 = .ok (.if_icmp .eq 14, 3) := by decide +kernel
theorem dRw_mode_17 : decode cRw_mode 17 = .ok (.iload_n 2, 1) := by decide +kernel
theorem dRw_mode_18 : decode cRw_mode 18 = .ok (.iconst 4, 1) := by decide +kernel
theorem dRw_mode_19 : decode cRw_mode 19 = .ok (.invokestatic 62, 3) := by decide +kernel
theorem dRw_mode_22 : decode cRw_mode 22 = .ok (.ifCond .ne 6, 3) := by decide +kernel
theorem dRw_mode_25 : decode cRw_mode 25 = .ok (.bipush (-4), 2) := by decide +kernel
theorem dRw_mode_27 : decode cRw_mode 27 = .ok (.ireturn, 1) := by decide +kernel
theorem dRw_mode_28 : decode cRw_mode 28 = .ok (.aload_n 0, 1) := by decide +kernel
theorem dRw_mode_29 : decode cRw_mode 29 = .ok (.getfield 33, 3) := by decide +kernel
theorem dRw_mode_32 : decode cRw_mode 32 = .ok (.iload_n 1, 1) := by decide +kernel
theorem dRw_mode_33 : decode cRw_mode 33 = .ok (.iload_n 2, 1) := by decide +kernel
theorem dRw_mode_34 : decode cRw_mode 34 = .ok (.invokevirtual 118, 3) := by decide +kernel
theorem dRw_mode_37 : decode cRw_mode 37 = .ok (.iconst 1, 1) := by decide +kernel
theorem dRw_mode_38 : decode cRw_mode 38 = .ok (.ireturn, 1) := by decide +kernel
theorem dRw_ends_0 : decode cRw_ends 0 = .ok (.aload_n 0, 1) := by decide +kernel
theorem dRw_ends_1 : decode cRw_ends 1 = .ok (.getfield 58, 3) := by decide +kernel
theorem dRw_ends_4 : decode cRw_ends 4 = .ok (.ireturn, 1) := by decide +kernel
theorem dTr_size_0 : decode cTr_size 0 = .ok (.aload_n 0, 1) := by decide +kernel
theorem dTr_size_1 : decode cTr_size 1 = .ok (.getfield 21, 3) := by decide +kernel
theorem dTr_size_4 : decode cTr_size 4 = .ok (.ireturn, 1) := by decide +kernel
theorem dCk_size_0 : decode cCk_size 0 = .ok (.aload_n 0, 1) := by decide +kernel
theorem dCk_size_1 : decode cCk_size 1 = .ok (.getfield 22, 3) := by decide +kernel
theorem dCk_size_4 : decode cCk_size 4 = .ok (.ireturn, 1) := by decide +kernel
theorem dUs_size_0 : decode cUs_size 0 = .ok (.aload_n 0, 1) := by decide +kernel
theorem dUs_size_1 : decode cUs_size 1 = .ok (.getfield 18, 3) := by decide +kernel
theorem dUs_size_4 : decode cUs_size 4 = .ok (.ireturn, 1) := by decide +kernel
theorem dRw_count_0 : decode cRw_count 0 = .ok (.iload_n 1, 1) := by decide +kernel
theorem dRw_count_1 : decode cRw_count 1 = .ok (.tableswitch 81 0 5 #[39, 47, 55, 63, 71, 76], 39) := by decide +kernel
theorem dRw_count_40 : decode cRw_count 40 = .ok (.aload_n 0, 1) := by decide +kernel
theorem dRw_count_41 : decode cRw_count 41 = .ok (.getfield 10, 3) := by decide +kernel
theorem dRw_count_44 : decode cRw_count 44 = .ok (.invokevirtual 122, 3) := by decide +kernel
theorem dRw_count_47 : decode cRw_count 47 = .ok (.ireturn, 1) := by decide +kernel
theorem dRw_count_48 : decode cRw_count 48 = .ok (.aload_n 0, 1) := by decide +kernel
theorem dRw_count_49 : decode cRw_count 49 = .ok (.getfield 19, 3) := by decide +kernel
theorem dRw_count_52 : decode cRw_count 52 = .ok (.invokevirtual 123, 3) := by decide +kernel
theorem dRw_count_55 : decode cRw_count 55 = .ok (.ireturn, 1) := by decide +kernel
theorem dRw_count_56 : decode cRw_count 56 = .ok (.aload_n 0, 1) := by decide +kernel
theorem dRw_count_57 : decode cRw_count 57 = .ok (.getfield 26, 3) := by decide +kernel
theorem dRw_count_60 : decode cRw_count 60 = .ok (.invokevirtual 124, 3) := by decide +kernel
theorem dRw_count_63 : decode cRw_count 63 = .ok (.ireturn, 1) := by decide +kernel
theorem dRw_count_64 : decode cRw_count 64 = .ok (.aload_n 0, 1) := by decide +kernel
theorem dRw_count_65 : decode cRw_count 65 = .ok (.getfield 40, 3) := by decide +kernel
theorem dRw_count_68 : decode cRw_count 68 = .ok (.invokevirtual 99, 3) := by decide +kernel
theorem dRw_count_71 : decode cRw_count 71 = .ok (.ireturn, 1) := by decide +kernel
theorem dRw_count_72 : decode cRw_count 72 = .ok (.aload_n 0, 1) := by decide +kernel
theorem dRw_count_73 : decode cRw_count 73 = .ok (.getfield 51, 3) := by decide +kernel
theorem dRw_count_76 : decode cRw_count 76 = .ok (.ireturn, 1) := by decide +kernel
theorem dRw_count_77 : decode cRw_count 77 = .ok (.aload_n 0, 1) := by decide +kernel
theorem dRw_count_78 : decode cRw_count 78 = .ok (.getfield 55, 3) := by decide +kernel
theorem dRw_count_81 : decode cRw_count 81 = .ok (.ireturn, 1) := by decide +kernel
theorem dRw_count_82 : decode cRw_count 82 = .ok (.iconst (-1), 1) := by decide +kernel
theorem dRw_count_83 : decode cRw_count 83 = .ok (.ireturn, 1) := by decide +kernel
theorem dMd_init_0 : decode cMd_init 0 = .ok (.aload_n 0, 1) := by decide +kernel
theorem dMd_init_1 : decode cMd_init 1 = .ok (.invokespecial 1, 3) := by decide +kernel
theorem dMd_init_4 : decode cMd_init 4 = .ok (.aload_n 0, 1) := by decide +kernel
theorem dMd_init_5 : decode cMd_init 5 = .ok (.bipush 61, 2) := by decide +kernel
theorem dMd_init_7 : decode cMd_init 7 = .ok (.newarray .int, 2) := by decide +kernel
theorem dMd_init_9 : decode cMd_init 9 = .ok (.putfield 7, 3) := by decide +kernel
theorem dMd_init_12 : decode cMd_init 12 = .ok (.aload_n 0, 1) := by decide +kernel
theorem dMd_init_13 : decode cMd_init 13 = .ok (.bipush 61, 2) := by decide +kernel
theorem dMd_init_15 : decode cMd_init 15 = .ok (.newarray .int, 2) := by decide +kernel
theorem dMd_init_17 : decode cMd_init 17 = .ok (.putfield 13, 3) := by decide +kernel
theorem dMd_init_20 : decode cMd_init 20 = .ok (.aload_n 0, 1) := by decide +kernel
theorem dMd_init_21 : decode cMd_init 21 = .ok (.bipush 61, 2) := by decide +kernel
theorem dMd_init_23 : decode cMd_init 23 = .ok (.newarray .int, 2) := by decide +kernel
theorem dMd_init_25 : decode cMd_init 25 = .ok (.putfield 16, 3) := by decide +kernel
theorem dMd_init_28 : decode cMd_init 28 = .ok (.aload_n 0, 1) := by decide +kernel
theorem dMd_init_29 : decode cMd_init 29 = .ok (.bipush 100, 2) := by decide +kernel
theorem dMd_init_31 : decode cMd_init 31 = .ok (.newarray .int, 2) := by decide +kernel
theorem dMd_init_33 : decode cMd_init 33 = .ok (.putfield 19, 3) := by decide +kernel
theorem dMd_init_36 : decode cMd_init 36 = .ok (.aload_n 0, 1) := by decide +kernel
theorem dMd_init_37 : decode cMd_init 37 = .ok (.bipush 100, 2) := by decide +kernel
theorem dMd_init_39 : decode cMd_init 39 = .ok (.newarray .int, 2) := by decide +kernel
theorem dMd_init_41 : decode cMd_init 41 = .ok (.putfield 22, 3) := by decide +kernel
theorem dMd_init_44 : decode cMd_init 44 = .ok (.aload_n 0, 1) := by decide +kernel
theorem dMd_init_45 : decode cMd_init 45 = .ok (.bipush 100, 2) := by decide +kernel
theorem dMd_init_47 : decode cMd_init 47 = .ok (.newarray .boolean, 2) := by decide +kernel
theorem dMd_init_49 : decode cMd_init 49 = .ok (.putfield 25, 3) := by decide +kernel
theorem dMd_init_52 : decode cMd_init 52 = .ok (.aload_n 0, 1) := by decide +kernel
theorem dMd_init_53 : decode cMd_init 53 = .ok (.bipush 31, 2) := by decide +kernel
theorem dMd_init_55 : decode cMd_init 55 = .ok (.newarray .int, 2) := by decide +kernel
theorem dMd_init_57 : decode cMd_init 57 = .ok (.putfield 29, 3) := by decide +kernel
theorem dMd_init_60 : decode cMd_init 60 = .ok (.aload_n 0, 1) := by decide +kernel
theorem dMd_init_61 : decode cMd_init 61 = .ok (.bipush 31, 2) := by decide +kernel
theorem dMd_init_63 : decode cMd_init 63 = .ok (.newarray .int, 2) := by decide +kernel
theorem dMd_init_65 : decode cMd_init 65 = .ok (.putfield 32, 3) := by decide +kernel
theorem dMd_init_68 : decode cMd_init 68 = .ok (.aload_n 0, 1) := by decide +kernel
theorem dMd_init_69 : decode cMd_init 69 = .ok (.bipush 20, 2) := by decide +kernel
theorem dMd_init_71 : decode cMd_init 71 = .ok (.newarray .int, 2) := by decide +kernel
theorem dMd_init_73 : decode cMd_init 73 = .ok (.putfield 35, 3) := by decide +kernel
theorem dMd_init_76 : decode cMd_init 76 = .ok (.aload_n 0, 1) := by decide +kernel
theorem dMd_init_77 : decode cMd_init 77 = .ok (.bipush 10, 2) := by decide +kernel
theorem dMd_init_79 : decode cMd_init 79 = .ok (.newarray .int, 2) := by decide +kernel
theorem dMd_init_81 : decode cMd_init 81 = .ok (.putfield 38, 3) := by decide +kernel
theorem dMd_init_84 : decode cMd_init 84 = .ok (.aload_n 0, 1) := by decide +kernel
theorem dMd_init_85 : decode cMd_init 85 = .ok (.bipush 10, 2) := by decide +kernel
theorem dMd_init_87 : decode cMd_init 87 = .ok (.newarray .int, 2) := by decide +kernel
theorem dMd_init_89 : decode cMd_init 89 = .ok (.putfield 41, 3) := by decide +kernel
theorem dMd_init_92 : decode cMd_init 92 = .ok (.iconst 0, 1) := by decide +kernel
theorem dMd_init_93 : decode cMd_init 93 = .ok (.istore_n 1, 1) := by decide +kernel
theorem dMd_init_94 : decode cMd_init 94 = .ok (.iload_n 1, 1) := by decide +kernel
theorem dMd_init_95 : decode cMd_init 95 = .ok (.bipush 20, 2) := by decide +kernel
theorem dMd_init_97 : decode cMd_init 97 = .ok (.if_icmp .ge 16, 3) := by decide +kernel
theorem dMd_init_100 : decode cMd_init 100 = .ok (.aload_n 0, 1) := by decide +kernel
theorem dMd_init_101 : decode cMd_init 101 = .ok (.getfield 35, 3) := by decide +kernel
theorem dMd_init_104 : decode cMd_init 104 = .ok (.iload_n 1, 1) := by decide +kernel
theorem dMd_init_105 : decode cMd_init 105 = .ok (.iconst (-1), 1) := by decide +kernel
theorem dMd_init_106 : decode cMd_init 106 = .ok (.iastore, 1) := by decide +kernel
theorem dMd_init_107 : decode cMd_init 107 = .ok (.iinc 1 1, 3) := by decide +kernel
theorem dMd_init_110 : decode cMd_init 110 = .ok (.goto (-16), 3) := by decide +kernel
theorem dMd_init_113 : decode cMd_init 113 = .ok (.return_, 1) := by decide +kernel
theorem dMd_exception_0 : decode cMd_exception 0 = .ok (.aload_n 0, 1) := by decide +kernel
theorem dMd_exception_1 : decode cMd_exception 1 = .ok (.iconst 0, 1) := by decide +kernel
theorem dMd_exception_2 : decode cMd_exception 2 = .ok (.putfield 44, 3) := by decide +kernel
theorem dMd_exception_5 : decode cMd_exception 5 = .ok (.iload_n 1, 1) := by decide +kernel
theorem dMd_exception_6 : decode cMd_exception 6 = .ok (.iconst 1, 1) := by decide +kernel
theorem dMd_exception_7 : decode cMd_exception 7 = .ok (.if_icmp .lt 18, 3) := by decide +kernel
theorem dMd_exception_10 : decode cMd_exception 10 = .ok (.iload_n 1, 1) := by decide +kernel
theorem dMd_exception_11 : decode cMd_exception 11 = .ok (.iconst 3, 1) := by decide +kernel
theorem dMd_exception_12 : decode cMd_exception 12 = .ok (.if_icmp .gt 13, 3) := by decide +kernel
theorem dMd_exception_15 : decode cMd_exception 15 = .ok (.iload_n 2, 1) := by decide +kernel
theorem dMd_exception_16 : decode cMd_exception 16 = .ok (.ifCond .lt 9, 3) := by decide +kernel
theorem dMd_exception_19 : decode cMd_exception 19 = .ok (.iload_n 2, 1) := by decide +kernel
theorem dMd_exception_20 : decode cMd_exception 20 = .ok (.bipush 99, 2) := by decide +kernel
theorem dMd_exception_22 : decode cMd_exception 22 = .ok (.if_icmp .le 6, 3) := by decide +kernel
theorem dMd_exception_25 : decode cMd_exception 25 = .ok (.bipush (-4), 2) := by decide +kernel
theorem dMd_exception_27 : decode cMd_exception 27 = .ok (.ireturn, 1) := by decide +kernel
theorem dMd_exception_28 : decode cMd_exception 28 = .ok (.iconst 0, 1) := by decide +kernel
theorem dMd_exception_29 : decode cMd_exception 29 = .ok (.istore_n 3, 1) := by decide +kernel
theorem dMd_exception_30 : decode cMd_exception 30 = .ok (.iconst 1, 1) := by decide +kernel
theorem dMd_exception_31 : decode cMd_exception 31 = .ok (.istore 4, 2) := by decide +kernel
theorem dMd_exception_33 : decode cMd_exception 33 = .ok (.iload 4, 2) := by decide +kernel
theorem dMd_exception_35 : decode cMd_exception 35 = .ok (.aload_n 0, 1) := by decide +kernel
theorem dMd_exception_36 : decode cMd_exception 36 = .ok (.getfield 48, 3) := by decide +kernel
theorem dMd_exception_39 : decode cMd_exception 39 = .ok (.if_icmp .gt 29, 3) := by decide +kernel
theorem dMd_exception_42 : decode cMd_exception 42 = .ok (.aload_n 0, 1) := by decide +kernel
theorem dMd_exception_43 : decode cMd_exception 43 = .ok (.getfield 7, 3) := by decide +kernel
theorem dMd_exception_46 : decode cMd_exception 46 = .ok (.iload 4, 2) := by decide +kernel
theorem dMd_exception_48 : decode cMd_exception 48 = .ok (.iaload, 1) := by decide +kernel
theorem dMd_exception_49 : decode cMd_exception 49 = .ok (.iload_n 1, 1) := by decide +kernel
theorem dMd_exception_50 : decode cMd_exception 50 = .ok (.iconst 1, 1) := by decide +kernel
theorem dMd_exception_51 : decode cMd_exception 51 = .ok (.isub, 1) := by decide +kernel
theorem dMd_exception_52 : decode cMd_exception 52 = .ok (.if_icmp .ne 8, 3) := by decide +kernel
theorem dMd_exception_55 : decode cMd_exception 55 = .ok (.iload 4, 2) := by decide +kernel
theorem dMd_exception_57 : decode cMd_exception 57 = .ok (.goto 4, 3) := by decide +kernel
theorem dMd_exception_60 : decode cMd_exception 60 = .ok (.iload_n 3, 1) := by decide +kernel
theorem dMd_exception_61 : decode cMd_exception 61 = .ok (.istore_n 3, 1) := by decide +kernel
theorem dMd_exception_62 : decode cMd_exception 62 = .ok (.iinc 4 1, 3) := by decide +kernel
theorem dMd_exception_65 : decode cMd_exception 65 = .ok (.goto (-32), 3) := by decide +kernel
theorem dMd_exception_68 : decode cMd_exception 68 = .ok (.iload_n 1, 1) := by decide +kernel
theorem dMd_exception_69 : decode cMd_exception 69 = .ok (.iconst 1, 1) := by decide +kernel
theorem dMd_exception_70 : decode cMd_exception 70 = .ok (.if_icmp .le 10, 3) := by decide +kernel
theorem dMd_exception_73 : decode cMd_exception 73 = .ok (.iload_n 3, 1) := by decide +kernel
theorem dMd_exception_74 : decode cMd_exception 74 = .ok (.ifCond .ne 6, 3) := by decide +kernel
theorem dMd_exception_77 : decode cMd_exception 77 = .ok (.bipush (-2), 2) := by decide +kernel
theorem dMd_exception_79 : decode cMd_exception 79 = .ok (.ireturn, 1) := by decide +kernel
theorem dMd_exception_80 : decode cMd_exception 80 = .ok (.aload_n 0, 1) := by decide +kernel
theorem dMd_exception_81 : decode cMd_exception 81 = .ok (.getfield 48, 3) := by decide +kernel
theorem dMd_exception_84 : decode cMd_exception 84 = .ok (.bipush 60, 2) := by decide +kernel
theorem dMd_exception_86 : decode cMd_exception 86 = .ok (.if_icmp .ne 5, 3) := by decide +kernel
theorem dMd_exception_89 : decode cMd_exception 89 = .ok (.iconst (-1), 1) := by decide +kernel
theorem dMd_exception_90 : decode cMd_exception 90 = .ok (.ireturn, 1) := by decide +kernel
theorem dMd_exception_91 : decode cMd_exception 91 = .ok (.aload_n 0, 1) := by decide +kernel
theorem dMd_exception_92 : decode cMd_exception 92 = .ok (.dup, 1) := by decide +kernel
theorem dMd_exception_93 : decode cMd_exception 93 = .ok (.getfield 48, 3) := by decide +kernel
theorem dMd_exception_96 : decode cMd_exception 96 = .ok (.iconst 1, 1) := by decide +kernel
theorem dMd_exception_97 : decode cMd_exception 97 = .ok (.iadd, 1) := by decide +kernel
theorem dMd_exception_98 : decode cMd_exception 98 = .ok (.putfield 48, 3) := by decide +kernel
theorem dMd_exception_101 : decode cMd_exception 101 = .ok (.aload_n 0, 1) := by decide +kernel
theorem dMd_exception_102 : decode cMd_exception 102 = .ok (.getfield 7, 3) := by decide +kernel
theorem dMd_exception_105 : decode cMd_exception 105 = .ok (.aload_n 0, 1) := by decide +kernel
theorem dMd_exception_106 : decode cMd_exception 106 = .ok (.getfield 48, 3) := by decide +kernel
theorem dMd_exception_109 : decode cMd_exception 109 = .ok (.iload_n 1, 1) := by decide +kernel
theorem dMd_exception_110 : decode cMd_exception 110 = .ok (.iastore, 1) := by decide +kernel
theorem dMd_exception_111 : decode cMd_exception 111 = .ok (.aload_n 0, 1) := by decide +kernel
theorem dMd_exception_112 : decode cMd_exception 112 = .ok (.getfield 13, 3) := by decide +kernel
theorem dMd_exception_115 : decode cMd_exception 115 = .ok (.aload_n 0, 1) := by decide +kernel
theorem dMd_exception_116 : decode cMd_exception 116 = .ok (.getfield 48, 3) := by decide +kernel
theorem dMd_exception_119 : decode cMd_exception 119 = .ok (.iload_n 2, 1) := by decide +kernel
theorem dMd_exception_120 : decode cMd_exception 120 = .ok (.iastore, 1) := by decide +kernel
theorem dMd_exception_121 : decode cMd_exception 121 = .ok (.aload_n 0, 1) := by decide +kernel
theorem dMd_exception_122 : decode cMd_exception 122 = .ok (.getfield 16, 3) := by decide +kernel
theorem dMd_exception_125 : decode cMd_exception 125 = .ok (.aload_n 0, 1) := by decide +kernel
theorem dMd_exception_126 : decode cMd_exception 126 = .ok (.getfield 48, 3) := by decide +kernel
theorem dMd_exception_129 : decode cMd_exception 129 = .ok (.iload_n 3, 1) := by decide +kernel
theorem dMd_exception_130 : decode cMd_exception 130 = .ok (.iastore, 1) := by decide +kernel
theorem dMd_exception_131 : decode cMd_exception 131 = .ok (.aload_n 0, 1) := by decide +kernel
theorem dMd_exception_132 : decode cMd_exception 132 = .ok (.getfield 48, 3) := by decide +kernel
theorem dMd_exception_135 : decode cMd_exception 135 = .ok (.ireturn, 1) := by decide +kernel
theorem dMd_isFile_0 : decode cMd_isFile 0 = .ok (.iload_n 0, 1) := by decide +kernel
theorem dMd_isFile_1 : decode cMd_isFile 1 = .ok (.ifCond .lt 13, 3) := by decide +kernel
theorem dMd_isFile_4 : decode cMd_isFile 4 = .ok (.iload_n 0, 1) := by decide +kernel
theorem dMd_isFile_5 : decode cMd_isFile 5 = .ok (.bipush 20, 2) := by decide +kernel
theorem dMd_isFile_7 : decode cMd_isFile 7 = .ok (.if_icmp .ge 7, 3) := by decide +kernel
theorem dMd_isFile_10 : decode cMd_isFile 10 = .ok (.iconst 1, 1) := by decide +kernel
theorem dMd_isFile_11 : decode cMd_isFile 11 = .ok (.goto 4, 3) := by decide +kernel
theorem dMd_isFile_14 : decode cMd_isFile 14 = .ok (.iconst 0, 1) := by decide +kernel
theorem dMd_isFile_15 : decode cMd_isFile 15 = .ok (.ireturn, 1) := by decide +kernel
theorem dMd_isException_0 : decode cMd_isException 0 = .ok (.iload_n 1, 1) := by decide +kernel
theorem dMd_isException_1 : decode cMd_isException 1 = .ok (.ifCond .le 15, 3) := by decide +kernel
theorem dMd_isException_4 : decode cMd_isException 4 = .ok (.iload_n 1, 1) := by decide +kernel
theorem dMd_isException_5 : decode cMd_isException 5 = .ok (.aload_n 0, 1) := by decide +kernel
theorem dMd_isException_6 : decode cMd_isException 6 = .ok (.getfield 48, 3) := by decide +kernel
theorem dMd_isException_9 : decode cMd_isException 9 = .ok (.if_icmp .gt 7, 3) := by decide +kernel
theorem dMd_isException_12 : decode cMd_isException 12 = .ok (.iconst 1, 1) := by decide +kernel
theorem dMd_isException_13 : decode cMd_isException 13 = .ok (.goto 4, 3) := by decide +kernel
theorem dMd_isException_16 : decode cMd_isException 16 = .ok (.iconst 0, 1) := by decide +kernel
theorem dMd_isException_17 : decode cMd_isException 17 = .ok (.ireturn, 1) := by decide +kernel
theorem dMd_use_0 : decode cMd_use 0 = .ok (.aload_n 0, 1) := by decide +kernel
theorem dMd_use_1 : decode cMd_use 1 = .ok (.iconst 0, 1) := by decide +kernel
theorem dMd_use_2 : decode cMd_use 2 = .ok (.putfield 44, 3) := by decide +kernel
theorem dMd_use_5 : decode cMd_use 5 = .ok (.iload_n 1, 1) := by decide +kernel
theorem dMd_use_6 : decode cMd_use 6 = .ok (.ifCond .lt 34, 3) := by decide +kernel
theorem dMd_use_9 : decode cMd_use 9 = .ok (.iload_n 1, 1) := by decide +kernel
theorem dMd_use_10 : decode cMd_use 10 = .ok (.iconst 2, 1) := by decide +kernel
theorem dMd_use_11 : decode cMd_use 11 = .ok (.if_icmp .gt 29, 3) := by decide +kernel
theorem dMd_use_14 : decode cMd_use 14 = .ok (.iload_n 1, 1) := by decide +kernel
theorem dMd_use_15 : decode cMd_use 15 = .ok (.iconst 1, 1) := by decide +kernel
theorem dMd_use_16 : decode cMd_use 16 = .ok (.if_icmp .ne 10, 3) := by decide +kernel
theorem dMd_use_19 : decode cMd_use 19 = .ok (.iload_n 2, 1) := by decide +kernel
theorem dMd_use_20 : decode cMd_use 20 = .ok (.invokestatic 51, 3) := by decide +kernel
theorem dMd_use_23 : decode cMd_use 23 = .ok (.ifCond .eq 17, 3) := by decide +kernel
theorem dMd_use_26 : decode cMd_use 26 = .ok (.iload_n 1, 1) := by decide +kernel
theorem dMd_use_27 : decode cMd_use 27 = .ok (.iconst 2, 1) := by decide +kernel
theorem dMd_use_28 : decode cMd_use 28 = .ok (.if_icmp .ne 15, 3) := by decide +kernel
theorem dMd_use_31 : decode cMd_use 31 = .ok (.iload_n 2, 1) := by decide +kernel
theorem dMd_use_32 : decode cMd_use 32 = .ok (.ifCond .lt 8, 3) := by decide +kernel
theorem dMd_use_35 : decode cMd_use 35 = .ok (.iload_n 2, 1) := by decide +kernel
theorem dMd_use_36 : decode cMd_use 36 = .ok (.iconst 3, 1) := by decide +kernel
theorem dMd_use_37 : decode cMd_use 37 = .ok (.if_icmp .le 6, 3) := by decide +kernel
theorem dMd_use_40 : decode cMd_use 40 = .ok (.bipush (-4), 2) := by decide +kernel
theorem dMd_use_42 : decode cMd_use 42 = .ok (.ireturn, 1) := by decide +kernel
theorem dMd_use_43 : decode cMd_use 43 = .ok (.iload_n 1, 1) := by decide +kernel
theorem dMd_use_44 : decode cMd_use 44 = .ok (.ifCond .ne 14, 3) := by decide +kernel
theorem dMd_use_47 : decode cMd_use 47 = .ok (.aload_n 0, 1) := by decide +kernel
theorem dMd_use_48 : decode cMd_use 48 = .ok (.iload_n 2, 1) := by decide +kernel
theorem dMd_use_49 : decode cMd_use 49 = .ok (.invokevirtual 55, 3) := by decide +kernel
theorem dMd_use_52 : decode cMd_use 52 = .ok (.ifCond .ne 6, 3) := by decide +kernel
theorem dMd_use_55 : decode cMd_use 55 = .ok (.bipush (-2), 2) := by decide +kernel
theorem dMd_use_57 : decode cMd_use 57 = .ok (.ireturn, 1) := by decide +kernel
theorem dMd_use_58 : decode cMd_use 58 = .ok (.aload_n 0, 1) := by decide +kernel
theorem dMd_use_59 : decode cMd_use 59 = .ok (.getfield 58, 3) := by decide +kernel
theorem dMd_use_62 : decode cMd_use 62 = .ok (.bipush 30, 2) := by decide +kernel
theorem dMd_use_64 : decode cMd_use 64 = .ok (.if_icmp .ne 5, 3) := by decide +kernel
theorem dMd_use_67 : decode cMd_use 67 = .ok (.iconst (-1), 1) := by decide +kernel
theorem dMd_use_68 : decode cMd_use 68 = .ok (.ireturn, 1) := by decide +kernel
theorem dMd_use_69 : decode cMd_use 69 = .ok (.aload_n 0, 1) := by decide +kernel
theorem dMd_use_70 : decode cMd_use 70 = .ok (.dup, 1) := by decide +kernel
theorem dMd_use_71 : decode cMd_use 71 = .ok (.getfield 58, 3) := by decide +kernel
theorem dMd_use_74 : decode cMd_use 74 = .ok (.iconst 1, 1) := by decide +kernel
theorem dMd_use_75 : decode cMd_use 75 = .ok (.iadd, 1) := by decide +kernel
theorem dMd_use_76 : decode cMd_use 76 = .ok (.putfield 58, 3) := by decide +kernel
theorem dMd_use_79 : decode cMd_use 79 = .ok (.aload_n 0, 1) := by decide +kernel
theorem dMd_use_80 : decode cMd_use 80 = .ok (.getfield 29, 3) := by decide +kernel
theorem dMd_use_83 : decode cMd_use 83 = .ok (.aload_n 0, 1) := by decide +kernel
theorem dMd_use_84 : decode cMd_use 84 = .ok (.getfield 58, 3) := by decide +kernel
theorem dMd_use_87 : decode cMd_use 87 = .ok (.iload_n 1, 1) := by decide +kernel
theorem dMd_use_88 : decode cMd_use 88 = .ok (.iastore, 1) := by decide +kernel
theorem dMd_use_89 : decode cMd_use 89 = .ok (.aload_n 0, 1) := by decide +kernel
theorem dMd_use_90 : decode cMd_use 90 = .ok (.getfield 32, 3) := by decide +kernel
theorem dMd_use_93 : decode cMd_use 93 = .ok (.aload_n 0, 1) := by decide +kernel
theorem dMd_use_94 : decode cMd_use 94 = .ok (.getfield 58, 3) := by decide +kernel
theorem dMd_use_97 : decode cMd_use 97 = .ok (.iload_n 2, 1) := by decide +kernel
theorem dMd_use_98 : decode cMd_use 98 = .ok (.iastore, 1) := by decide +kernel
theorem dMd_use_99 : decode cMd_use 99 = .ok (.aload_n 0, 1) := by decide +kernel
theorem dMd_use_100 : decode cMd_use 100 = .ok (.getfield 58, 3) := by decide +kernel
theorem dMd_use_103 : decode cMd_use 103 = .ok (.ireturn, 1) := by decide +kernel
theorem dMd_check_0 : decode cMd_check 0 = .ok (.aload_n 0, 1) := by decide +kernel
theorem dMd_check_1 : decode cMd_check 1 = .ok (.iconst 0, 1) := by decide +kernel
theorem dMd_check_2 : decode cMd_check 2 = .ok (.putfield 44, 3) := by decide +kernel
theorem dMd_check_5 : decode cMd_check 5 = .ok (.aload_n 0, 1) := by decide +kernel
theorem dMd_check_6 : decode cMd_check 6 = .ok (.iload_n 1, 1) := by decide +kernel
theorem dMd_check_7 : decode cMd_check 7 = .ok (.invokevirtual 55, 3) := by decide +kernel
theorem dMd_check_10 : decode cMd_check 10 = .ok (.ifCond .ne 6, 3) := by decide +kernel
theorem dMd_check_13 : decode cMd_check 13 = .ok (.bipush (-2), 2) := by decide +kernel
theorem dMd_check_15 : decode cMd_check 15 = .ok (.ireturn, 1) := by decide +kernel
theorem dMd_check_16 : decode cMd_check 16 = .ok (.iload_n 2, 1) := by decide +kernel
theorem dMd_check_17 : decode cMd_check 17 = .ok (.ifCond .lt 10, 3) := by decide +kernel
theorem dMd_check_20 : decode cMd_check 20 = .ok (.iload_n 2, 1) := by decide +kernel
theorem dMd_check_21 : decode cMd_check 21 = .ok (.sipush 9999, 3) := by decide +kernel
theorem dMd_check_24 : decode cMd_check 24 = .ok (.if_icmp .le 6, 3) := by decide +kernel
theorem dMd_check_27 : decode cMd_check 27 = .ok (.bipush (-4), 2) := by decide +kernel
theorem dMd_check_29 : decode cMd_check 29 = .ok (.ireturn, 1) := by decide +kernel
theorem dMd_check_30 : decode cMd_check 30 = .ok (.aload_n 0, 1) := by decide +kernel
theorem dMd_check_31 : decode cMd_check 31 = .ok (.getfield 61, 3) := by decide +kernel
theorem dMd_check_34 : decode cMd_check 34 = .ok (.bipush 100, 2) := by decide +kernel
theorem dMd_check_36 : decode cMd_check 36 = .ok (.if_icmp .ne 5, 3) := by decide +kernel
theorem dMd_check_39 : decode cMd_check 39 = .ok (.iconst (-1), 1) := by decide +kernel
theorem dMd_check_40 : decode cMd_check 40 = .ok (.ireturn, 1) := by decide +kernel
theorem dMd_check_41 : decode cMd_check 41 = .ok (.aload_n 0, 1) := by decide +kernel
theorem dMd_check_42 : decode cMd_check 42 = .ok (.getfield 19, 3) := by decide +kernel
theorem dMd_check_45 : decode cMd_check 45 = .ok (.aload_n 0, 1) := by decide +kernel
theorem dMd_check_46 : decode cMd_check 46 = .ok (.getfield 61, 3) := by decide +kernel
theorem dMd_check_49 : decode cMd_check 49 = .ok (.iload_n 1, 1) := by decide +kernel
theorem dMd_check_50 : decode cMd_check 50 = .ok (.iastore, 1) := by decide +kernel
theorem dMd_check_51 : decode cMd_check 51 = .ok (.aload_n 0, 1) := by decide +kernel
theorem dMd_check_52 : decode cMd_check 52 = .ok (.getfield 22, 3) := by decide +kernel
theorem dMd_check_55 : decode cMd_check 55 = .ok (.aload_n 0, 1) := by decide +kernel
theorem dMd_check_56 : decode cMd_check 56 = .ok (.getfield 61, 3) := by decide +kernel
theorem dMd_check_59 : decode cMd_check 59 = .ok (.iload_n 2, 1) := by decide +kernel
theorem dMd_check_60 : decode cMd_check 60 = .ok (.iastore, 1) := by decide +kernel
theorem dMd_check_61 : decode cMd_check 61 = .ok (.aload_n 0, 1) := by decide +kernel
theorem dMd_check_62 : decode cMd_check 62 = .ok (.getfield 25, 3) := by decide +kernel
theorem dMd_check_65 : decode cMd_check 65 = .ok (.aload_n 0, 1) := by decide +kernel
theorem dMd_check_66 : decode cMd_check 66 = .ok (.getfield 61, 3) := by decide +kernel
theorem dMd_check_69 : decode cMd_check 69 = .ok (.iload_n 3, 1) := by decide +kernel
theorem dMd_check_70 : decode cMd_check 70 = .ok (.bastore, 1) := by decide +kernel
theorem dMd_check_71 : decode cMd_check 71 = .ok (.aload_n 0, 1) := by decide +kernel
theorem dMd_check_72 : decode cMd_check 72 = .ok (.dup, 1) := by decide +kernel
theorem dMd_check_73 : decode cMd_check 73 = .ok (.getfield 61, 3) := by decide +kernel
theorem dMd_check_76 : decode cMd_check 76 = .ok (.iconst 1, 1) := by decide +kernel
theorem dMd_check_77 : decode cMd_check 77 = .ok (.iadd, 1) := by decide +kernel
theorem dMd_check_78 : decode cMd_check 78 = .ok (.putfield 61, 3) := by decide +kernel
theorem dMd_check_81 : decode cMd_check 81 = .ok (.aload_n 0, 1) := by decide +kernel
theorem dMd_check_82 : decode cMd_check 82 = .ok (.getfield 61, 3) := by decide +kernel
theorem dMd_check_85 : decode cMd_check 85 = .ok (.ireturn, 1) := by decide +kernel
theorem dMd_mode_0 : decode cMd_mode 0 = .ok (.aload_n 0, 1) := by decide +kernel
theorem dMd_mode_1 : decode cMd_mode 1 = .ok (.iconst 0, 1) := by decide +kernel
theorem dMd_mode_2 : decode cMd_mode 2 = .ok (.putfield 44, 3) := by decide +kernel
theorem dMd_mode_5 : decode cMd_mode 5 = .ok (.iload_n 1, 1) := by decide +kernel
theorem dMd_mode_6 : decode cMd_mode 6 = .ok (.invokestatic 51, 3) := by decide +kernel
theorem dMd_mode_9 : decode cMd_mode 9 = .ok (.ifCond .ne 6, 3) := by decide +kernel
theorem dMd_mode_12 : decode cMd_mode 12 = .ok (.bipush (-2), 2) := by decide +kernel
theorem dMd_mode_14 : decode cMd_mode 14 = .ok (.ireturn, 1) := by decide +kernel
theorem dMd_mode_15 : decode cMd_mode 15 = .ok (.iload_n 2, 1) := by decide +kernel
theorem dMd_mode_16 : decode cMd_mode 16 = .ok (.iconst (-1), 1) := by decide +kernel
theorem dMd_mode_17 : decode cMd_mode 17 = .ok (.if_icmp .lt 8, 3) := by decide +kernel
theorem dMd_mode_20 : decode cMd_mode 20 = .ok (.iload_n 2, 1) := by decide +kernel
theorem dMd_mode_21 : decode cMd_mode 21 = .ok (.iconst 3, 1) := by decide +kernel
theorem dMd_mode_22 : decode cMd_mode 22 = .ok (.if_icmp .le 6, 3) := by decide +kernel
theorem dMd_mode_25 : decode cMd_mode 25 = .ok (.bipush (-4), 2) := by decide +kernel
theorem dMd_mode_27 : decode cMd_mode 27 = .ok (.ireturn, 1) := by decide +kernel
theorem dMd_mode_28 : decode cMd_mode 28 = .ok (.aload_n 0, 1) := by decide +kernel
theorem dMd_mode_29 : decode cMd_mode 29 = .ok (.getfield 35, 3) := by decide +kernel
theorem dMd_mode_32 : decode cMd_mode 32 = .ok (.iload_n 1, 1) := by decide +kernel
theorem dMd_mode_33 : decode cMd_mode 33 = .ok (.iload_n 2, 1) := by decide +kernel
theorem dMd_mode_34 : decode cMd_mode 34 = .ok (.iastore, 1) := by decide +kernel
theorem dMd_mode_35 : decode cMd_mode 35 = .ok (.iconst 1, 1) := by decide +kernel
theorem dMd_mode_36 : decode cMd_mode 36 = .ok (.ireturn, 1) := by decide +kernel
theorem dMd_isAt_0 : decode cMd_isAt 0 = .ok (.iload_n 1, 1) := by decide +kernel
theorem dMd_isAt_1 : decode cMd_isAt 1 = .ok (.istore_n 3, 1) := by decide +kernel
theorem dMd_isAt_2 : decode cMd_isAt 2 = .ok (.iload_n 3, 1) := by decide +kernel
theorem dMd_isAt_3 : decode cMd_isAt 3 = .ok (.ifCond .eq 18, 3) := by decide +kernel
theorem dMd_isAt_6 : decode cMd_isAt 6 = .ok (.iload_n 3, 1) := by decide +kernel
theorem dMd_isAt_7 : decode cMd_isAt 7 = .ok (.iload_n 2, 1) := by decide +kernel
theorem dMd_isAt_8 : decode cMd_isAt 8 = .ok (.if_icmp .eq 13, 3) := by decide +kernel
theorem dMd_isAt_11 : decode cMd_isAt 11 = .ok (.aload_n 0, 1) := by decide +kernel
theorem dMd_isAt_12 : decode cMd_isAt 12 = .ok (.getfield 16, 3) := by decide +kernel
theorem dMd_isAt_15 : decode cMd_isAt 15 = .ok (.iload_n 3, 1) := by decide +kernel
theorem dMd_isAt_16 : decode cMd_isAt 16 = .ok (.iaload, 1) := by decide +kernel
theorem dMd_isAt_17 : decode cMd_isAt 17 = .ok (.istore_n 3, 1) := by decide +kernel
theorem dMd_isAt_18 : decode cMd_isAt 18 = .ok (.goto (-16), 3) := by decide +kernel
theorem dMd_isAt_21 : decode cMd_isAt 21 = .ok (.iload_n 3, 1) := by decide +kernel
theorem dMd_isAt_22 : decode cMd_isAt 22 = .ok (.iload_n 2, 1) := by decide +kernel
theorem dMd_isAt_23 : decode cMd_isAt 23 = .ok (.if_icmp .ne 7, 3) := by decide +kernel
theorem dMd_isAt_26 : decode cMd_isAt 26 = .ok (.iconst 1, 1) := by decide +kernel
theorem dMd_isAt_27 : decode cMd_isAt 27 = .ok (.goto 4, 3) := by decide +kernel
theorem dMd_isAt_30 : decode cMd_isAt 30 = .ok (.iconst 0, 1) := by decide +kernel
theorem dMd_isAt_31 : decode cMd_isAt 31 = .ok (.ireturn, 1) := by decide +kernel
theorem dMd_isChecked_0 : decode cMd_isChecked 0 = .ok (.iconst (-1), 1) := by decide +kernel
theorem dMd_isChecked_1 : decode cMd_isChecked 1 = .ok (.istore_n 3, 1) := by decide +kernel
theorem dMd_isChecked_2 : decode cMd_isChecked 2 = .ok (.iconst 0, 1) := by decide +kernel
theorem dMd_isChecked_3 : decode cMd_isChecked 3 = .ok (.istore 4, 2) := by decide +kernel
theorem dMd_isChecked_5 : decode cMd_isChecked 5 = .ok (.iconst 0, 1) := by decide +kernel
theorem dMd_isChecked_6 : decode cMd_isChecked 6 = .ok (.istore 5, 2) := by decide +kernel
theorem dMd_isChecked_8 : decode cMd_isChecked 8 = .ok (.iload 5, 2) := by decide +kernel
theorem dMd_isChecked_10 : decode cMd_isChecked 10 = .ok (.aload_n 0, 1) := by decide +kernel
theorem dMd_isChecked_11 : decode cMd_isChecked 11 = .ok (.getfield 61, 3) := by decide +kernel
theorem dMd_isChecked_14 : decode cMd_isChecked 14 = .ok (.if_icmp .ge 66, 3) := by decide +kernel
theorem dMd_isChecked_17 : decode cMd_isChecked 17 = .ok (.aload_n 0, 1) := by decide +kernel
theorem dMd_isChecked_18 : decode cMd_isChecked 18 = .ok (.getfield 22, 3) := by decide +kernel
theorem dMd_isChecked_21 : decode cMd_isChecked 21 = .ok (.iload 5, 2) := by decide +kernel
theorem dMd_isChecked_23 : decode cMd_isChecked 23 = .ok (.iaload, 1) := by decide +kernel
theorem dMd_isChecked_24 : decode cMd_isChecked 24 = .ok (.iload_n 2, 1) := by decide +kernel
theorem dMd_isChecked_25 : decode cMd_isChecked 25 = .ok (.if_icmp .gt 49, 3) := by decide +kernel
theorem dMd_isChecked_28 : decode cMd_isChecked 28 = .ok (.aload_n 0, 1) := by decide +kernel
theorem dMd_isChecked_29 : decode cMd_isChecked 29 = .ok (.getfield 22, 3) := by decide +kernel
theorem dMd_isChecked_32 : decode cMd_isChecked 32 = .ok (.iload 5, 2) := by decide +kernel
theorem dMd_isChecked_34 : decode cMd_isChecked 34 = .ok (.iaload, 1) := by decide +kernel
theorem dMd_isChecked_35 : decode cMd_isChecked 35 = .ok (.iload_n 3, 1) := by decide +kernel
theorem dMd_isChecked_36 : decode cMd_isChecked 36 = .ok (.if_icmp .lt 38, 3) := by decide +kernel
theorem dMd_isChecked_39 : decode cMd_isChecked 39 = .ok (.aload_n 0, 1) := by decide +kernel
theorem dMd_isChecked_40 : decode cMd_isChecked 40 = .ok (.iload_n 1, 1) := by decide +kernel
theorem dMd_isChecked_41 : decode cMd_isChecked 41 = .ok (.aload_n 0, 1) := by decide +kernel
theorem dMd_isChecked_42 : decode cMd_isChecked 42 = .ok (.getfield 19, 3) := by decide +kernel
theorem dMd_isChecked_45 : decode cMd_isChecked 45 = .ok (.iload 5, 2) := by decide +kernel
theorem dMd_isChecked_47 : decode cMd_isChecked 47 = .ok (.iaload, 1) := by decide +kernel
theorem dMd_isChecked_48 : decode cMd_isChecked 48 = .ok (.invokevirtual 64, 3) := by decide +kernel
theorem dMd_isChecked_51 : decode cMd_isChecked 51 = .ok (.ifCond .ne 6, 3) := by decide +kernel
theorem dMd_isChecked_54 : decode cMd_isChecked 54 = .ok (.goto 20, 3) := by decide +kernel
theorem dMd_isChecked_57 : decode cMd_isChecked 57 = .ok (.aload_n 0, 1) := by decide +kernel
theorem dMd_isChecked_58 : decode cMd_isChecked 58 = .ok (.getfield 22, 3) := by decide +kernel
theorem dMd_isChecked_61 : decode cMd_isChecked 61 = .ok (.iload 5, 2) := by decide +kernel
theorem dMd_isChecked_63 : decode cMd_isChecked 63 = .ok (.iaload, 1) := by decide +kernel
theorem dMd_isChecked_64 : decode cMd_isChecked 64 = .ok (.istore_n 3, 1) := by decide +kernel
theorem dMd_isChecked_65 : decode cMd_isChecked 65 = .ok (.aload_n 0, 1) := by decide +kernel
theorem dMd_isChecked_66 : decode cMd_isChecked 66 = .ok (.getfield 25, 3) := by decide +kernel
theorem dMd_isChecked_69 : decode cMd_isChecked 69 = .ok (.iload 5, 2) := by decide +kernel
theorem dMd_isChecked_71 : decode cMd_isChecked 71 = .ok (.baload, 1) := by decide +kernel
theorem dMd_isChecked_72 : decode cMd_isChecked 72 = .ok (.istore 4, 2) := by decide +kernel
theorem dMd_isChecked_74 : decode cMd_isChecked 74 = .ok (.iinc 5 1, 3) := by decide +kernel
theorem dMd_isChecked_77 : decode cMd_isChecked 77 = .ok (.goto (-69), 3) := by decide +kernel
theorem dMd_isChecked_80 : decode cMd_isChecked 80 = .ok (.iload 4, 2) := by decide +kernel
theorem dMd_isChecked_82 : decode cMd_isChecked 82 = .ok (.ireturn, 1) := by decide +kernel
theorem dMd_first_0 : decode cMd_first 0 = .ok (.iconst 0, 1) := by decide +kernel
theorem dMd_first_1 : decode cMd_first 1 = .ok (.istore_n 3, 1) := by decide +kernel
theorem dMd_first_2 : decode cMd_first 2 = .ok (.aload_n 0, 1) := by decide +kernel
theorem dMd_first_3 : decode cMd_first 3 = .ok (.getfield 58, 3) := by decide +kernel
theorem dMd_first_6 : decode cMd_first 6 = .ok (.istore 4, 2) := by decide +kernel
theorem dMd_first_8 : decode cMd_first 8 = .ok (.iload 4, 2) := by decide +kernel
theorem dMd_first_10 : decode cMd_first 10 = .ok (.ifCond .le 38, 3) := by decide +kernel
theorem dMd_first_13 : decode cMd_first 13 = .ok (.aload_n 0, 1) := by decide +kernel
theorem dMd_first_14 : decode cMd_first 14 = .ok (.getfield 29, 3) := by decide +kernel
theorem dMd_first_17 : decode cMd_first 17 = .ok (.iload 4, 2) := by decide +kernel
theorem dMd_first_19 : decode cMd_first 19 = .ok (.iaload, 1) := by decide +kernel
theorem dMd_first_20 : decode cMd_first 20 = .ok (.iload_n 1, 1) := by decide +kernel
theorem dMd_first_21 : decode cMd_first 21 = .ok (.if_icmp .ne 19, 3) := by decide +kernel
theorem dMd_first_24 : decode cMd_first 24 = .ok (.aload_n 0, 1) := by decide +kernel
theorem dMd_first_25 : decode cMd_first 25 = .ok (.getfield 32, 3) := by decide +kernel
theorem dMd_first_28 : decode cMd_first 28 = .ok (.iload 4, 2) := by decide +kernel
theorem dMd_first_30 : decode cMd_first 30 = .ok (.iaload, 1) := by decide +kernel
theorem dMd_first_31 : decode cMd_first 31 = .ok (.iload_n 2, 1) := by decide +kernel
theorem dMd_first_32 : decode cMd_first 32 = .ok (.if_icmp .ne 8, 3) := by decide +kernel
theorem dMd_first_35 : decode cMd_first 35 = .ok (.iload 4, 2) := by decide +kernel
theorem dMd_first_37 : decode cMd_first 37 = .ok (.goto 4, 3) := by decide +kernel
theorem dMd_first_40 : decode cMd_first 40 = .ok (.iload_n 3, 1) := by decide +kernel
theorem dMd_first_41 : decode cMd_first 41 = .ok (.istore_n 3, 1) := by decide +kernel
theorem dMd_first_42 : decode cMd_first 42 = .ok (.iinc 4 (-1), 3) := by decide +kernel
theorem dMd_first_45 : decode cMd_first 45 = .ok (.goto (-37), 3) := by decide +kernel
theorem dMd_first_48 : decode cMd_first 48 = .ok (.iload_n 3, 1) := by decide +kernel
theorem dMd_first_49 : decode cMd_first 49 = .ok (.ireturn, 1) := by decide +kernel
theorem dMd_takerOf_0 : decode cMd_takerOf 0 = .ok (.iconst 0, 1) := by decide +kernel
theorem dMd_takerOf_1 : decode cMd_takerOf 1 = .ok (.istore_n 2, 1) := by decide +kernel
theorem dMd_takerOf_2 : decode cMd_takerOf 2 = .ok (.iload_n 1, 1) := by decide +kernel
theorem dMd_takerOf_3 : decode cMd_takerOf 3 = .ok (.istore_n 3, 1) := by decide +kernel
theorem dMd_takerOf_4 : decode cMd_takerOf 4 = .ok (.iload_n 3, 1) := by decide +kernel
theorem dMd_takerOf_5 : decode cMd_takerOf 5 = .ok (.ifCond .eq 24, 3) := by decide +kernel
theorem dMd_takerOf_8 : decode cMd_takerOf 8 = .ok (.iload_n 2, 1) := by decide +kernel
theorem dMd_takerOf_9 : decode cMd_takerOf 9 = .ok (.ifCond .ne 20, 3) := by decide +kernel
theorem dMd_takerOf_12 : decode cMd_takerOf 12 = .ok (.aload_n 0, 1) := by decide +kernel
theorem dMd_takerOf_13 : decode cMd_takerOf 13 = .ok (.iconst 0, 1) := by decide +kernel
theorem dMd_takerOf_14 : decode cMd_takerOf 14 = .ok (.iload_n 3, 1) := by decide +kernel
theorem dMd_takerOf_15 : decode cMd_takerOf 15 = .ok (.invokevirtual 68, 3) := by decide +kernel
theorem dMd_takerOf_18 : decode cMd_takerOf 18 = .ok (.istore_n 2, 1) := by decide +kernel
theorem dMd_takerOf_19 : decode cMd_takerOf 19 = .ok (.aload_n 0, 1) := by decide +kernel
theorem dMd_takerOf_20 : decode cMd_takerOf 20 = .ok (.getfield 16, 3) := by decide +kernel
theorem dMd_takerOf_23 : decode cMd_takerOf 23 = .ok (.iload_n 3, 1) := by decide +kernel
theorem dMd_takerOf_24 : decode cMd_takerOf 24 = .ok (.iaload, 1) := by decide +kernel
theorem dMd_takerOf_25 : decode cMd_takerOf 25 = .ok (.istore_n 3, 1) := by decide +kernel
theorem dMd_takerOf_26 : decode cMd_takerOf 26 = .ok (.goto (-22), 3) := by decide +kernel
theorem dMd_takerOf_29 : decode cMd_takerOf 29 = .ok (.iload_n 2, 1) := by decide +kernel
theorem dMd_takerOf_30 : decode cMd_takerOf 30 = .ok (.ireturn, 1) := by decide +kernel
theorem dMd_isRunning_0 : decode cMd_isRunning 0 = .ok (.iconst 0, 1) := by decide +kernel
theorem dMd_isRunning_1 : decode cMd_isRunning 1 = .ok (.istore_n 2, 1) := by decide +kernel
theorem dMd_isRunning_2 : decode cMd_isRunning 2 = .ok (.iconst 0, 1) := by decide +kernel
theorem dMd_isRunning_3 : decode cMd_isRunning 3 = .ok (.istore_n 3, 1) := by decide +kernel
theorem dMd_isRunning_4 : decode cMd_isRunning 4 = .ok (.iload_n 3, 1) := by decide +kernel
theorem dMd_isRunning_5 : decode cMd_isRunning 5 = .ok (.aload_n 0, 1) := by decide +kernel
theorem dMd_isRunning_6 : decode cMd_isRunning 6 = .ok (.getfield 72, 3) := by decide +kernel
theorem dMd_isRunning_9 : decode cMd_isRunning 9 = .ok (.if_icmp .ge 29, 3) := by decide +kernel
theorem dMd_isRunning_12 : decode cMd_isRunning 12 = .ok (.iload_n 2, 1) := by decide +kernel
theorem dMd_isRunning_13 : decode cMd_isRunning 13 = .ok (.ifCond .ne 13, 3) := by decide +kernel
theorem dMd_isRunning_16 : decode cMd_isRunning 16 = .ok (.aload_n 0, 1) := by decide +kernel
theorem dMd_isRunning_17 : decode cMd_isRunning 17 = .ok (.getfield 38, 3) := by decide +kernel
theorem dMd_isRunning_20 : decode cMd_isRunning 20 = .ok (.iload_n 3, 1) := by decide +kernel
theorem dMd_isRunning_21 : decode cMd_isRunning 21 = .ok (.iaload, 1) := by decide +kernel
theorem dMd_isRunning_22 : decode cMd_isRunning 22 = .ok (.iload_n 1, 1) := by decide +kernel
theorem dMd_isRunning_23 : decode cMd_isRunning 23 = .ok (.if_icmp .ne 7, 3) := by decide +kernel
theorem dMd_isRunning_26 : decode cMd_isRunning 26 = .ok (.iconst 1, 1) := by decide +kernel
theorem dMd_isRunning_27 : decode cMd_isRunning 27 = .ok (.goto 4, 3) := by decide +kernel
theorem dMd_isRunning_30 : decode cMd_isRunning 30 = .ok (.iconst 0, 1) := by decide +kernel
theorem dMd_isRunning_31 : decode cMd_isRunning 31 = .ok (.istore_n 2, 1) := by decide +kernel
theorem dMd_isRunning_32 : decode cMd_isRunning 32 = .ok (.iinc 3 1, 3) := by decide +kernel
theorem dMd_isRunning_35 : decode cMd_isRunning 35 = .ok (.goto (-31), 3) := by decide +kernel
theorem dMd_isRunning_38 : decode cMd_isRunning 38 = .ok (.iload_n 2, 1) := by decide +kernel
theorem dMd_isRunning_39 : decode cMd_isRunning 39 = .ok (.ireturn, 1) := by decide +kernel
theorem dMd_come_0 : decode cMd_come 0 = .ok (.aload_n 0, 1) := by decide +kernel
theorem dMd_come_1 : decode cMd_come 1 = .ok (.dup, 1) := by decide +kernel
theorem dMd_come_2 : decode cMd_come 2 = .ok (.getfield 75, 3) := by decide +kernel
theorem dMd_come_5 : decode cMd_come 5 = .ok (.iconst 1, 1) := by decide +kernel
theorem dMd_come_6 : decode cMd_come 6 = .ok (.iadd, 1) := by decide +kernel
theorem dMd_come_7 : decode cMd_come 7 = .ok (.putfield 75, 3) := by decide +kernel
theorem dMd_come_10 : decode cMd_come 10 = .ok (.aload_n 0, 1) := by decide +kernel
theorem dMd_come_11 : decode cMd_come 11 = .ok (.iconst 1, 1) := by decide +kernel
theorem dMd_come_12 : decode cMd_come 12 = .ok (.putfield 78, 3) := by decide +kernel
theorem dMd_come_15 : decode cMd_come 15 = .ok (.aload_n 0, 1) := by decide +kernel
theorem dMd_come_16 : decode cMd_come 16 = .ok (.iload_n 1, 1) := by decide +kernel
theorem dMd_come_17 : decode cMd_come 17 = .ok (.putfield 82, 3) := by decide +kernel
theorem dMd_come_20 : decode cMd_come 20 = .ok (.aload_n 0, 1) := by decide +kernel
theorem dMd_come_21 : decode cMd_come 21 = .ok (.iload_n 2, 1) := by decide +kernel
theorem dMd_come_22 : decode cMd_come 22 = .ok (.putfield 85, 3) := by decide +kernel
theorem dMd_come_25 : decode cMd_come 25 = .ok (.aload_n 0, 1) := by decide +kernel
theorem dMd_come_26 : decode cMd_come 26 = .ok (.iload_n 3, 1) := by decide +kernel
theorem dMd_come_27 : decode cMd_come 27 = .ok (.putfield 88, 3) := by decide +kernel
theorem dMd_come_30 : decode cMd_come 30 = .ok (.aload_n 0, 1) := by decide +kernel
theorem dMd_come_31 : decode cMd_come 31 = .ok (.iconst (-1), 1) := by decide +kernel
theorem dMd_come_32 : decode cMd_come 32 = .ok (.putfield 91, 3) := by decide +kernel
theorem dMd_come_35 : decode cMd_come 35 = .ok (.aload_n 0, 1) := by decide +kernel
theorem dMd_come_36 : decode cMd_come 36 = .ok (.dup, 1) := by decide +kernel
theorem dMd_come_37 : decode cMd_come 37 = .ok (.getfield 94, 3) := by decide +kernel
theorem dMd_come_40 : decode cMd_come 40 = .ok (.iload_n 3, 1) := by decide +kernel
theorem dMd_come_41 : decode cMd_come 41 = .ok (.ifCond .ne 7, 3) := by decide +kernel
theorem dMd_come_44 : decode cMd_come 44 = .ok (.iconst 0, 1) := by decide +kernel
theorem dMd_come_45 : decode cMd_come 45 = .ok (.goto 4, 3) := by decide +kernel
theorem dMd_come_48 : decode cMd_come 48 = .ok (.iconst 1, 1) := by decide +kernel
theorem dMd_come_49 : decode cMd_come 49 = .ok (.iadd, 1) := by decide +kernel
theorem dMd_come_50 : decode cMd_come 50 = .ok (.putfield 94, 3) := by decide +kernel
theorem dMd_come_53 : decode cMd_come 53 = .ok (.iload_n 3, 1) := by decide +kernel
theorem dMd_come_54 : decode cMd_come 54 = .ok (.ifCond .ne 11, 3) := by decide +kernel
theorem dMd_come_57 : decode cMd_come 57 = .ok (.aload_n 0, 1) := by decide +kernel
theorem dMd_come_58 : decode cMd_come 58 = .ok (.iload 4, 2) := by decide +kernel
theorem dMd_come_60 : decode cMd_come 60 = .ok (.putfield 97, 3) := by decide +kernel
theorem dMd_come_63 : decode cMd_come 63 = .ok (.iconst 0, 1) := by decide +kernel
theorem dMd_come_64 : decode cMd_come 64 = .ok (.ireturn, 1) := by decide +kernel
theorem dMd_come_65 : decode cMd_come 65 = .ok (.aload_n 0, 1) := by decide +kernel
theorem dMd_come_66 : decode cMd_come 66 = .ok (.iload_n 3, 1) := by decide +kernel
theorem dMd_come_67 : decode cMd_come 67 = .ok (.invokevirtual 100, 3) := by decide +kernel
theorem dMd_come_70 : decode cMd_come 70 = .ok (.ifCond .ne 12, 3) := by decide +kernel
theorem dMd_come_73 : decode cMd_come 73 = .ok (.aload_n 0, 1) := by decide +kernel
theorem dMd_come_74 : decode cMd_come 74 = .ok (.getfield 72, 3) := by decide +kernel
theorem dMd_come_77 : decode cMd_come 77 = .ok (.bipush 10, 2) := by decide +kernel
theorem dMd_come_79 : decode cMd_come 79 = .ok (.if_icmp .ne 10, 3) := by decide +kernel
theorem dMd_come_82 : decode cMd_come 82 = .ok (.aload_n 0, 1) := by decide +kernel
theorem dMd_come_83 : decode cMd_come 83 = .ok (.iconst 1, 1) := by decide +kernel
theorem dMd_come_84 : decode cMd_come 84 = .ok (.putfield 97, 3) := by decide +kernel
theorem dMd_come_87 : decode cMd_come 87 = .ok (.iconst 0, 1) := by decide +kernel
theorem dMd_come_88 : decode cMd_come 88 = .ok (.ireturn, 1) := by decide +kernel
theorem dMd_come_89 : decode cMd_come 89 = .ok (.aload_n 0, 1) := by decide +kernel
theorem dMd_come_90 : decode cMd_come 90 = .ok (.getfield 38, 3) := by decide +kernel
theorem dMd_come_93 : decode cMd_come 93 = .ok (.aload_n 0, 1) := by decide +kernel
theorem dMd_come_94 : decode cMd_come 94 = .ok (.getfield 72, 3) := by decide +kernel
theorem dMd_come_97 : decode cMd_come 97 = .ok (.iload_n 3, 1) := by decide +kernel
theorem dMd_come_98 : decode cMd_come 98 = .ok (.iastore, 1) := by decide +kernel
theorem dMd_come_99 : decode cMd_come 99 = .ok (.aload_n 0, 1) := by decide +kernel
theorem dMd_come_100 : decode cMd_come 100 = .ok (.getfield 41, 3) := by decide +kernel
theorem dMd_come_103 : decode cMd_come 103 = .ok (.aload_n 0, 1) := by decide +kernel
theorem dMd_come_104 : decode cMd_come 104 = .ok (.getfield 72, 3) := by decide +kernel
theorem dMd_come_107 : decode cMd_come 107 = .ok (.iload_n 2, 1) := by decide +kernel
theorem dMd_come_108 : decode cMd_come 108 = .ok (.iastore, 1) := by decide +kernel
theorem dMd_come_109 : decode cMd_come 109 = .ok (.aload_n 0, 1) := by decide +kernel
theorem dMd_come_110 : decode cMd_come 110 = .ok (.dup, 1) := by decide +kernel
theorem dMd_come_111 : decode cMd_come 111 = .ok (.getfield 72, 3) := by decide +kernel
theorem dMd_come_114 : decode cMd_come 114 = .ok (.iconst 1, 1) := by decide +kernel
theorem dMd_come_115 : decode cMd_come 115 = .ok (.iadd, 1) := by decide +kernel
theorem dMd_come_116 : decode cMd_come 116 = .ok (.putfield 72, 3) := by decide +kernel
theorem dMd_come_119 : decode cMd_come 119 = .ok (.iload_n 3, 1) := by decide +kernel
theorem dMd_come_120 : decode cMd_come 120 = .ok (.ireturn, 1) := by decide +kernel
theorem dMd_raise_0 : decode cMd_raise 0 = .ok (.aload_n 0, 1) := by decide +kernel
theorem dMd_raise_1 : decode cMd_raise 1 = .ok (.iconst 0, 1) := by decide +kernel
theorem dMd_raise_2 : decode cMd_raise 2 = .ok (.putfield 44, 3) := by decide +kernel
theorem dMd_raise_5 : decode cMd_raise 5 = .ok (.aload_n 0, 1) := by decide +kernel
theorem dMd_raise_6 : decode cMd_raise 6 = .ok (.iload_n 1, 1) := by decide +kernel
theorem dMd_raise_7 : decode cMd_raise 7 = .ok (.invokevirtual 55, 3) := by decide +kernel
theorem dMd_raise_10 : decode cMd_raise 10 = .ok (.ifCond .ne 6, 3) := by decide +kernel
theorem dMd_raise_13 : decode cMd_raise 13 = .ok (.bipush (-2), 2) := by decide +kernel
theorem dMd_raise_15 : decode cMd_raise 15 = .ok (.ireturn, 1) := by decide +kernel
theorem dMd_raise_16 : decode cMd_raise 16 = .ok (.iload_n 2, 1) := by decide +kernel
theorem dMd_raise_17 : decode cMd_raise 17 = .ok (.ifCond .lt 10, 3) := by decide +kernel
theorem dMd_raise_20 : decode cMd_raise 20 = .ok (.iload_n 2, 1) := by decide +kernel
theorem dMd_raise_21 : decode cMd_raise 21 = .ok (.sipush 9999, 3) := by decide +kernel
theorem dMd_raise_24 : decode cMd_raise 24 = .ok (.if_icmp .le 6, 3) := by decide +kernel
theorem dMd_raise_27 : decode cMd_raise 27 = .ok (.bipush (-4), 2) := by decide +kernel
theorem dMd_raise_29 : decode cMd_raise 29 = .ok (.ireturn, 1) := by decide +kernel
theorem dMd_raise_30 : decode cMd_raise 30 = .ok (.aload_n 0, 1) := by decide +kernel
theorem dMd_raise_31 : decode cMd_raise 31 = .ok (.getfield 97, 3) := by decide +kernel
theorem dMd_raise_34 : decode cMd_raise 34 = .ok (.ifCond .ne 12, 3) := by decide +kernel
theorem dMd_raise_37 : decode cMd_raise 37 = .ok (.aload_n 0, 1) := by decide +kernel
theorem dMd_raise_38 : decode cMd_raise 38 = .ok (.iload_n 1, 1) := by decide +kernel
theorem dMd_raise_39 : decode cMd_raise 39 = .ok (.iload_n 2, 1) := by decide +kernel
theorem dMd_raise_40 : decode cMd_raise 40 = .ok (.invokevirtual 103, 3) := by decide +kernel
theorem dMd_raise_43 : decode cMd_raise 43 = .ok (.ifCond .ne 5, 3) := by decide +kernel
theorem dMd_raise_46 : decode cMd_raise 46 = .ok (.iconst (-1), 1) := by decide +kernel
theorem dMd_raise_47 : decode cMd_raise 47 = .ok (.ireturn, 1) := by decide +kernel
theorem dMd_raise_48 : decode cMd_raise 48 = .ok (.aload_n 0, 1) := by decide +kernel
theorem dMd_raise_49 : decode cMd_raise 49 = .ok (.iload_n 1, 1) := by decide +kernel
theorem dMd_raise_50 : decode cMd_raise 50 = .ok (.iload_n 2, 1) := by decide +kernel
theorem dMd_raise_51 : decode cMd_raise 51 = .ok (.aload_n 0, 1) := by decide +kernel
theorem dMd_raise_52 : decode cMd_raise 52 = .ok (.iload_n 1, 1) := by decide +kernel
theorem dMd_raise_53 : decode cMd_raise 53 = .ok (.invokevirtual 106, 3) := by decide +kernel
theorem dMd_raise_56 : decode cMd_raise 56 = .ok (.aload_n 0, 1) := by decide +kernel
theorem dMd_raise_57 : decode cMd_raise 57 = .ok (.getfield 13, 3) := by decide +kernel
theorem dMd_raise_60 : decode cMd_raise 60 = .ok (.iload_n 1, 1) := by decide +kernel
theorem dMd_raise_61 : decode cMd_raise 61 = .ok (.iaload, 1) := by decide +kernel
theorem dMd_raise_62 : decode cMd_raise 62 = .ok (.bipush 50, 2) := by decide +kernel
theorem dMd_raise_64 : decode cMd_raise 64 = .ok (.if_icmp .ge 7, 3) := by decide +kernel
theorem dMd_raise_67 : decode cMd_raise 67 = .ok (.iconst 1, 1) := by decide +kernel
theorem dMd_raise_68 : decode cMd_raise 68 = .ok (.goto 4, 3) := by decide +kernel
theorem dMd_raise_71 : decode cMd_raise 71 = .ok (.iconst 0, 1) := by decide +kernel
theorem dMd_raise_72 : decode cMd_raise 72 = .ok (.invokevirtual 110, 3) := by decide +kernel
theorem dMd_raise_75 : decode cMd_raise 75 = .ok (.ireturn, 1) := by decide +kernel
theorem dMd_status_0 : decode cMd_status 0 = .ok (.aload_n 0, 1) := by decide +kernel
theorem dMd_status_1 : decode cMd_status 1 = .ok (.iconst 0, 1) := by decide +kernel
theorem dMd_status_2 : decode cMd_status 2 = .ok (.putfield 44, 3) := by decide +kernel
theorem dMd_status_5 : decode cMd_status 5 = .ok (.iload_n 1, 1) := by decide +kernel
theorem dMd_status_6 : decode cMd_status 6 = .ok (.invokestatic 51, 3) := by decide +kernel
theorem dMd_status_9 : decode cMd_status 9 = .ok (.ifCond .ne 6, 3) := by decide +kernel
theorem dMd_status_12 : decode cMd_status 12 = .ok (.bipush (-2), 2) := by decide +kernel
theorem dMd_status_14 : decode cMd_status 14 = .ok (.ireturn, 1) := by decide +kernel
theorem dMd_status_15 : decode cMd_status 15 = .ok (.iload_n 2, 1) := by decide +kernel
theorem dMd_status_16 : decode cMd_status 16 = .ok (.ifCond .lt 9, 3) := by decide +kernel
theorem dMd_status_19 : decode cMd_status 19 = .ok (.iload_n 2, 1) := by decide +kernel
theorem dMd_status_20 : decode cMd_status 20 = .ok (.bipush 99, 2) := by decide +kernel
theorem dMd_status_22 : decode cMd_status 22 = .ok (.if_icmp .le 6, 3) := by decide +kernel
theorem dMd_status_25 : decode cMd_status 25 = .ok (.bipush (-4), 2) := by decide +kernel
theorem dMd_status_27 : decode cMd_status 27 = .ok (.ireturn, 1) := by decide +kernel
theorem dMd_status_28 : decode cMd_status 28 = .ok (.aload_n 0, 1) := by decide +kernel
theorem dMd_status_29 : decode cMd_status 29 = .ok (.getfield 97, 3) := by decide +kernel
theorem dMd_status_32 : decode cMd_status 32 = .ok (.ifCond .ne 9, 3) := by decide +kernel
theorem dMd_status_35 : decode cMd_status 35 = .ok (.iload_n 2, 1) := by decide +kernel
theorem dMd_status_36 : decode cMd_status 36 = .ok (.bipush 10, 2) := by decide +kernel
theorem dMd_status_38 : decode cMd_status 38 = .ok (.if_icmp .ge 5, 3) := by decide +kernel
theorem dMd_status_41 : decode cMd_status 41 = .ok (.iconst (-1), 1) := by decide +kernel
theorem dMd_status_42 : decode cMd_status 42 = .ok (.ireturn, 1) := by decide +kernel
theorem dMd_status_43 : decode cMd_status 43 = .ok (.aload_n 0, 1) := by decide +kernel
theorem dMd_status_44 : decode cMd_status 44 = .ok (.iconst 1, 1) := by decide +kernel
theorem dMd_status_45 : decode cMd_status 45 = .ok (.iload_n 1, 1) := by decide +kernel
theorem dMd_status_46 : decode cMd_status 46 = .ok (.invokevirtual 68, 3) := by decide +kernel
theorem dMd_status_49 : decode cMd_status 49 = .ok (.istore_n 3, 1) := by decide +kernel
theorem dMd_status_50 : decode cMd_status 50 = .ok (.iload_n 3, 1) := by decide +kernel
theorem dMd_status_51 : decode cMd_status 51 = .ok (.ifCond .ne 25, 3) := by decide +kernel
theorem dMd_status_54 : decode cMd_status 54 = .ok (.aload_n 0, 1) := by decide +kernel
theorem dMd_status_55 : decode cMd_status 55 = .ok (.getfield 35, 3) := by decide +kernel
theorem dMd_status_58 : decode cMd_status 58 = .ok (.iload_n 1, 1) := by decide +kernel
theorem dMd_status_59 : decode cMd_status 59 = .ok (.iaload, 1) := by decide +kernel
theorem dMd_status_60 : decode cMd_status 60 = .ok (.iconst (-1), 1) := by decide +kernel
theorem dMd_status_61 : decode cMd_status 61 = .ok (.if_icmp .eq 15, 3) := by decide +kernel
theorem dMd_status_64 : decode cMd_status 64 = .ok (.aload_n 0, 1) := by decide +kernel
theorem dMd_status_65 : decode cMd_status 65 = .ok (.iconst 2, 1) := by decide +kernel
theorem dMd_status_66 : decode cMd_status 66 = .ok (.aload_n 0, 1) := by decide +kernel
theorem dMd_status_67 : decode cMd_status 67 = .ok (.getfield 35, 3) := by decide +kernel
theorem dMd_status_70 : decode cMd_status 70 = .ok (.iload_n 1, 1) := by decide +kernel
theorem dMd_status_71 : decode cMd_status 71 = .ok (.iaload, 1) := by decide +kernel
theorem dMd_status_72 : decode cMd_status 72 = .ok (.invokevirtual 68, 3) := by decide +kernel
theorem dMd_status_75 : decode cMd_status 75 = .ok (.istore_n 3, 1) := by decide +kernel
theorem dMd_status_76 : decode cMd_status 76 = .ok (.aload_n 0, 1) := by decide +kernel
theorem dMd_status_77 : decode cMd_status 77 = .ok (.iconst 0, 1) := by decide +kernel
theorem dMd_status_78 : decode cMd_status 78 = .ok (.iload_n 2, 1) := by decide +kernel
theorem dMd_status_79 : decode cMd_status 79 = .ok (.isub, 1) := by decide +kernel
theorem dMd_status_80 : decode cMd_status 80 = .ok (.iconst 0, 1) := by decide +kernel
theorem dMd_status_81 : decode cMd_status 81 = .ok (.iload_n 3, 1) := by decide +kernel
theorem dMd_status_82 : decode cMd_status 82 = .ok (.iconst 0, 1) := by decide +kernel
theorem dMd_status_83 : decode cMd_status 83 = .ok (.invokevirtual 110, 3) := by decide +kernel
theorem dMd_status_86 : decode cMd_status 86 = .ok (.ireturn, 1) := by decide +kernel
theorem dMd_resume_0 : decode cMd_resume 0 = .ok (.aload_n 0, 1) := by decide +kernel
theorem dMd_resume_1 : decode cMd_resume 1 = .ok (.iconst 0, 1) := by decide +kernel
theorem dMd_resume_2 : decode cMd_resume 2 = .ok (.putfield 44, 3) := by decide +kernel
theorem dMd_resume_5 : decode cMd_resume 5 = .ok (.iload_n 2, 1) := by decide +kernel
theorem dMd_resume_6 : decode cMd_resume 6 = .ok (.ifCond .lt 10, 3) := by decide +kernel
theorem dMd_resume_9 : decode cMd_resume 9 = .ok (.iload_n 2, 1) := by decide +kernel
theorem dMd_resume_10 : decode cMd_resume 10 = .ok (.sipush 9999, 3) := by decide +kernel
theorem dMd_resume_13 : decode cMd_resume 13 = .ok (.if_icmp .le 6, 3) := by decide +kernel
theorem dMd_resume_16 : decode cMd_resume 16 = .ok (.bipush (-4), 2) := by decide +kernel
theorem dMd_resume_18 : decode cMd_resume 18 = .ok (.ireturn, 1) := by decide +kernel
theorem dMd_resume_19 : decode cMd_resume 19 = .ok (.aload_n 0, 1) := by decide +kernel
theorem dMd_resume_20 : decode cMd_resume 20 = .ok (.getfield 97, 3) := by decide +kernel
theorem dMd_resume_23 : decode cMd_resume 23 = .ok (.ifCond .eq 6, 3) := by decide +kernel
theorem dMd_resume_26 : decode cMd_resume 26 = .ok (.bipush (-5), 2) := by decide +kernel
theorem dMd_resume_28 : decode cMd_resume 28 = .ok (.ireturn, 1) := by decide +kernel
theorem dMd_resume_29 : decode cMd_resume 29 = .ok (.aload_n 0, 1) := by decide +kernel
theorem dMd_resume_30 : decode cMd_resume 30 = .ok (.getfield 72, 3) := by decide +kernel
theorem dMd_resume_33 : decode cMd_resume 33 = .ok (.ifCond .eq 18, 3) := by decide +kernel
theorem dMd_resume_36 : decode cMd_resume 36 = .ok (.aload_n 0, 1) := by decide +kernel
theorem dMd_resume_37 : decode cMd_resume 37 = .ok (.getfield 38, 3) := by decide +kernel
theorem dMd_resume_40 : decode cMd_resume 40 = .ok (.aload_n 0, 1) := by decide +kernel
theorem dMd_resume_41 : decode cMd_resume 41 = .ok (.getfield 72, 3) := by decide +kernel
theorem dMd_resume_44 : decode cMd_resume 44 = .ok (.iconst 1, 1) := by decide +kernel
theorem dMd_resume_45 : decode cMd_resume 45 = .ok (.isub, 1) := by decide +kernel
theorem dMd_resume_46 : decode cMd_resume 46 = .ok (.iaload, 1) := by decide +kernel
theorem dMd_resume_47 : decode cMd_resume 47 = .ok (.iload_n 1, 1) := by decide +kernel
theorem dMd_resume_48 : decode cMd_resume 48 = .ok (.if_icmp .eq 5, 3) := by decide +kernel
theorem dMd_resume_51 : decode cMd_resume 51 = .ok (.iconst 0, 1) := by decide +kernel
theorem dMd_resume_52 : decode cMd_resume 52 = .ok (.ireturn, 1) := by decide +kernel
theorem dMd_resume_53 : decode cMd_resume 53 = .ok (.aload_n 0, 1) := by decide +kernel
theorem dMd_resume_54 : decode cMd_resume 54 = .ok (.dup, 1) := by decide +kernel
theorem dMd_resume_55 : decode cMd_resume 55 = .ok (.getfield 72, 3) := by decide +kernel
theorem dMd_resume_58 : decode cMd_resume 58 = .ok (.iconst 1, 1) := by decide +kernel
theorem dMd_resume_59 : decode cMd_resume 59 = .ok (.isub, 1) := by decide +kernel
theorem dMd_resume_60 : decode cMd_resume 60 = .ok (.putfield 72, 3) := by decide +kernel
theorem dMd_resume_63 : decode cMd_resume 63 = .ok (.iload_n 2, 1) := by decide +kernel
theorem dMd_resume_64 : decode cMd_resume 64 = .ok (.ifCond .ne 17, 3) := by decide +kernel
theorem dMd_resume_67 : decode cMd_resume 67 = .ok (.aload_n 0, 1) := by decide +kernel
theorem dMd_resume_68 : decode cMd_resume 68 = .ok (.getfield 41, 3) := by decide +kernel
theorem dMd_resume_71 : decode cMd_resume 71 = .ok (.aload_n 0, 1) := by decide +kernel
theorem dMd_resume_72 : decode cMd_resume 72 = .ok (.getfield 72, 3) := by decide +kernel
theorem dMd_resume_75 : decode cMd_resume 75 = .ok (.iaload, 1) := by decide +kernel
theorem dMd_resume_76 : decode cMd_resume 76 = .ok (.iconst 1, 1) := by decide +kernel
theorem dMd_resume_77 : decode cMd_resume 77 = .ok (.iadd, 1) := by decide +kernel
theorem dMd_resume_78 : decode cMd_resume 78 = .ok (.goto 4, 3) := by decide +kernel
theorem dMd_resume_81 : decode cMd_resume 81 = .ok (.iload_n 2, 1) := by decide +kernel
theorem dMd_resume_82 : decode cMd_resume 82 = .ok (.ireturn, 1) := by decide +kernel
theorem dMd_propagate_0 : decode cMd_propagate 0 = .ok (.aload_n 0, 1) := by decide +kernel
theorem dMd_propagate_1 : decode cMd_propagate 1 = .ok (.iconst 0, 1) := by decide +kernel
theorem dMd_propagate_2 : decode cMd_propagate 2 = .ok (.putfield 44, 3) := by decide +kernel
theorem dMd_propagate_5 : decode cMd_propagate 5 = .ok (.iload_n 1, 1) := by decide +kernel
theorem dMd_propagate_6 : decode cMd_propagate 6 = .ok (.ifCond .lt 9, 3) := by decide +kernel
theorem dMd_propagate_9 : decode cMd_propagate 9 = .ok (.iload_n 1, 1) := by decide +kernel
theorem dMd_propagate_10 : decode cMd_propagate 10 = .ok (.bipush 99, 2) := by decide +kernel
theorem dMd_propagate_12 : decode cMd_propagate 12 = .ok (.if_icmp .le 6, 3) := by decide +kernel
theorem dMd_propagate_15 : decode cMd_propagate 15 = .ok (.bipush (-4), 2) := by decide +kernel
theorem dMd_propagate_17 : decode cMd_propagate 17 = .ok (.ireturn, 1) := by decide +kernel
theorem dMd_propagate_18 : decode cMd_propagate 18 = .ok (.aload_n 0, 1) := by decide +kernel
theorem dMd_propagate_19 : decode cMd_propagate 19 = .ok (.getfield 78, 3) := by decide +kernel
theorem dMd_propagate_22 : decode cMd_propagate 22 = .ok (.ifCond .eq 18, 3) := by decide +kernel
theorem dMd_propagate_25 : decode cMd_propagate 25 = .ok (.aload_n 0, 1) := by decide +kernel
theorem dMd_propagate_26 : decode cMd_propagate 26 = .ok (.getfield 82, 3) := by decide +kernel
theorem dMd_propagate_29 : decode cMd_propagate 29 = .ok (.ifCond .lt 11, 3) := by decide +kernel
theorem dMd_propagate_32 : decode cMd_propagate 32 = .ok (.aload_n 0, 1) := by decide +kernel
theorem dMd_propagate_33 : decode cMd_propagate 33 = .ok (.getfield 91, 3) := by decide +kernel
theorem dMd_propagate_36 : decode cMd_propagate 36 = .ok (.iconst (-1), 1) := by decide +kernel
theorem dMd_propagate_37 : decode cMd_propagate 37 = .ok (.if_icmp .eq 5, 3) := by decide +kernel
theorem dMd_propagate_40 : decode cMd_propagate 40 = .ok (.iconst 0, 1) := by decide +kernel
theorem dMd_propagate_41 : decode cMd_propagate 41 = .ok (.ireturn, 1) := by decide +kernel
theorem dMd_propagate_42 : decode cMd_propagate 42 = .ok (.aload_n 0, 1) := by decide +kernel
theorem dMd_propagate_43 : decode cMd_propagate 43 = .ok (.iload_n 1, 1) := by decide +kernel
theorem dMd_propagate_44 : decode cMd_propagate 44 = .ok (.putfield 91, 3) := by decide +kernel
theorem dMd_propagate_47 : decode cMd_propagate 47 = .ok (.aload_n 0, 1) := by decide +kernel
theorem dMd_propagate_48 : decode cMd_propagate 48 = .ok (.getfield 82, 3) := by decide +kernel
theorem dMd_propagate_51 : decode cMd_propagate 51 = .ok (.ireturn, 1) := by decide +kernel
theorem dMd_taken_0 : decode cMd_taken 0 = .ok (.aload_n 0, 1) := by decide +kernel
theorem dMd_taken_1 : decode cMd_taken 1 = .ok (.iconst 0, 1) := by decide +kernel
theorem dMd_taken_2 : decode cMd_taken 2 = .ok (.putfield 44, 3) := by decide +kernel
theorem dMd_taken_5 : decode cMd_taken 5 = .ok (.iload_n 1, 1) := by decide +kernel
theorem dMd_taken_6 : decode cMd_taken 6 = .ok (.ifCond .lt 27, 3) := by decide +kernel
theorem dMd_taken_9 : decode cMd_taken 9 = .ok (.iload_n 1, 1) := by decide +kernel
theorem dMd_taken_10 : decode cMd_taken 10 = .ok (.aload_n 0, 1) := by decide +kernel
theorem dMd_taken_11 : decode cMd_taken 11 = .ok (.getfield 72, 3) := by decide +kernel
theorem dMd_taken_14 : decode cMd_taken 14 = .ok (.if_icmp .ge 19, 3) := by decide +kernel
theorem dMd_taken_17 : decode cMd_taken 17 = .ok (.aload_n 0, 1) := by decide +kernel
theorem dMd_taken_18 : decode cMd_taken 18 = .ok (.getfield 38, 3) := by decide +kernel
theorem dMd_taken_21 : decode cMd_taken 21 = .ok (.aload_n 0, 1) := by decide +kernel
theorem dMd_taken_22 : decode cMd_taken 22 = .ok (.getfield 72, 3) := by decide +kernel
theorem dMd_taken_25 : decode cMd_taken 25 = .ok (.iconst 1, 1) := by decide +kernel
theorem dMd_taken_26 : decode cMd_taken 26 = .ok (.isub, 1) := by decide +kernel
theorem dMd_taken_27 : decode cMd_taken 27 = .ok (.iload_n 1, 1) := by decide +kernel
theorem dMd_taken_28 : decode cMd_taken 28 = .ok (.isub, 1) := by decide +kernel
theorem dMd_taken_29 : decode cMd_taken 29 = .ok (.iaload, 1) := by decide +kernel
theorem dMd_taken_30 : decode cMd_taken 30 = .ok (.goto 4, 3) := by decide +kernel
theorem dMd_taken_33 : decode cMd_taken 33 = .ok (.iconst 0, 1) := by decide +kernel
theorem dMd_taken_34 : decode cMd_taken 34 = .ok (.ireturn, 1) := by decide +kernel
theorem dMd_nested_0 : decode cMd_nested 0 = .ok (.aload_n 0, 1) := by decide +kernel
theorem dMd_nested_1 : decode cMd_nested 1 = .ok (.iconst 0, 1) := by decide +kernel
theorem dMd_nested_2 : decode cMd_nested 2 = .ok (.putfield 44, 3) := by decide +kernel
theorem dMd_nested_5 : decode cMd_nested 5 = .ok (.aload_n 0, 1) := by decide +kernel
theorem dMd_nested_6 : decode cMd_nested 6 = .ok (.iload_n 1, 1) := by decide +kernel
theorem dMd_nested_7 : decode cMd_nested 7 = .ok (.invokevirtual 55, 3) := by decide +kernel
theorem dMd_nested_10 : decode cMd_nested 10 = .ok (.ifCond .ne 6, 3) := by decide +kernel
theorem dMd_nested_13 : decode cMd_nested 13 = .ok (.bipush (-2), 2) := by decide +kernel
theorem dMd_nested_15 : decode cMd_nested 15 = .ok (.ireturn, 1) := by decide +kernel
theorem dMd_nested_16 : decode cMd_nested 16 = .ok (.aload_n 0, 1) := by decide +kernel
theorem dMd_nested_17 : decode cMd_nested 17 = .ok (.iload_n 1, 1) := by decide +kernel
theorem dMd_nested_18 : decode cMd_nested 18 = .ok (.invokevirtual 106, 3) := by decide +kernel
theorem dMd_nested_21 : decode cMd_nested 21 = .ok (.istore_n 2, 1) := by decide +kernel
theorem dMd_nested_22 : decode cMd_nested 22 = .ok (.iload_n 2, 1) := by decide +kernel
theorem dMd_nested_23 : decode cMd_nested 23 = .ok (.ifCond .eq 15, 3) := by decide +kernel
theorem dMd_nested_26 : decode cMd_nested 26 = .ok (.aload_n 0, 1) := by decide +kernel
theorem dMd_nested_27 : decode cMd_nested 27 = .ok (.iload_n 2, 1) := by decide +kernel
theorem dMd_nested_28 : decode cMd_nested 28 = .ok (.invokevirtual 100, 3) := by decide +kernel
theorem dMd_nested_31 : decode cMd_nested 31 = .ok (.ifCond .eq 7, 3) := by decide +kernel
theorem dMd_nested_34 : decode cMd_nested 34 = .ok (.iconst 1, 1) := by decide +kernel
theorem dMd_nested_35 : decode cMd_nested 35 = .ok (.goto 4, 3) := by decide +kernel
theorem dMd_nested_38 : decode cMd_nested 38 = .ok (.iconst 0, 1) := by decide +kernel
theorem dMd_nested_39 : decode cMd_nested 39 = .ok (.ireturn, 1) := by decide +kernel
theorem dMd_last_0 : decode cMd_last 0 = .ok (.aload_n 0, 1) := by decide +kernel
theorem dMd_last_1 : decode cMd_last 1 = .ok (.iconst 0, 1) := by decide +kernel
theorem dMd_last_2 : decode cMd_last 2 = .ok (.putfield 44, 3) := by decide +kernel
theorem dMd_last_5 : decode cMd_last 5 = .ok (.aload_n 0, 1) := by decide +kernel
theorem dMd_last_6 : decode cMd_last 6 = .ok (.getfield 78, 3) := by decide +kernel
theorem dMd_last_9 : decode cMd_last 9 = .ok (.ifCond .ne 5, 3) := by decide +kernel
theorem dMd_last_12 : decode cMd_last 12 = .ok (.iconst (-1), 1) := by decide +kernel
theorem dMd_last_13 : decode cMd_last 13 = .ok (.ireturn, 1) := by decide +kernel
theorem dMd_last_14 : decode cMd_last 14 = .ok (.iload_n 1, 1) := by decide +kernel
theorem dMd_last_15 : decode cMd_last 15 = .ok (.ifCond .ne 10, 3) := by decide +kernel
theorem dMd_last_18 : decode cMd_last 18 = .ok (.aload_n 0, 1) := by decide +kernel
theorem dMd_last_19 : decode cMd_last 19 = .ok (.getfield 82, 3) := by decide +kernel
theorem dMd_last_22 : decode cMd_last 22 = .ok (.goto 40, 3) := by decide +kernel
theorem dMd_last_25 : decode cMd_last 25 = .ok (.iload_n 1, 1) := by decide +kernel
theorem dMd_last_26 : decode cMd_last 26 = .ok (.iconst 1, 1) := by decide +kernel
theorem dMd_last_27 : decode cMd_last 27 = .ok (.if_icmp .ne 10, 3) := by decide +kernel
theorem dMd_last_30 : decode cMd_last 30 = .ok (.aload_n 0, 1) := by decide +kernel
theorem dMd_last_31 : decode cMd_last 31 = .ok (.getfield 85, 3) := by decide +kernel
theorem dMd_last_34 : decode cMd_last 34 = .ok (.goto 28, 3) := by decide +kernel
theorem dMd_last_37 : decode cMd_last 37 = .ok (.iload_n 1, 1) := by decide +kernel
theorem dMd_last_38 : decode cMd_last 38 = .ok (.iconst 2, 1) := by decide +kernel
theorem dMd_last_39 : decode cMd_last 39 = .ok (.if_icmp .ne 10, 3) := by decide +kernel
theorem dMd_last_42 : decode cMd_last 42 = .ok (.aload_n 0, 1) := by decide +kernel
theorem dMd_last_43 : decode cMd_last 43 = .ok (.getfield 88, 3) := by decide +kernel
theorem dMd_last_46 : decode cMd_last 46 = .ok (.goto 16, 3) := by decide +kernel
theorem dMd_last_49 : decode cMd_last 49 = .ok (.iload_n 1, 1) := by decide +kernel
theorem dMd_last_50 : decode cMd_last 50 = .ok (.iconst 3, 1) := by decide +kernel
theorem dMd_last_51 : decode cMd_last 51 = .ok (.if_icmp .ne 10, 3) := by decide +kernel
theorem dMd_last_54 : decode cMd_last 54 = .ok (.aload_n 0, 1) := by decide +kernel
theorem dMd_last_55 : decode cMd_last 55 = .ok (.getfield 91, 3) := by decide +kernel
theorem dMd_last_58 : decode cMd_last 58 = .ok (.goto 4, 3) := by decide +kernel
theorem dMd_last_61 : decode cMd_last 61 = .ok (.iconst (-1), 1) := by decide +kernel
theorem dMd_last_62 : decode cMd_last 62 = .ok (.ireturn, 1) := by decide +kernel
theorem dMd_ends_0 : decode cMd_ends 0 = .ok (.aload_n 0, 1) := by decide +kernel
theorem dMd_ends_1 : decode cMd_ends 1 = .ok (.iconst 0, 1) := by decide +kernel
theorem dMd_ends_2 : decode cMd_ends 2 = .ok (.putfield 44, 3) := by decide +kernel
theorem dMd_ends_5 : decode cMd_ends 5 = .ok (.aload_n 0, 1) := by decide +kernel
theorem dMd_ends_6 : decode cMd_ends 6 = .ok (.getfield 97, 3) := by decide +kernel
theorem dMd_ends_9 : decode cMd_ends 9 = .ok (.ireturn, 1) := by decide +kernel
theorem dMd_count_0 : decode cMd_count 0 = .ok (.aload_n 0, 1) := by decide +kernel
theorem dMd_count_1 : decode cMd_count 1 = .ok (.iconst 0, 1) := by decide +kernel
theorem dMd_count_2 : decode cMd_count 2 = .ok (.putfield 44, 3) := by decide +kernel
theorem dMd_count_5 : decode cMd_count 5 = .ok (.iload_n 1, 1) := by decide +kernel
theorem dMd_count_6 : decode cMd_count 6 = .ok (.tableswitch 73 0 5 #[38, 43, 48, 53, 58, 63], 38) := by decide +kernel
theorem dMd_count_44 : decode cMd_count 44 = .ok (.aload_n 0, 1) := by decide +kernel
theorem dMd_count_45 : decode cMd_count 45 = .ok (.getfield 48, 3) := by decide +kernel
theorem dMd_count_48 : decode cMd_count 48 = .ok (.ireturn, 1) := by decide +kernel
theorem dMd_count_49 : decode cMd_count 49 = .ok (.aload_n 0, 1) := by decide +kernel
theorem dMd_count_50 : decode cMd_count 50 = .ok (.getfield 61, 3) := by decide +kernel
theorem dMd_count_53 : decode cMd_count 53 = .ok (.ireturn, 1) := by decide +kernel
theorem dMd_count_54 : decode cMd_count 54 = .ok (.aload_n 0, 1) := by decide +kernel
theorem dMd_count_55 : decode cMd_count 55 = .ok (.getfield 58, 3) := by decide +kernel
theorem dMd_count_58 : decode cMd_count 58 = .ok (.ireturn, 1) := by decide +kernel
theorem dMd_count_59 : decode cMd_count 59 = .ok (.aload_n 0, 1) := by decide +kernel
theorem dMd_count_60 : decode cMd_count 60 = .ok (.getfield 72, 3) := by decide +kernel
theorem dMd_count_63 : decode cMd_count 63 = .ok (.ireturn, 1) := by decide +kernel
theorem dMd_count_64 : decode cMd_count 64 = .ok (.aload_n 0, 1) := by decide +kernel
theorem dMd_count_65 : decode cMd_count 65 = .ok (.getfield 75, 3) := by decide +kernel
theorem dMd_count_68 : decode cMd_count 68 = .ok (.ireturn, 1) := by decide +kernel
theorem dMd_count_69 : decode cMd_count 69 = .ok (.aload_n 0, 1) := by decide +kernel
theorem dMd_count_70 : decode cMd_count 70 = .ok (.getfield 75, 3) := by decide +kernel
theorem dMd_count_73 : decode cMd_count 73 = .ok (.aload_n 0, 1) := by decide +kernel
theorem dMd_count_74 : decode cMd_count 74 = .ok (.getfield 94, 3) := by decide +kernel
theorem dMd_count_77 : decode cMd_count 77 = .ok (.isub, 1) := by decide +kernel
theorem dMd_count_78 : decode cMd_count 78 = .ok (.ireturn, 1) := by decide +kernel
theorem dMd_count_79 : decode cMd_count 79 = .ok (.iconst (-1), 1) := by decide +kernel
theorem dMd_count_80 : decode cMd_count 80 = .ok (.ireturn, 1) := by decide +kernel
