theorem dX3_init_0 : decode cX3_init 0 = .ok (.aload_n 0, 1) := by decide +kernel
theorem dX3_init_1 : decode cX3_init 1 = .ok (.invokespecial 1, 3) := by decide +kernel
theorem dX3_init_4 : decode cX3_init 4 = .ok (.aload_n 0, 1) := by decide +kernel
theorem dX3_init_5 : decode cX3_init 5 = .ok (.bipush 8, 2) := by decide +kernel
theorem dX3_init_7 : decode cX3_init 7 = .ok (.newarray .int, 2) := by decide +kernel
theorem dX3_init_9 : decode cX3_init 9 = .ok (.putfield 7, 3) := by decide +kernel
theorem dX3_init_12 : decode cX3_init 12 = .ok (.aload_n 0, 1) := by decide +kernel
theorem dX3_init_13 : decode cX3_init 13 = .ok (.bipush 8, 2) := by decide +kernel
theorem dX3_init_15 : decode cX3_init 15 = .ok (.newarray .int, 2) := by decide +kernel
theorem dX3_init_17 : decode cX3_init 17 = .ok (.putfield 13, 3) := by decide +kernel
theorem dX3_init_20 : decode cX3_init 20 = .ok (.aload_n 0, 1) := by decide +kernel
theorem dX3_init_21 : decode cX3_init 21 = .ok (.sipush 2048, 3) := by decide +kernel
theorem dX3_init_24 : decode cX3_init 24 = .ok (.newarray .int, 2) := by decide +kernel
theorem dX3_init_26 : decode cX3_init 26 = .ok (.putfield 16, 3) := by decide +kernel
theorem dX3_init_29 : decode cX3_init 29 = .ok (.aload_n 0, 1) := by decide +kernel
theorem dX3_init_30 : decode cX3_init 30 = .ok (.iconst (-1), 1) := by decide +kernel
theorem dX3_init_31 : decode cX3_init 31 = .ok (.putfield 19, 3) := by decide +kernel
theorem dX3_init_34 : decode cX3_init 34 = .ok (.aload_n 0, 1) := by decide +kernel
theorem dX3_init_35 : decode cX3_init 35 = .ok (.iconst 4, 1) := by decide +kernel
theorem dX3_init_36 : decode cX3_init 36 = .ok (.newarray .int, 2) := by decide +kernel
theorem dX3_init_38 : decode cX3_init 38 = .ok (.putfield 23, 3) := by decide +kernel
theorem dX3_init_41 : decode cX3_init 41 = .ok (.aload_n 0, 1) := by decide +kernel
theorem dX3_init_42 : decode cX3_init 42 = .ok (.iconst 4, 1) := by decide +kernel
theorem dX3_init_43 : decode cX3_init 43 = .ok (.newarray .int, 2) := by decide +kernel
theorem dX3_init_45 : decode cX3_init 45 = .ok (.putfield 26, 3) := by decide +kernel
theorem dX3_init_48 : decode cX3_init 48 = .ok (.aload_n 0, 1) := by decide +kernel
theorem dX3_init_49 : decode cX3_init 49 = .ok (.iconst 4, 1) := by decide +kernel
theorem dX3_init_50 : decode cX3_init 50 = .ok (.newarray .int, 2) := by decide +kernel
theorem dX3_init_52 : decode cX3_init 52 = .ok (.putfield 29, 3) := by decide +kernel
theorem dX3_init_55 : decode cX3_init 55 = .ok (.aload_n 0, 1) := by decide +kernel
theorem dX3_init_56 : decode cX3_init 56 = .ok (.iconst (-1), 1) := by decide +kernel
theorem dX3_init_57 : decode cX3_init 57 = .ok (.putfield 32, 3) := by decide +kernel
theorem dX3_init_60 : decode cX3_init 60 = .ok (.aload_n 0, 1) := by decide +kernel
theorem dX3_init_61 : decode cX3_init 61 = .ok (.iconst (-1), 1) := by decide +kernel
theorem dX3_init_62 : decode cX3_init 62 = .ok (.putfield 35, 3) := by decide +kernel
theorem dX3_init_65 : decode cX3_init 65 = .ok (.aload_n 0, 1) := by decide +kernel
theorem dX3_init_66 : decode cX3_init 66 = .ok (.iconst (-1), 1) := by decide +kernel
theorem dX3_init_67 : decode cX3_init 67 = .ok (.putfield 38, 3) := by decide +kernel
theorem dX3_init_70 : decode cX3_init 70 = .ok (.aload_n 0, 1) := by decide +kernel
theorem dX3_init_71 : decode cX3_init 71 = .ok (.sipush 256, 3) := by decide +kernel
theorem dX3_init_74 : decode cX3_init 74 = .ok (.newarray .int, 2) := by decide +kernel
theorem dX3_init_76 : decode cX3_init 76 = .ok (.putfield 41, 3) := by decide +kernel
theorem dX3_init_79 : decode cX3_init 79 = .ok (.return_, 1) := by decide +kernel
theorem dX3_done_0 : decode cX3_done 0 = .ok (.aload_n 0, 1) := by decide +kernel
theorem dX3_done_1 : decode cX3_done 1 = .ok (.iconst 0, 1) := by decide +kernel
theorem dX3_done_2 : decode cX3_done 2 = .ok (.putfield 44, 3) := by decide +kernel
theorem dX3_done_5 : decode cX3_done 5 = .ok (.iload_n 1, 1) := by decide +kernel
theorem dX3_done_6 : decode cX3_done 6 = .ok (.ireturn, 1) := by decide +kernel
theorem dX3_fails_0 : decode cX3_fails 0 = .ok (.aload_n 0, 1) := by decide +kernel
theorem dX3_fails_1 : decode cX3_fails 1 = .ok (.iload_n 1, 1) := by decide +kernel
theorem dX3_fails_2 : decode cX3_fails 2 = .ok (.putfield 44, 3) := by decide +kernel
theorem dX3_fails_5 : decode cX3_fails 5 = .ok (.iload_n 2, 1) := by decide +kernel
theorem dX3_fails_6 : decode cX3_fails 6 = .ok (.ireturn, 1) := by decide +kernel
theorem dX3_isReel_0 : decode cX3_isReel 0 = .ok (.iload_n 1, 1) := by decide +kernel
theorem dX3_isReel_1 : decode cX3_isReel 1 = .ok (.ifCond .lt 15, 3) := by decide +kernel
theorem dX3_isReel_4 : decode cX3_isReel 4 = .ok (.iload_n 1, 1) := by decide +kernel
theorem dX3_isReel_5 : decode cX3_isReel 5 = .ok (.aload_n 0, 1) := by decide +kernel
theorem dX3_isReel_6 : decode cX3_isReel 6 = .ok (.getfield 47, 3) := by decide +kernel
theorem dX3_isReel_9 : decode cX3_isReel 9 = .ok (.if_icmp .ge 7, 3) := by decide +kernel
theorem dX3_isReel_12 : decode cX3_isReel 12 = .ok (.iconst 1, 1) := by decide +kernel
theorem dX3_isReel_13 : decode cX3_isReel 13 = .ok (.goto 4, 3) := by decide +kernel
theorem dX3_isReel_16 : decode cX3_isReel 16 = .ok (.iconst 0, 1) := by decide +kernel
theorem dX3_isReel_17 : decode cX3_isReel 17 = .ok (.ireturn, 1) := by decide +kernel
theorem dX3_isTrack_0 : decode cX3_isTrack 0 = .ok (.iload_n 1, 1) := by decide +kernel
theorem dX3_isTrack_1 : decode cX3_isTrack 1 = .ok (.ifCond .lt 12, 3) := by decide +kernel
theorem dX3_isTrack_4 : decode cX3_isTrack 4 = .ok (.iload_n 1, 1) := by decide +kernel
theorem dX3_isTrack_5 : decode cX3_isTrack 5 = .ok (.iconst 4, 1) := by decide +kernel
theorem dX3_isTrack_6 : decode cX3_isTrack 6 = .ok (.if_icmp .ge 7, 3) := by decide +kernel
theorem dX3_isTrack_9 : decode cX3_isTrack 9 = .ok (.iconst 1, 1) := by decide +kernel
theorem dX3_isTrack_10 : decode cX3_isTrack 10 = .ok (.goto 4, 3) := by decide +kernel
theorem dX3_isTrack_13 : decode cX3_isTrack 13 = .ok (.iconst 0, 1) := by decide +kernel
theorem dX3_isTrack_14 : decode cX3_isTrack 14 = .ok (.ireturn, 1) := by decide +kernel
theorem dX3_isThere_0 : decode cX3_isThere 0 = .ok (.aload_n 0, 1) := by decide +kernel
theorem dX3_isThere_1 : decode cX3_isThere 1 = .ok (.getfield 13, 3) := by decide +kernel
theorem dX3_isThere_4 : decode cX3_isThere 4 = .ok (.iload_n 1, 1) := by decide +kernel
theorem dX3_isThere_5 : decode cX3_isThere 5 = .ok (.iaload, 1) := by decide +kernel
theorem dX3_isThere_6 : decode cX3_isThere 6 = .ok (.iload_n 2, 1) := by decide +kernel
theorem dX3_isThere_7 : decode cX3_isThere 7 = .ok (.ishr, 1) := by decide +kernel
theorem dX3_isThere_8 : decode cX3_isThere 8 = .ok (.iconst 1, 1) := by decide +kernel
theorem dX3_isThere_9 : decode cX3_isThere 9 = .ok (.iand, 1) := by decide +kernel
theorem dX3_isThere_10 : decode cX3_isThere 10 = .ok (.iconst 1, 1) := by decide +kernel
theorem dX3_isThere_11 : decode cX3_isThere 11 = .ok (.if_icmp .ne 7, 3) := by decide +kernel
theorem dX3_isThere_14 : decode cX3_isThere 14 = .ok (.iconst 1, 1) := by decide +kernel
theorem dX3_isThere_15 : decode cX3_isThere 15 = .ok (.goto 4, 3) := by decide +kernel
theorem dX3_isThere_18 : decode cX3_isThere 18 = .ok (.iconst 0, 1) := by decide +kernel
theorem dX3_isThere_19 : decode cX3_isThere 19 = .ok (.ireturn, 1) := by decide +kernel
theorem dX3_at_0 : decode cX3_at 0 = .ok (.iconst 4, 1) := by decide +kernel
theorem dX3_at_1 : decode cX3_at 1 = .ok (.iload_n 1, 1) := by decide +kernel
theorem dX3_at_2 : decode cX3_at 2 = .ok (.imul, 1) := by decide +kernel
theorem dX3_at_3 : decode cX3_at 3 = .ok (.iload_n 2, 1) := by decide +kernel
theorem dX3_at_4 : decode cX3_at 4 = .ok (.iadd, 1) := by decide +kernel
theorem dX3_at_5 : decode cX3_at 5 = .ok (.bipush 64, 2) := by decide +kernel
theorem dX3_at_7 : decode cX3_at 7 = .ok (.imul, 1) := by decide +kernel
theorem dX3_at_8 : decode cX3_at 8 = .ok (.iload_n 3, 1) := by decide +kernel
theorem dX3_at_9 : decode cX3_at 9 = .ok (.iadd, 1) := by decide +kernel
theorem dX3_at_10 : decode cX3_at 10 = .ok (.ireturn, 1) := by decide +kernel
set_option maxRecDepth 20000 in
theorem ggX3_fault_X3_isThere : GoodIn wsX3_fault wsX3_isThere := goodIn_r _ [6, 7, 8, 9, 10, 11, 12, 13, 14, 15, 16, 17, 18, 19, 20, 21, 22, 23, 24] (by decide +kernel) (by decide +kernel)
set_option maxRecDepth 20000 in
theorem gX3_fault_X3_isThere : GoodIn wsX3_fault (wsV RX3 50 RX3 yX3_isThere wsX3_isThere) := goodIn_app (goodIn_of _ (by decide +kernel)) ggX3_fault_X3_isThere
theorem dX3_fault_0 : decode cX3_fault 0 = .ok (.aload_n 0, 1) := by decide +kernel
theorem dX3_fault_1 : decode cX3_fault 1 = .ok (.iload_n 1, 1) := by decide +kernel
theorem dX3_fault_2 : decode cX3_fault 2 = .ok (.iload_n 2, 1) := by decide +kernel
theorem dX3_fault_3 : decode cX3_fault 3 = .ok (.invokevirtual 50, 3) := by decide +kernel
theorem dX3_fault_6 : decode cX3_fault 6 = .ok (.ifCond .ne 5, 3) := by decide +kernel
theorem dX3_fault_9 : decode cX3_fault 9 = .ok (.iconst 2, 1) := by decide +kernel
theorem dX3_fault_10 : decode cX3_fault 10 = .ok (.ireturn, 1) := by decide +kernel
theorem dX3_fault_11 : decode cX3_fault 11 = .ok (.iload_n 3, 1) := by decide +kernel
theorem dX3_fault_12 : decode cX3_fault 12 = .ok (.ifCond .lt 13, 3) := by decide +kernel
theorem dX3_fault_15 : decode cX3_fault 15 = .ok (.iload_n 3, 1) := by decide +kernel
theorem dX3_fault_16 : decode cX3_fault 16 = .ok (.aload_n 0, 1) := by decide +kernel
theorem dX3_fault_17 : decode cX3_fault 17 = .ok (.getfield 7, 3) := by decide +kernel
theorem dX3_fault_20 : decode cX3_fault 20 = .ok (.iload_n 1, 1) := by decide +kernel
theorem dX3_fault_21 : decode cX3_fault 21 = .ok (.iaload, 1) := by decide +kernel
theorem dX3_fault_22 : decode cX3_fault 22 = .ok (.if_icmp .lt 7, 3) := by decide +kernel
theorem dX3_fault_25 : decode cX3_fault 25 = .ok (.iconst 3, 1) := by decide +kernel
theorem dX3_fault_26 : decode cX3_fault 26 = .ok (.goto 4, 3) := by decide +kernel
theorem dX3_fault_29 : decode cX3_fault 29 = .ok (.iconst 0, 1) := by decide +kernel
theorem dX3_fault_30 : decode cX3_fault 30 = .ok (.ireturn, 1) := by decide +kernel
theorem dX3_fit_0 : decode cX3_fit 0 = .ok (.iload_n 1, 1) := by decide +kernel
theorem dX3_fit_1 : decode cX3_fit 1 = .ok (.ifCond .ne 8, 3) := by decide +kernel
theorem dX3_fit_4 : decode cX3_fit 4 = .ok (.iload_n 2, 1) := by decide +kernel
theorem dX3_fit_5 : decode cX3_fit 5 = .ok (.ldc 54, 2) := by decide +kernel
theorem dX3_fit_7 : decode cX3_fit 7 = .ok (.iand, 1) := by decide +kernel
theorem dX3_fit_8 : decode cX3_fit 8 = .ok (.ireturn, 1) := by decide +kernel
theorem dX3_fit_9 : decode cX3_fit 9 = .ok (.iload_n 1, 1) := by decide +kernel
theorem dX3_fit_10 : decode cX3_fit 10 = .ok (.iconst 1, 1) := by decide +kernel
theorem dX3_fit_11 : decode cX3_fit 11 = .ok (.if_icmp .ne 14, 3) := by decide +kernel
theorem dX3_fit_14 : decode cX3_fit 14 = .ok (.iload_n 2, 1) := by decide +kernel
theorem dX3_fit_15 : decode cX3_fit 15 = .ok (.ldc 54, 2) := by decide +kernel
theorem dX3_fit_17 : decode cX3_fit 17 = .ok (.iand, 1) := by decide +kernel
theorem dX3_fit_18 : decode cX3_fit 18 = .ok (.ldc 55, 2) := by decide +kernel
theorem dX3_fit_20 : decode cX3_fit 20 = .ok (.ixor, 1) := by decide +kernel
theorem dX3_fit_21 : decode cX3_fit 21 = .ok (.ldc 55, 2) := by decide +kernel
theorem dX3_fit_23 : decode cX3_fit 23 = .ok (.isub, 1) := by decide +kernel
theorem dX3_fit_24 : decode cX3_fit 24 = .ok (.ireturn, 1) := by decide +kernel
theorem dX3_fit_25 : decode cX3_fit 25 = .ok (.iload_n 1, 1) := by decide +kernel
theorem dX3_fit_26 : decode cX3_fit 26 = .ok (.iconst 2, 1) := by decide +kernel
theorem dX3_fit_27 : decode cX3_fit 27 = .ok (.if_icmp .ne 29, 3) := by decide +kernel
theorem dX3_fit_30 : decode cX3_fit 30 = .ok (.iload_n 2, 1) := by decide +kernel
theorem dX3_fit_31 : decode cX3_fit 31 = .ok (.sipush (-32768), 3) := by decide +kernel
theorem dX3_fit_34 : decode cX3_fit 34 = .ok (.if_icmp .ge 9, 3) := by decide +kernel
theorem dX3_fit_37 : decode cX3_fit 37 = .ok (.sipush (-32768), 3) := by decide +kernel
theorem dX3_fit_40 : decode cX3_fit 40 = .ok (.goto 15, 3) := by decide +kernel
theorem dX3_fit_43 : decode cX3_fit 43 = .ok (.iload_n 2, 1) := by decide +kernel
theorem dX3_fit_44 : decode cX3_fit 44 = .ok (.ldc 55, 2) := by decide +kernel
theorem dX3_fit_46 : decode cX3_fit 46 = .ok (.if_icmp .le 8, 3) := by decide +kernel
theorem dX3_fit_49 : decode cX3_fit 49 = .ok (.ldc 55, 2) := by decide +kernel
theorem dX3_fit_51 : decode cX3_fit 51 = .ok (.goto 4, 3) := by decide +kernel
theorem dX3_fit_54 : decode cX3_fit 54 = .ok (.iload_n 2, 1) := by decide +kernel
theorem dX3_fit_55 : decode cX3_fit 55 = .ok (.ireturn, 1) := by decide +kernel
theorem dX3_fit_56 : decode cX3_fit 56 = .ok (.iload_n 2, 1) := by decide +kernel
theorem dX3_fit_57 : decode cX3_fit 57 = .ok (.iconst 1, 1) := by decide +kernel
theorem dX3_fit_58 : decode cX3_fit 58 = .ok (.iand, 1) := by decide +kernel
theorem dX3_fit_59 : decode cX3_fit 59 = .ok (.ireturn, 1) := by decide +kernel
theorem dX3_place_0 : decode cX3_place 0 = .ok (.aload_n 0, 1) := by decide +kernel
theorem dX3_place_1 : decode cX3_place 1 = .ok (.getfield 56, 3) := by decide +kernel
theorem dX3_place_4 : decode cX3_place 4 = .ok (.aload_n 0, 1) := by decide +kernel
theorem dX3_place_5 : decode cX3_place 5 = .ok (.getfield 23, 3) := by decide +kernel
theorem dX3_place_8 : decode cX3_place 8 = .ok (.iload_n 1, 1) := by decide +kernel
theorem dX3_place_9 : decode cX3_place 9 = .ok (.iaload, 1) := by decide +kernel
theorem dX3_place_10 : decode cX3_place 10 = .ok (.iadd, 1) := by decide +kernel
theorem dX3_place_11 : decode cX3_place 11 = .ok (.ireturn, 1) := by decide +kernel
set_option maxRecDepth 20000 in
theorem ggX3_reel_X3_fails : GoodIn wsX3_reel wsX3_fails := goodIn_r _ [8, 9, 14, 15, 16, 17, 18, 19, 20, 21, 22, 23, 24, 25, 26, 27, 28, 29, 30] (by decide +kernel) (by decide +kernel)
set_option maxRecDepth 20000 in
theorem gX3_reel_X3_fails : GoodIn wsX3_reel (wsV RX3 59 RX3 yX3_fails wsX3_fails) := goodIn_app (goodIn_of _ (by decide +kernel)) ggX3_reel_X3_fails
set_option maxRecDepth 20000 in
theorem ggX3_reel_X3_done : GoodIn wsX3_reel wsX3_done := goodIn_r _ [13, 9, 14, 15, 16, 17, 18, 19, 20, 21, 22, 23, 24, 25, 26, 27, 28, 29, 30] (by decide +kernel) (by decide +kernel)
set_option maxRecDepth 20000 in
theorem gX3_reel_X3_done : GoodIn wsX3_reel (wsV RX3 63 RX3 yX3_done wsX3_done) := goodIn_app (goodIn_of _ (by decide +kernel)) ggX3_reel_X3_done
theorem dX3_reel_0 : decode cX3_reel 0 = .ok (.iload_n 1, 1) := by decide +kernel
theorem dX3_reel_1 : decode cX3_reel 1 = .ok (.iconst 1, 1) := by decide +kernel
theorem dX3_reel_2 : decode cX3_reel 2 = .ok (.if_icmp .lt 19, 3) := by decide +kernel
theorem dX3_reel_5 : decode cX3_reel 5 = .ok (.iload_n 1, 1) := by decide +kernel
theorem dX3_reel_6 : decode cX3_reel 6 = .ok (.bipush 64, 2) := by decide +kernel
theorem dX3_reel_8 : decode cX3_reel 8 = .ok (.if_icmp .gt 13, 3) := by decide +kernel
theorem dX3_reel_11 : decode cX3_reel 11 = .ok (.iload_n 2, 1) := by decide +kernel
theorem dX3_reel_12 : decode cX3_reel 12 = .ok (.ifCond .lt 9, 3) := by decide +kernel
theorem dX3_reel_15 : decode cX3_reel 15 = .ok (.iload_n 2, 1) := by decide +kernel
theorem dX3_reel_16 : decode cX3_reel 16 = .ok (.bipush 15, 2) := by decide +kernel
theorem dX3_reel_18 : decode cX3_reel 18 = .ok (.if_icmp .le 10, 3) := by decide +kernel
theorem dX3_reel_21 : decode cX3_reel 21 = .ok (.aload_n 0, 1) := by decide +kernel
theorem dX3_reel_22 : decode cX3_reel 22 = .ok (.iconst 1, 1) := by decide +kernel
theorem dX3_reel_23 : decode cX3_reel 23 = .ok (.iconst (-1), 1) := by decide +kernel
theorem dX3_reel_24 : decode cX3_reel 24 = .ok (.invokevirtual 59, 3) := by decide +kernel
theorem dX3_reel_27 : decode cX3_reel 27 = .ok (.ireturn, 1) := by decide +kernel
theorem dX3_reel_28 : decode cX3_reel 28 = .ok (.aload_n 0, 1) := by decide +kernel
theorem dX3_reel_29 : decode cX3_reel 29 = .ok (.getfield 47, 3) := by decide +kernel
theorem dX3_reel_32 : decode cX3_reel 32 = .ok (.bipush 8, 2) := by decide +kernel
theorem dX3_reel_34 : decode cX3_reel 34 = .ok (.if_icmp .ne 10, 3) := by decide +kernel
theorem dX3_reel_37 : decode cX3_reel 37 = .ok (.aload_n 0, 1) := by decide +kernel
theorem dX3_reel_38 : decode cX3_reel 38 = .ok (.iconst 5, 1) := by decide +kernel
theorem dX3_reel_39 : decode cX3_reel 39 = .ok (.iconst (-1), 1) := by decide +kernel
theorem dX3_reel_40 : decode cX3_reel 40 = .ok (.invokevirtual 59, 3) := by decide +kernel
theorem dX3_reel_43 : decode cX3_reel 43 = .ok (.ireturn, 1) := by decide +kernel
theorem dX3_reel_44 : decode cX3_reel 44 = .ok (.aload_n 0, 1) := by decide +kernel
theorem dX3_reel_45 : decode cX3_reel 45 = .ok (.getfield 7, 3) := by decide +kernel
theorem dX3_reel_48 : decode cX3_reel 48 = .ok (.aload_n 0, 1) := by decide +kernel
theorem dX3_reel_49 : decode cX3_reel 49 = .ok (.getfield 47, 3) := by decide +kernel
theorem dX3_reel_52 : decode cX3_reel 52 = .ok (.iload_n 1, 1) := by decide +kernel
theorem dX3_reel_53 : decode cX3_reel 53 = .ok (.iastore, 1) := by decide +kernel
theorem dX3_reel_54 : decode cX3_reel 54 = .ok (.aload_n 0, 1) := by decide +kernel
theorem dX3_reel_55 : decode cX3_reel 55 = .ok (.getfield 13, 3) := by decide +kernel
theorem dX3_reel_58 : decode cX3_reel 58 = .ok (.aload_n 0, 1) := by decide +kernel
theorem dX3_reel_59 : decode cX3_reel 59 = .ok (.getfield 47, 3) := by decide +kernel
theorem dX3_reel_62 : decode cX3_reel 62 = .ok (.iload_n 2, 1) := by decide +kernel
theorem dX3_reel_63 : decode cX3_reel 63 = .ok (.iastore, 1) := by decide +kernel
theorem dX3_reel_64 : decode cX3_reel 64 = .ok (.aload_n 0, 1) := by decide +kernel
theorem dX3_reel_65 : decode cX3_reel 65 = .ok (.dup, 1) := by decide +kernel
theorem dX3_reel_66 : decode cX3_reel 66 = .ok (.getfield 47, 3) := by decide +kernel
theorem dX3_reel_69 : decode cX3_reel 69 = .ok (.iconst 1, 1) := by decide +kernel
theorem dX3_reel_70 : decode cX3_reel 70 = .ok (.iadd, 1) := by decide +kernel
theorem dX3_reel_71 : decode cX3_reel 71 = .ok (.putfield 47, 3) := by decide +kernel
theorem dX3_reel_74 : decode cX3_reel 74 = .ok (.aload_n 0, 1) := by decide +kernel
theorem dX3_reel_75 : decode cX3_reel 75 = .ok (.aload_n 0, 1) := by decide +kernel
theorem dX3_reel_76 : decode cX3_reel 76 = .ok (.getfield 47, 3) := by decide +kernel
theorem dX3_reel_79 : decode cX3_reel 79 = .ok (.iconst 1, 1) := by decide +kernel
theorem dX3_reel_80 : decode cX3_reel 80 = .ok (.isub, 1) := by decide +kernel
theorem dX3_reel_81 : decode cX3_reel 81 = .ok (.invokevirtual 63, 3) := by decide +kernel
theorem dX3_reel_84 : decode cX3_reel 84 = .ok (.ireturn, 1) := by decide +kernel
set_option maxRecDepth 20000 in
theorem ggX3_strip_X3_isReel : GoodIn wsX3_strip wsX3_isReel := goodIn_r _ [6, 7, 25, 26, 27, 28, 29, 30, 31, 32, 33, 34, 35, 36, 37, 38, 39, 40, 41] (by decide +kernel) (by decide +kernel)
set_option maxRecDepth 20000 in
theorem gX3_strip_X3_isReel : GoodIn wsX3_strip (wsV RX3 67 RX3 yX3_isReel wsX3_isReel) := goodIn_app (goodIn_of _ (by decide +kernel)) ggX3_strip_X3_isReel
set_option maxRecDepth 20000 in
theorem ggX3_strip_X3_isTrack : GoodIn wsX3_strip wsX3_isTrack := goodIn_r _ [11] (by decide +kernel) (by decide +kernel)
set_option maxRecDepth 20000 in
theorem gX3_strip_X3_isTrack : GoodIn wsX3_strip (wsV RX3 71 RX3 yX3_isTrack wsX3_isTrack) := goodIn_app (goodIn_of _ (by decide +kernel)) ggX3_strip_X3_isTrack
set_option maxRecDepth 20000 in
theorem ggX3_strip_X3_fails : GoodIn wsX3_strip wsX3_fails := goodIn_r _ [15, 16, 25, 26, 27, 28, 29, 30, 31, 32, 33, 34, 35, 36, 37, 38, 39, 40, 41] (by decide +kernel) (by decide +kernel)
set_option maxRecDepth 20000 in
theorem gX3_strip_X3_fails : GoodIn wsX3_strip (wsV RX3 59 RX3 yX3_fails wsX3_fails) := goodIn_app (goodIn_of _ (by decide +kernel)) ggX3_strip_X3_fails
set_option maxRecDepth 20000 in
theorem ggX3_strip_X3_isThere : GoodIn wsX3_strip wsX3_isThere := goodIn_r _ [20, 1, 25, 26, 27, 28, 29, 30, 31, 32, 33, 34, 35, 36, 37, 38, 39, 40, 41] (by decide +kernel) (by decide +kernel)
set_option maxRecDepth 20000 in
theorem gX3_strip_X3_isThere : GoodIn wsX3_strip (wsV RX3 50 RX3 yX3_isThere wsX3_isThere) := goodIn_app (goodIn_of _ (by decide +kernel)) ggX3_strip_X3_isThere
set_option maxRecDepth 20000 in
theorem ggX3_strip_X3_done : GoodIn wsX3_strip wsX3_done := goodIn_r _ [24, 16, 25, 26, 27, 28, 29, 30, 31, 32, 33, 34, 35, 36, 37, 38, 39, 40, 41] (by decide +kernel) (by decide +kernel)
set_option maxRecDepth 20000 in
theorem gX3_strip_X3_done : GoodIn wsX3_strip (wsV RX3 63 RX3 yX3_done wsX3_done) := goodIn_app (goodIn_of _ (by decide +kernel)) ggX3_strip_X3_done
theorem dX3_strip_0 : decode cX3_strip 0 = .ok (.aload_n 0, 1) := by decide +kernel
theorem dX3_strip_1 : decode cX3_strip 1 = .ok (.iload_n 1, 1) := by decide +kernel
theorem dX3_strip_2 : decode cX3_strip 2 = .ok (.invokevirtual 67, 3) := by decide +kernel
theorem dX3_strip_5 : decode cX3_strip 5 = .ok (.ifCond .eq 11, 3) := by decide +kernel
theorem dX3_strip_8 : decode cX3_strip 8 = .ok (.aload_n 0, 1) := by decide +kernel
theorem dX3_strip_9 : decode cX3_strip 9 = .ok (.iload_n 2, 1) := by decide +kernel
theorem dX3_strip_10 : decode cX3_strip 10 = .ok (.invokevirtual 71, 3) := by decide +kernel
theorem dX3_strip_13 : decode cX3_strip 13 = .ok (.ifCond .ne 10, 3) := by decide +kernel
theorem dX3_strip_16 : decode cX3_strip 16 = .ok (.aload_n 0, 1) := by decide +kernel
theorem dX3_strip_17 : decode cX3_strip 17 = .ok (.iconst 1, 1) := by decide +kernel
theorem dX3_strip_18 : decode cX3_strip 18 = .ok (.iconst (-1), 1) := by decide +kernel
theorem dX3_strip_19 : decode cX3_strip 19 = .ok (.invokevirtual 59, 3) := by decide +kernel
theorem dX3_strip_22 : decode cX3_strip 22 = .ok (.ireturn, 1) := by decide +kernel
theorem dX3_strip_23 : decode cX3_strip 23 = .ok (.aload_n 0, 1) := by decide +kernel
theorem dX3_strip_24 : decode cX3_strip 24 = .ok (.iload_n 1, 1) := by decide +kernel
theorem dX3_strip_25 : decode cX3_strip 25 = .ok (.iload_n 2, 1) := by decide +kernel
theorem dX3_strip_26 : decode cX3_strip 26 = .ok (.invokevirtual 50, 3) := by decide +kernel
theorem dX3_strip_29 : decode cX3_strip 29 = .ok (.ifCond .eq 7, 3) := by decide +kernel
theorem dX3_strip_32 : decode cX3_strip 32 = .ok (.iconst 1, 1) := by decide +kernel
theorem dX3_strip_33 : decode cX3_strip 33 = .ok (.goto 4, 3) := by decide +kernel
theorem dX3_strip_36 : decode cX3_strip 36 = .ok (.iconst 0, 1) := by decide +kernel
theorem dX3_strip_37 : decode cX3_strip 37 = .ok (.istore_n 3, 1) := by decide +kernel
theorem dX3_strip_38 : decode cX3_strip 38 = .ok (.aload_n 0, 1) := by decide +kernel
theorem dX3_strip_39 : decode cX3_strip 39 = .ok (.getfield 13, 3) := by decide +kernel
theorem dX3_strip_42 : decode cX3_strip 42 = .ok (.iload_n 1, 1) := by decide +kernel
theorem dX3_strip_43 : decode cX3_strip 43 = .ok (.aload_n 0, 1) := by decide +kernel
theorem dX3_strip_44 : decode cX3_strip 44 = .ok (.getfield 13, 3) := by decide +kernel
theorem dX3_strip_47 : decode cX3_strip 47 = .ok (.iload_n 1, 1) := by decide +kernel
theorem dX3_strip_48 : decode cX3_strip 48 = .ok (.iaload, 1) := by decide +kernel
theorem dX3_strip_49 : decode cX3_strip 49 = .ok (.iconst 1, 1) := by decide +kernel
theorem dX3_strip_50 : decode cX3_strip 50 = .ok (.iload_n 2, 1) := by decide +kernel
theorem dX3_strip_51 : decode cX3_strip 51 = .ok (.ishl, 1) := by decide +kernel
theorem dX3_strip_52 : decode cX3_strip 52 = .ok (.iconst (-1), 1) := by decide +kernel
theorem dX3_strip_53 : decode cX3_strip 53 = .ok (.ixor, 1) := by decide +kernel
theorem dX3_strip_54 : decode cX3_strip 54 = .ok (.iand, 1) := by decide +kernel
theorem dX3_strip_55 : decode cX3_strip 55 = .ok (.iastore, 1) := by decide +kernel
theorem dX3_strip_56 : decode cX3_strip 56 = .ok (.aload_n 0, 1) := by decide +kernel
theorem dX3_strip_57 : decode cX3_strip 57 = .ok (.iload_n 3, 1) := by decide +kernel
theorem dX3_strip_58 : decode cX3_strip 58 = .ok (.invokevirtual 63, 3) := by decide +kernel
theorem dX3_strip_61 : decode cX3_strip 61 = .ok (.ireturn, 1) := by decide +kernel
set_option maxRecDepth 20000 in
theorem ggX3_lay_X3_isReel : GoodIn wsX3_lay wsX3_isReel := goodIn_r _ [7, 8, 30, 31, 32, 33, 34, 35, 36, 37, 38, 39, 40, 41, 42, 43, 44, 45, 46] (by decide +kernel) (by decide +kernel)
set_option maxRecDepth 20000 in
theorem gX3_lay_X3_isReel : GoodIn wsX3_lay (wsV RX3 67 RX3 yX3_isReel wsX3_isReel) := goodIn_app (goodIn_of _ (by decide +kernel)) ggX3_lay_X3_isReel
set_option maxRecDepth 20000 in
theorem ggX3_lay_X3_isTrack : GoodIn wsX3_lay wsX3_isTrack := goodIn_r _ [12] (by decide +kernel) (by decide +kernel)
set_option maxRecDepth 20000 in
theorem gX3_lay_X3_isTrack : GoodIn wsX3_lay (wsV RX3 71 RX3 yX3_isTrack wsX3_isTrack) := goodIn_app (goodIn_of _ (by decide +kernel)) ggX3_lay_X3_isTrack
set_option maxRecDepth 20000 in
theorem ggX3_lay_X3_fails : GoodIn wsX3_lay wsX3_fails := goodIn_r _ [16, 17, 30, 31, 32, 33, 34, 35, 36, 37, 38, 39, 40, 41, 42, 43, 44, 45, 46] (by decide +kernel) (by decide +kernel)
set_option maxRecDepth 20000 in
theorem gX3_lay_X3_fails : GoodIn wsX3_lay (wsV RX3 59 RX3 yX3_fails wsX3_fails) := goodIn_app (goodIn_of _ (by decide +kernel)) ggX3_lay_X3_fails
set_option maxRecDepth 20000 in
theorem ggX3_lay_X3_isThere : GoodIn wsX3_lay wsX3_isThere := goodIn_r _ [21, 1, 30, 31, 32, 33, 34, 35, 36, 37, 38, 39, 40, 41, 42, 43, 44, 45, 46] (by decide +kernel) (by decide +kernel)
set_option maxRecDepth 20000 in
theorem gX3_lay_X3_isThere : GoodIn wsX3_lay (wsV RX3 50 RX3 yX3_isThere wsX3_isThere) := goodIn_app (goodIn_of _ (by decide +kernel)) ggX3_lay_X3_isThere
set_option maxRecDepth 20000 in
theorem ggX3_lay_X3_at : GoodIn wsX3_lay wsX3_at := goodIn_r _ [25] (by decide +kernel) (by decide +kernel)
set_option maxRecDepth 20000 in
theorem gX3_lay_X3_at : GoodIn wsX3_lay (wsV RX3 74 RX3 yX3_at wsX3_at) := goodIn_app (goodIn_of _ (by decide +kernel)) ggX3_lay_X3_at
set_option maxRecDepth 20000 in
theorem ggX3_lay_X3_done : GoodIn wsX3_lay wsX3_done := goodIn_r _ [29, 17, 30, 31, 32, 33, 34, 35, 36, 37, 38, 39, 40, 41, 42, 43, 44, 45, 46] (by decide +kernel) (by decide +kernel)
set_option maxRecDepth 20000 in
theorem gX3_lay_X3_done : GoodIn wsX3_lay (wsV RX3 63 RX3 yX3_done wsX3_done) := goodIn_app (goodIn_of _ (by decide +kernel)) ggX3_lay_X3_done
theorem dX3_lay_0 : decode cX3_lay 0 = .ok (.aload_n 0, 1) := by decide +kernel
theorem dX3_lay_1 : decode cX3_lay 1 = .ok (.iload_n 1, 1) := by decide +kernel
theorem dX3_lay_2 : decode cX3_lay 2 = .ok (.invokevirtual 67, 3) := by decide +kernel
theorem dX3_lay_5 : decode cX3_lay 5 = .ok (.ifCond .eq 11, 3) := by decide +kernel
theorem dX3_lay_8 : decode cX3_lay 8 = .ok (.aload_n 0, 1) := by decide +kernel
theorem dX3_lay_9 : decode cX3_lay 9 = .ok (.iload_n 2, 1) := by decide +kernel
theorem dX3_lay_10 : decode cX3_lay 10 = .ok (.invokevirtual 71, 3) := by decide +kernel
theorem dX3_lay_13 : decode cX3_lay 13 = .ok (.ifCond .ne 10, 3) := by decide +kernel
theorem dX3_lay_16 : decode cX3_lay 16 = .ok (.aload_n 0, 1) := by decide +kernel
theorem dX3_lay_17 : decode cX3_lay 17 = .ok (.iconst 1, 1) := by decide +kernel
theorem dX3_lay_18 : decode cX3_lay 18 = .ok (.iconst (-1), 1) := by decide +kernel
theorem dX3_lay_19 : decode cX3_lay 19 = .ok (.invokevirtual 59, 3) := by decide +kernel
theorem dX3_lay_22 : decode cX3_lay 22 = .ok (.ireturn, 1) := by decide +kernel
theorem dX3_lay_23 : decode cX3_lay 23 = .ok (.aload_n 0, 1) := by decide +kernel
theorem dX3_lay_24 : decode cX3_lay 24 = .ok (.iload_n 1, 1) := by decide +kernel
theorem dX3_lay_25 : decode cX3_lay 25 = .ok (.iload_n 2, 1) := by decide +kernel
theorem dX3_lay_26 : decode cX3_lay 26 = .ok (.invokevirtual 50, 3) := by decide +kernel
theorem dX3_lay_29 : decode cX3_lay 29 = .ok (.ifCond .eq 7, 3) := by decide +kernel
theorem dX3_lay_32 : decode cX3_lay 32 = .ok (.iconst 0, 1) := by decide +kernel
theorem dX3_lay_33 : decode cX3_lay 33 = .ok (.goto 4, 3) := by decide +kernel
theorem dX3_lay_36 : decode cX3_lay 36 = .ok (.iconst 1, 1) := by decide +kernel
theorem dX3_lay_37 : decode cX3_lay 37 = .ok (.istore_n 3, 1) := by decide +kernel
theorem dX3_lay_38 : decode cX3_lay 38 = .ok (.aload_n 0, 1) := by decide +kernel
theorem dX3_lay_39 : decode cX3_lay 39 = .ok (.getfield 13, 3) := by decide +kernel
theorem dX3_lay_42 : decode cX3_lay 42 = .ok (.iload_n 1, 1) := by decide +kernel
theorem dX3_lay_43 : decode cX3_lay 43 = .ok (.aload_n 0, 1) := by decide +kernel
theorem dX3_lay_44 : decode cX3_lay 44 = .ok (.getfield 13, 3) := by decide +kernel
theorem dX3_lay_47 : decode cX3_lay 47 = .ok (.iload_n 1, 1) := by decide +kernel
theorem dX3_lay_48 : decode cX3_lay 48 = .ok (.iaload, 1) := by decide +kernel
theorem dX3_lay_49 : decode cX3_lay 49 = .ok (.iconst 1, 1) := by decide +kernel
theorem dX3_lay_50 : decode cX3_lay 50 = .ok (.iload_n 2, 1) := by decide +kernel
theorem dX3_lay_51 : decode cX3_lay 51 = .ok (.ishl, 1) := by decide +kernel
theorem dX3_lay_52 : decode cX3_lay 52 = .ok (.ior, 1) := by decide +kernel
theorem dX3_lay_53 : decode cX3_lay 53 = .ok (.iastore, 1) := by decide +kernel
theorem dX3_lay_54 : decode cX3_lay 54 = .ok (.iconst 0, 1) := by decide +kernel
theorem dX3_lay_55 : decode cX3_lay 55 = .ok (.istore 4, 2) := by decide +kernel
theorem dX3_lay_57 : decode cX3_lay 57 = .ok (.iload 4, 2) := by decide +kernel
theorem dX3_lay_59 : decode cX3_lay 59 = .ok (.bipush 64, 2) := by decide +kernel
theorem dX3_lay_61 : decode cX3_lay 61 = .ok (.if_icmp .ge 23, 3) := by decide +kernel
theorem dX3_lay_64 : decode cX3_lay 64 = .ok (.aload_n 0, 1) := by decide +kernel
theorem dX3_lay_65 : decode cX3_lay 65 = .ok (.getfield 16, 3) := by decide +kernel
theorem dX3_lay_68 : decode cX3_lay 68 = .ok (.aload_n 0, 1) := by decide +kernel
theorem dX3_lay_69 : decode cX3_lay 69 = .ok (.iload_n 1, 1) := by decide +kernel
theorem dX3_lay_70 : decode cX3_lay 70 = .ok (.iload_n 2, 1) := by decide +kernel
theorem dX3_lay_71 : decode cX3_lay 71 = .ok (.iload 4, 2) := by decide +kernel
theorem dX3_lay_73 : decode cX3_lay 73 = .ok (.invokevirtual 74, 3) := by decide +kernel
theorem dX3_lay_76 : decode cX3_lay 76 = .ok (.iconst 0, 1) := by decide +kernel
theorem dX3_lay_77 : decode cX3_lay 77 = .ok (.iastore, 1) := by decide +kernel
theorem dX3_lay_78 : decode cX3_lay 78 = .ok (.iinc 4 1, 3) := by decide +kernel
theorem dX3_lay_81 : decode cX3_lay 81 = .ok (.goto (-24), 3) := by decide +kernel
theorem dX3_lay_84 : decode cX3_lay 84 = .ok (.aload_n 0, 1) := by decide +kernel
theorem dX3_lay_85 : decode cX3_lay 85 = .ok (.iload_n 3, 1) := by decide +kernel
theorem dX3_lay_86 : decode cX3_lay 86 = .ok (.invokevirtual 63, 3) := by decide +kernel
theorem dX3_lay_89 : decode cX3_lay 89 = .ok (.ireturn, 1) := by decide +kernel
set_option maxRecDepth 20000 in
theorem ggX3_thread_X3_isReel : GoodIn wsX3_thread wsX3_isReel := goodIn_r _ [6, 7, 17, 18, 19, 20, 21, 22, 23, 24, 25, 26, 27, 28, 29, 30, 31, 32, 33] (by decide +kernel) (by decide +kernel)
set_option maxRecDepth 20000 in
theorem gX3_thread_X3_isReel : GoodIn wsX3_thread (wsV RX3 67 RX3 yX3_isReel wsX3_isReel) := goodIn_app (goodIn_of _ (by decide +kernel)) ggX3_thread_X3_isReel
set_option maxRecDepth 20000 in
theorem ggX3_thread_X3_fails : GoodIn wsX3_thread wsX3_fails := goodIn_r _ [11, 12, 17, 18, 19, 20, 21, 22, 23, 24, 25, 26, 27, 28, 29, 30, 31, 32, 33] (by decide +kernel) (by decide +kernel)
set_option maxRecDepth 20000 in
theorem gX3_thread_X3_fails : GoodIn wsX3_thread (wsV RX3 59 RX3 yX3_fails wsX3_fails) := goodIn_app (goodIn_of _ (by decide +kernel)) ggX3_thread_X3_fails
set_option maxRecDepth 20000 in
theorem ggX3_thread_X3_done : GoodIn wsX3_thread wsX3_done := goodIn_r _ [16, 12, 17, 18, 19, 20, 21, 22, 23, 24, 25, 26, 27, 28, 29, 30, 31, 32, 33] (by decide +kernel) (by decide +kernel)
set_option maxRecDepth 20000 in
theorem gX3_thread_X3_done : GoodIn wsX3_thread (wsV RX3 63 RX3 yX3_done wsX3_done) := goodIn_app (goodIn_of _ (by decide +kernel)) ggX3_thread_X3_done
theorem dX3_thread_0 : decode cX3_thread 0 = .ok (.iload_n 1, 1) := by decide +kernel
theorem dX3_thread_1 : decode cX3_thread 1 = .ok (.iconst (-1), 1) := by decide +kernel
theorem dX3_thread_2 : decode cX3_thread 2 = .ok (.if_icmp .eq 18, 3) := by decide +kernel
theorem dX3_thread_5 : decode cX3_thread 5 = .ok (.aload_n 0, 1) := by decide +kernel
theorem dX3_thread_6 : decode cX3_thread 6 = .ok (.iload_n 1, 1) := by decide +kernel
theorem dX3_thread_7 : decode cX3_thread 7 = .ok (.invokevirtual 67, 3) := by decide +kernel
theorem dX3_thread_10 : decode cX3_thread 10 = .ok (.ifCond .ne 10, 3) := by decide +kernel
theorem dX3_thread_13 : decode cX3_thread 13 = .ok (.aload_n 0, 1) := by decide +kernel
theorem dX3_thread_14 : decode cX3_thread 14 = .ok (.iconst 1, 1) := by decide +kernel
theorem dX3_thread_15 : decode cX3_thread 15 = .ok (.iconst (-1), 1) := by decide +kernel
theorem dX3_thread_16 : decode cX3_thread 16 = .ok (.invokevirtual 59, 3) := by decide +kernel
theorem dX3_thread_19 : decode cX3_thread 19 = .ok (.ireturn, 1) := by decide +kernel
theorem dX3_thread_20 : decode cX3_thread 20 = .ok (.aload_n 0, 1) := by decide +kernel
theorem dX3_thread_21 : decode cX3_thread 21 = .ok (.getfield 19, 3) := by decide +kernel
theorem dX3_thread_24 : decode cX3_thread 24 = .ok (.istore_n 2, 1) := by decide +kernel
theorem dX3_thread_25 : decode cX3_thread 25 = .ok (.aload_n 0, 1) := by decide +kernel
theorem dX3_thread_26 : decode cX3_thread 26 = .ok (.iload_n 1, 1) := by decide +kernel
theorem dX3_thread_27 : decode cX3_thread 27 = .ok (.putfield 19, 3) := by decide +kernel
theorem dX3_thread_30 : decode cX3_thread 30 = .ok (.aload_n 0, 1) := by decide +kernel
theorem dX3_thread_31 : decode cX3_thread 31 = .ok (.iload_n 2, 1) := by decide +kernel
theorem dX3_thread_32 : decode cX3_thread 32 = .ok (.invokevirtual 63, 3) := by decide +kernel
theorem dX3_thread_35 : decode cX3_thread 35 = .ok (.ireturn, 1) := by decide +kernel
set_option maxRecDepth 20000 in
theorem ggX3_head_X3_isTrack : GoodIn wsX3_head wsX3_isTrack := goodIn_r _ [6] (by decide +kernel) (by decide +kernel)
set_option maxRecDepth 20000 in
theorem gX3_head_X3_isTrack : GoodIn wsX3_head (wsV RX3 71 RX3 yX3_isTrack wsX3_isTrack) := goodIn_app (goodIn_of _ (by decide +kernel)) ggX3_head_X3_isTrack
set_option maxRecDepth 20000 in
theorem ggX3_head_X3_fails : GoodIn wsX3_head wsX3_fails := goodIn_r _ [10, 11, 16, 17, 18, 19, 20, 21, 22, 23, 24, 25, 26, 27, 28, 29, 30, 31, 32] (by decide +kernel) (by decide +kernel)
set_option maxRecDepth 20000 in
theorem gX3_head_X3_fails : GoodIn wsX3_head (wsV RX3 59 RX3 yX3_fails wsX3_fails) := goodIn_app (goodIn_of _ (by decide +kernel)) ggX3_head_X3_fails
set_option maxRecDepth 20000 in
theorem ggX3_head_X3_done : GoodIn wsX3_head wsX3_done := goodIn_r _ [15, 11, 16, 17, 18, 19, 20, 21, 22, 23, 24, 25, 26, 27, 28, 29, 30, 31, 32] (by decide +kernel) (by decide +kernel)
set_option maxRecDepth 20000 in
theorem gX3_head_X3_done : GoodIn wsX3_head (wsV RX3 63 RX3 yX3_done wsX3_done) := goodIn_app (goodIn_of _ (by decide +kernel)) ggX3_head_X3_done
theorem dX3_head_0 : decode cX3_head 0 = .ok (.aload_n 0, 1) := by decide +kernel
theorem dX3_head_1 : decode cX3_head 1 = .ok (.iload_n 1, 1) := by decide +kernel
theorem dX3_head_2 : decode cX3_head 2 = .ok (.invokevirtual 71, 3) := by decide +kernel
theorem dX3_head_5 : decode cX3_head 5 = .ok (.ifCond .eq 15, 3) := by decide +kernel
theorem dX3_head_8 : decode cX3_head 8 = .ok (.iload_n 2, 1) := by decide +kernel
theorem dX3_head_9 : decode cX3_head 9 = .ok (.bipush (-8), 2) := by decide +kernel
theorem dX3_head_11 : decode cX3_head 11 = .ok (.if_icmp .lt 9, 3) := by decide +kernel
theorem dX3_head_14 : decode cX3_head 14 = .ok (.iload_n 2, 1) := by decide +kernel
theorem dX3_head_15 : decode cX3_head 15 = .ok (.bipush 8, 2) := by decide +kernel
theorem dX3_head_17 : decode cX3_head 17 = .ok (.if_icmp .le 10, 3) := by decide +kernel
theorem dX3_head_20 : decode cX3_head 20 = .ok (.aload_n 0, 1) := by decide +kernel
theorem dX3_head_21 : decode cX3_head 21 = .ok (.iconst 1, 1) := by decide +kernel
theorem dX3_head_22 : decode cX3_head 22 = .ok (.iconst 0, 1) := by decide +kernel
theorem dX3_head_23 : decode cX3_head 23 = .ok (.invokevirtual 59, 3) := by decide +kernel
theorem dX3_head_26 : decode cX3_head 26 = .ok (.ireturn, 1) := by decide +kernel
theorem dX3_head_27 : decode cX3_head 27 = .ok (.aload_n 0, 1) := by decide +kernel
theorem dX3_head_28 : decode cX3_head 28 = .ok (.getfield 23, 3) := by decide +kernel
theorem dX3_head_31 : decode cX3_head 31 = .ok (.iload_n 1, 1) := by decide +kernel
theorem dX3_head_32 : decode cX3_head 32 = .ok (.iaload, 1) := by decide +kernel
theorem dX3_head_33 : decode cX3_head 33 = .ok (.istore_n 3, 1) := by decide +kernel
theorem dX3_head_34 : decode cX3_head 34 = .ok (.aload_n 0, 1) := by decide +kernel
theorem dX3_head_35 : decode cX3_head 35 = .ok (.getfield 23, 3) := by decide +kernel
theorem dX3_head_38 : decode cX3_head 38 = .ok (.iload_n 1, 1) := by decide +kernel
theorem dX3_head_39 : decode cX3_head 39 = .ok (.iload_n 2, 1) := by decide +kernel
theorem dX3_head_40 : decode cX3_head 40 = .ok (.iastore, 1) := by decide +kernel
theorem dX3_head_41 : decode cX3_head 41 = .ok (.aload_n 0, 1) := by decide +kernel
theorem dX3_head_42 : decode cX3_head 42 = .ok (.iload_n 3, 1) := by decide +kernel
theorem dX3_head_43 : decode cX3_head 43 = .ok (.invokevirtual 63, 3) := by decide +kernel
theorem dX3_head_46 : decode cX3_head 46 = .ok (.ireturn, 1) := by decide +kernel
set_option maxRecDepth 20000 in
theorem ggX3_arm_X3_isTrack : GoodIn wsX3_arm wsX3_isTrack := goodIn_r _ [6] (by decide +kernel) (by decide +kernel)
set_option maxRecDepth 20000 in
theorem gX3_arm_X3_isTrack : GoodIn wsX3_arm (wsV RX3 71 RX3 yX3_isTrack wsX3_isTrack) := goodIn_app (goodIn_of _ (by decide +kernel)) ggX3_arm_X3_isTrack
set_option maxRecDepth 20000 in
theorem ggX3_arm_X3_fails : GoodIn wsX3_arm wsX3_fails := goodIn_r _ [10, 11, 16, 17, 18, 19, 20, 21, 22, 23, 24, 25, 26, 27, 28, 29, 30, 31, 32] (by decide +kernel) (by decide +kernel)
set_option maxRecDepth 20000 in
theorem gX3_arm_X3_fails : GoodIn wsX3_arm (wsV RX3 59 RX3 yX3_fails wsX3_fails) := goodIn_app (goodIn_of _ (by decide +kernel)) ggX3_arm_X3_fails
set_option maxRecDepth 20000 in
theorem ggX3_arm_X3_done : GoodIn wsX3_arm wsX3_done := goodIn_r _ [15, 11, 16, 17, 18, 19, 20, 21, 22, 23, 24, 25, 26, 27, 28, 29, 30, 31, 32] (by decide +kernel) (by decide +kernel)
set_option maxRecDepth 20000 in
theorem gX3_arm_X3_done : GoodIn wsX3_arm (wsV RX3 63 RX3 yX3_done wsX3_done) := goodIn_app (goodIn_of _ (by decide +kernel)) ggX3_arm_X3_done
theorem dX3_arm_0 : decode cX3_arm 0 = .ok (.aload_n 0, 1) := by decide +kernel
theorem dX3_arm_1 : decode cX3_arm 1 = .ok (.iload_n 1, 1) := by decide +kernel
theorem dX3_arm_2 : decode cX3_arm 2 = .ok (.invokevirtual 71, 3) := by decide +kernel
theorem dX3_arm_5 : decode cX3_arm 5 = .ok (.ifCond .eq 12, 3) := by decide +kernel
theorem dX3_arm_8 : decode cX3_arm 8 = .ok (.iload_n 2, 1) := by decide +kernel
theorem dX3_arm_9 : decode cX3_arm 9 = .ok (.ifCond .lt 8, 3) := by decide +kernel
theorem dX3_arm_12 : decode cX3_arm 12 = .ok (.iload_n 2, 1) := by decide +kernel
theorem dX3_arm_13 : decode cX3_arm 13 = .ok (.iconst 3, 1) := by decide +kernel
theorem dX3_arm_14 : decode cX3_arm 14 = .ok (.if_icmp .le 10, 3) := by decide +kernel
theorem dX3_arm_17 : decode cX3_arm 17 = .ok (.aload_n 0, 1) := by decide +kernel
theorem dX3_arm_18 : decode cX3_arm 18 = .ok (.iconst 1, 1) := by decide +kernel
theorem dX3_arm_19 : decode cX3_arm 19 = .ok (.iconst 0, 1) := by decide +kernel
theorem dX3_arm_20 : decode cX3_arm 20 = .ok (.invokevirtual 59, 3) := by decide +kernel
theorem dX3_arm_23 : decode cX3_arm 23 = .ok (.ireturn, 1) := by decide +kernel
theorem dX3_arm_24 : decode cX3_arm 24 = .ok (.aload_n 0, 1) := by decide +kernel
theorem dX3_arm_25 : decode cX3_arm 25 = .ok (.getfield 26, 3) := by decide +kernel
theorem dX3_arm_28 : decode cX3_arm 28 = .ok (.iload_n 1, 1) := by decide +kernel
theorem dX3_arm_29 : decode cX3_arm 29 = .ok (.iaload, 1) := by decide +kernel
theorem dX3_arm_30 : decode cX3_arm 30 = .ok (.istore_n 3, 1) := by decide +kernel
theorem dX3_arm_31 : decode cX3_arm 31 = .ok (.aload_n 0, 1) := by decide +kernel
theorem dX3_arm_32 : decode cX3_arm 32 = .ok (.getfield 26, 3) := by decide +kernel
theorem dX3_arm_35 : decode cX3_arm 35 = .ok (.iload_n 1, 1) := by decide +kernel
theorem dX3_arm_36 : decode cX3_arm 36 = .ok (.iload_n 2, 1) := by decide +kernel
theorem dX3_arm_37 : decode cX3_arm 37 = .ok (.iastore, 1) := by decide +kernel
theorem dX3_arm_38 : decode cX3_arm 38 = .ok (.aload_n 0, 1) := by decide +kernel
theorem dX3_arm_39 : decode cX3_arm 39 = .ok (.iload_n 3, 1) := by decide +kernel
theorem dX3_arm_40 : decode cX3_arm 40 = .ok (.invokevirtual 63, 3) := by decide +kernel
theorem dX3_arm_43 : decode cX3_arm 43 = .ok (.ireturn, 1) := by decide +kernel
set_option maxRecDepth 20000 in
theorem ggX3_source_X3_done : GoodIn wsX3_source wsX3_done := goodIn_r _ [7, 8, 9, 10, 11, 12, 13, 14, 15, 16, 17, 18, 19, 20, 21, 22, 23, 24, 25] (by decide +kernel) (by decide +kernel)
set_option maxRecDepth 20000 in
theorem gX3_source_X3_done : GoodIn wsX3_source (wsV RX3 63 RX3 yX3_done wsX3_done) := goodIn_app (goodIn_of _ (by decide +kernel)) ggX3_source_X3_done
theorem dX3_source_0 : decode cX3_source 0 = .ok (.aload_n 0, 1) := by decide +kernel
theorem dX3_source_1 : decode cX3_source 1 = .ok (.getfield 78, 3) := by decide +kernel
theorem dX3_source_4 : decode cX3_source 4 = .ok (.istore_n 3, 1) := by decide +kernel
theorem dX3_source_5 : decode cX3_source 5 = .ok (.aload_n 0, 1) := by decide +kernel
theorem dX3_source_6 : decode cX3_source 6 = .ok (.iload_n 1, 1) := by decide +kernel
theorem dX3_source_7 : decode cX3_source 7 = .ok (.putfield 78, 3) := by decide +kernel
theorem dX3_source_10 : decode cX3_source 10 = .ok (.aload_n 0, 1) := by decide +kernel
theorem dX3_source_11 : decode cX3_source 11 = .ok (.iload_n 2, 1) := by decide +kernel
theorem dX3_source_12 : decode cX3_source 12 = .ok (.putfield 81, 3) := by decide +kernel
theorem dX3_source_15 : decode cX3_source 15 = .ok (.aload_n 0, 1) := by decide +kernel
theorem dX3_source_16 : decode cX3_source 16 = .ok (.iload_n 3, 1) := by decide +kernel
theorem dX3_source_17 : decode cX3_source 17 = .ok (.invokevirtual 63, 3) := by decide +kernel
theorem dX3_source_20 : decode cX3_source 20 = .ok (.ireturn, 1) := by decide +kernel
set_option maxRecDepth 20000 in
theorem ggX3_wind_X3_fails : GoodIn wsX3_wind wsX3_fails := goodIn_r _ [6, 7, 12, 13, 14, 15, 16, 17, 18, 19, 20, 21, 22, 23, 24, 25, 26, 27, 28] (by decide +kernel) (by decide +kernel)
set_option maxRecDepth 20000 in
theorem gX3_wind_X3_fails : GoodIn wsX3_wind (wsV RX3 59 RX3 yX3_fails wsX3_fails) := goodIn_app (goodIn_of _ (by decide +kernel)) ggX3_wind_X3_fails
set_option maxRecDepth 20000 in
theorem ggX3_wind_X3_done : GoodIn wsX3_wind wsX3_done := goodIn_r _ [11, 7, 12, 13, 14, 15, 16, 17, 18, 19, 20, 21, 22, 23, 24, 25, 26, 27, 28] (by decide +kernel) (by decide +kernel)
set_option maxRecDepth 20000 in
theorem gX3_wind_X3_done : GoodIn wsX3_wind (wsV RX3 63 RX3 yX3_done wsX3_done) := goodIn_app (goodIn_of _ (by decide +kernel)) ggX3_wind_X3_done
theorem dX3_wind_0 : decode cX3_wind 0 = .ok (.iload_n 1, 1) := by decide +kernel
theorem dX3_wind_1 : decode cX3_wind 1 = .ok (.sipush (-1000), 3) := by decide +kernel
theorem dX3_wind_4 : decode cX3_wind 4 = .ok (.if_icmp .lt 10, 3) := by decide +kernel
theorem dX3_wind_7 : decode cX3_wind 7 = .ok (.iload_n 1, 1) := by decide +kernel
theorem dX3_wind_8 : decode cX3_wind 8 = .ok (.sipush 1000, 3) := by decide +kernel
theorem dX3_wind_11 : decode cX3_wind 11 = .ok (.if_icmp .le 13, 3) := by decide +kernel
theorem dX3_wind_14 : decode cX3_wind 14 = .ok (.aload_n 0, 1) := by decide +kernel
theorem dX3_wind_15 : decode cX3_wind 15 = .ok (.iconst 1, 1) := by decide +kernel
theorem dX3_wind_16 : decode cX3_wind 16 = .ok (.aload_n 0, 1) := by decide +kernel
theorem dX3_wind_17 : decode cX3_wind 17 = .ok (.getfield 56, 3) := by decide +kernel
theorem dX3_wind_20 : decode cX3_wind 20 = .ok (.invokevirtual 59, 3) := by decide +kernel
theorem dX3_wind_23 : decode cX3_wind 23 = .ok (.ireturn, 1) := by decide +kernel
theorem dX3_wind_24 : decode cX3_wind 24 = .ok (.aload_n 0, 1) := by decide +kernel
theorem dX3_wind_25 : decode cX3_wind 25 = .ok (.dup, 1) := by decide +kernel
theorem dX3_wind_26 : decode cX3_wind 26 = .ok (.getfield 56, 3) := by decide +kernel
theorem dX3_wind_29 : decode cX3_wind 29 = .ok (.iload_n 1, 1) := by decide +kernel
theorem dX3_wind_30 : decode cX3_wind 30 = .ok (.iadd, 1) := by decide +kernel
theorem dX3_wind_31 : decode cX3_wind 31 = .ok (.putfield 56, 3) := by decide +kernel
theorem dX3_wind_34 : decode cX3_wind 34 = .ok (.aload_n 0, 1) := by decide +kernel
theorem dX3_wind_35 : decode cX3_wind 35 = .ok (.aload_n 0, 1) := by decide +kernel
theorem dX3_wind_36 : decode cX3_wind 36 = .ok (.getfield 56, 3) := by decide +kernel
theorem dX3_wind_39 : decode cX3_wind 39 = .ok (.invokevirtual 63, 3) := by decide +kernel
theorem dX3_wind_42 : decode cX3_wind 42 = .ok (.ireturn, 1) := by decide +kernel
set_option maxRecDepth 20000 in
theorem ggX3_headFault_X3_isTrack : GoodIn wsX3_headFault wsX3_isTrack := goodIn_r _ [6] (by decide +kernel) (by decide +kernel)
set_option maxRecDepth 20000 in
theorem gX3_headFault_X3_isTrack : GoodIn wsX3_headFault (wsV RX3 71 RX3 yX3_isTrack wsX3_isTrack) := goodIn_app (goodIn_of _ (by decide +kernel)) ggX3_headFault_X3_isTrack
set_option maxRecDepth 20000 in
theorem ggX3_headFault_X3_place : GoodIn wsX3_headFault wsX3_place := goodIn_r _ [10, 11, 12, 23, 24, 25, 26, 27, 28, 29, 30, 31, 32, 33, 34, 35, 36, 37, 38, 39] (by decide +kernel) (by decide +kernel)
set_option maxRecDepth 20000 in
theorem gX3_headFault_X3_place : GoodIn wsX3_headFault (wsV RX3 84 RX3 yX3_place wsX3_place) := goodIn_app (goodIn_of _ (by decide +kernel)) ggX3_headFault_X3_place
set_option maxRecDepth 20000 in
theorem ggX3_headFault_X3_fault : GoodIn wsX3_headFault wsX3_fault := goodIn_r _ [16, 17, 18, 19, 20, 5, 21, 22, 23, 24, 25, 26, 27, 28, 29, 30, 31, 32, 33, 34, 35, 36, 37, 38, 39] (by decide +kernel) (by decide +kernel)
set_option maxRecDepth 20000 in
theorem gX3_headFault_X3_fault : GoodIn wsX3_headFault (wsV RX3 87 RX3 yX3_fault wsX3_fault) := goodIn_app (goodIn_of _ (by decide +kernel)) ggX3_headFault_X3_fault
theorem dX3_headFault_0 : decode cX3_headFault 0 = .ok (.aload_n 0, 1) := by decide +kernel
theorem dX3_headFault_1 : decode cX3_headFault 1 = .ok (.iload_n 1, 1) := by decide +kernel
theorem dX3_headFault_2 : decode cX3_headFault 2 = .ok (.invokevirtual 71, 3) := by decide +kernel
theorem dX3_headFault_5 : decode cX3_headFault 5 = .ok (.ifCond .ne 5, 3) := by decide +kernel
theorem dX3_headFault_8 : decode cX3_headFault 8 = .ok (.iconst 1, 1) := by decide +kernel
theorem dX3_headFault_9 : decode cX3_headFault 9 = .ok (.ireturn, 1) := by decide +kernel
theorem dX3_headFault_10 : decode cX3_headFault 10 = .ok (.aload_n 0, 1) := by decide +kernel
theorem dX3_headFault_11 : decode cX3_headFault 11 = .ok (.getfield 19, 3) := by decide +kernel
theorem dX3_headFault_14 : decode cX3_headFault 14 = .ok (.iconst (-1), 1) := by decide +kernel
theorem dX3_headFault_15 : decode cX3_headFault 15 = .ok (.if_icmp .ne 7, 3) := by decide +kernel
theorem dX3_headFault_18 : decode cX3_headFault 18 = .ok (.iconst 5, 1) := by decide +kernel
theorem dX3_headFault_19 : decode cX3_headFault 19 = .ok (.goto 17, 3) := by decide +kernel
theorem dX3_headFault_22 : decode cX3_headFault 22 = .ok (.aload_n 0, 1) := by decide +kernel
theorem dX3_headFault_23 : decode cX3_headFault 23 = .ok (.aload_n 0, 1) := by decide +kernel
theorem dX3_headFault_24 : decode cX3_headFault 24 = .ok (.getfield 19, 3) := by decide +kernel
theorem dX3_headFault_27 : decode cX3_headFault 27 = .ok (.iload_n 1, 1) := by decide +kernel
theorem dX3_headFault_28 : decode cX3_headFault 28 = .ok (.aload_n 0, 1) := by decide +kernel
theorem dX3_headFault_29 : decode cX3_headFault 29 = .ok (.iload_n 1, 1) := by decide +kernel
theorem dX3_headFault_30 : decode cX3_headFault 30 = .ok (.invokevirtual 84, 3) := by decide +kernel
theorem dX3_headFault_33 : decode cX3_headFault 33 = .ok (.invokevirtual 87, 3) := by decide +kernel
theorem dX3_headFault_36 : decode cX3_headFault 36 = .ok (.ireturn, 1) := by decide +kernel
set_option maxRecDepth 20000 in
theorem ggX3_read_X3_headFault : GoodIn wsX3_read wsX3_headFault := goodIn_r _ [7, 2, 8, 9, 10, 6, 11, 12, 13, 14, 15, 16, 17, 18, 19, 20, 21, 22, 23, 24, 25, 26, 27, 41, 42, 43, 44, 45, 46, 47, 48, 49, 50, 51, 52, 53, 54, 55, 56, 57] (by decide +kernel) (by decide +kernel)
set_option maxRecDepth 20000 in
theorem gX3_read_X3_headFault : GoodIn wsX3_read (wsV RX3 90 RX3 yX3_headFault wsX3_headFault) := goodIn_app (goodIn_of _ (by decide +kernel)) ggX3_read_X3_headFault
set_option maxRecDepth 20000 in
theorem ggX3_read_X3_fails : GoodIn wsX3_read wsX3_fails := goodIn_r _ [31, 32, 41, 42, 43, 44, 45, 46, 47, 48, 49, 50, 51, 52, 53, 54, 55, 56, 57] (by decide +kernel) (by decide +kernel)
set_option maxRecDepth 20000 in
theorem gX3_read_X3_fails : GoodIn wsX3_read (wsV RX3 59 RX3 yX3_fails wsX3_fails) := goodIn_app (goodIn_of _ (by decide +kernel)) ggX3_read_X3_fails
set_option maxRecDepth 20000 in
theorem ggX3_read_X3_place : GoodIn wsX3_read wsX3_place := goodIn_r _ [15, 16, 17, 41, 42, 43, 44, 45, 46, 47, 48, 49, 50, 51, 52, 53, 54, 55, 56, 57] (by decide +kernel) (by decide +kernel)
set_option maxRecDepth 20000 in
theorem gX3_read_X3_place : GoodIn wsX3_read (wsV RX3 84 RX3 yX3_place wsX3_place) := goodIn_app (goodIn_of _ (by decide +kernel)) ggX3_read_X3_place
set_option maxRecDepth 20000 in
theorem ggX3_read_X3_at : GoodIn wsX3_read wsX3_at := goodIn_r _ [36] (by decide +kernel) (by decide +kernel)
set_option maxRecDepth 20000 in
theorem gX3_read_X3_at : GoodIn wsX3_read (wsV RX3 74 RX3 yX3_at wsX3_at) := goodIn_app (goodIn_of _ (by decide +kernel)) ggX3_read_X3_at
set_option maxRecDepth 20000 in
theorem ggX3_read_X3_done : GoodIn wsX3_read wsX3_done := goodIn_r _ [40, 32, 41, 42, 43, 44, 45, 46, 47, 48, 49, 50, 51, 52, 53, 54, 55, 56, 57] (by decide +kernel) (by decide +kernel)
set_option maxRecDepth 20000 in
theorem gX3_read_X3_done : GoodIn wsX3_read (wsV RX3 63 RX3 yX3_done wsX3_done) := goodIn_app (goodIn_of _ (by decide +kernel)) ggX3_read_X3_done
theorem dX3_read_0 : decode cX3_read 0 = .ok (.aload_n 0, 1) := by decide +kernel
theorem dX3_read_1 : decode cX3_read 1 = .ok (.iload_n 1, 1) := by decide +kernel
theorem dX3_read_2 : decode cX3_read 2 = .ok (.invokevirtual 90, 3) := by decide +kernel
theorem dX3_read_5 : decode cX3_read 5 = .ok (.istore_n 2, 1) := by decide +kernel
theorem dX3_read_6 : decode cX3_read 6 = .ok (.iload_n 2, 1) := by decide +kernel
theorem dX3_read_7 : decode cX3_read 7 = .ok (.ifCond .eq 10, 3) := by decide +kernel
theorem dX3_read_10 : decode cX3_read 10 = .ok (.aload_n 0, 1) := by decide +kernel
theorem dX3_read_11 : decode cX3_read 11 = .ok (.iload_n 2, 1) := by decide +kernel
theorem dX3_read_12 : decode cX3_read 12 = .ok (.iconst 0, 1) := by decide +kernel
theorem dX3_read_13 : decode cX3_read 13 = .ok (.invokevirtual 59, 3) := by decide +kernel
theorem dX3_read_16 : decode cX3_read 16 = .ok (.ireturn, 1) := by decide +kernel
theorem dX3_read_17 : decode cX3_read 17 = .ok (.aload_n 0, 1) := by decide +kernel
theorem dX3_read_18 : decode cX3_read 18 = .ok (.aload_n 0, 1) := by decide +kernel
theorem dX3_read_19 : decode cX3_read 19 = .ok (.getfield 16, 3) := by decide +kernel
theorem dX3_read_22 : decode cX3_read 22 = .ok (.aload_n 0, 1) := by decide +kernel
theorem dX3_read_23 : decode cX3_read 23 = .ok (.aload_n 0, 1) := by decide +kernel
theorem dX3_read_24 : decode cX3_read 24 = .ok (.getfield 19, 3) := by decide +kernel
theorem dX3_read_27 : decode cX3_read 27 = .ok (.iload_n 1, 1) := by decide +kernel
theorem dX3_read_28 : decode cX3_read 28 = .ok (.aload_n 0, 1) := by decide +kernel
theorem dX3_read_29 : decode cX3_read 29 = .ok (.iload_n 1, 1) := by decide +kernel
theorem dX3_read_30 : decode cX3_read 30 = .ok (.invokevirtual 84, 3) := by decide +kernel
theorem dX3_read_33 : decode cX3_read 33 = .ok (.invokevirtual 74, 3) := by decide +kernel
theorem dX3_read_36 : decode cX3_read 36 = .ok (.iaload, 1) := by decide +kernel
theorem dX3_read_37 : decode cX3_read 37 = .ok (.invokevirtual 63, 3) := by decide +kernel
theorem dX3_read_40 : decode cX3_read 40 = .ok (.ireturn, 1) := by decide +kernel
set_option maxRecDepth 20000 in
theorem ggX3_write_X3_headFault : GoodIn wsX3_write wsX3_headFault := goodIn_r _ [7, 2, 8, 9, 10, 6, 11, 12, 13, 14, 15, 16, 17, 18, 19, 20, 21, 22, 23, 24, 25, 26, 27, 47, 48, 49, 50, 51, 52, 53, 54, 55, 56, 57, 58, 59, 60, 61, 62, 63] (by decide +kernel) (by decide +kernel)
set_option maxRecDepth 20000 in
theorem gX3_write_X3_headFault : GoodIn wsX3_write (wsV RX3 90 RX3 yX3_headFault wsX3_headFault) := goodIn_app (goodIn_of _ (by decide +kernel)) ggX3_write_X3_headFault
set_option maxRecDepth 20000 in
theorem ggX3_write_X3_fails : GoodIn wsX3_write wsX3_fails := goodIn_r _ [31, 32, 47, 48, 49, 50, 51, 52, 53, 54, 55, 56, 57, 58, 59, 60, 61, 62, 63] (by decide +kernel) (by decide +kernel)
set_option maxRecDepth 20000 in
theorem gX3_write_X3_fails : GoodIn wsX3_write (wsV RX3 59 RX3 yX3_fails wsX3_fails) := goodIn_app (goodIn_of _ (by decide +kernel)) ggX3_write_X3_fails
set_option maxRecDepth 20000 in
theorem ggX3_write_X3_place : GoodIn wsX3_write wsX3_place := goodIn_r _ [15, 16, 17, 47, 48, 49, 50, 51, 52, 53, 54, 55, 56, 57, 58, 59, 60, 61, 62, 63] (by decide +kernel) (by decide +kernel)
set_option maxRecDepth 20000 in
theorem gX3_write_X3_place : GoodIn wsX3_write (wsV RX3 84 RX3 yX3_place wsX3_place) := goodIn_app (goodIn_of _ (by decide +kernel)) ggX3_write_X3_place
set_option maxRecDepth 20000 in
theorem ggX3_write_X3_at : GoodIn wsX3_write wsX3_at := goodIn_r _ [36] (by decide +kernel) (by decide +kernel)
set_option maxRecDepth 20000 in
theorem gX3_write_X3_at : GoodIn wsX3_write (wsV RX3 74 RX3 yX3_at wsX3_at) := goodIn_app (goodIn_of _ (by decide +kernel)) ggX3_write_X3_at
set_option maxRecDepth 20000 in
theorem ggX3_write_X3_fit : GoodIn wsX3_write wsX3_fit := goodIn_r _ [40, 41, 42] (by decide +kernel) (by decide +kernel)
set_option maxRecDepth 20000 in
theorem gX3_write_X3_fit : GoodIn wsX3_write (wsV RX3 93 RX3 yX3_fit wsX3_fit) := goodIn_app (goodIn_of _ (by decide +kernel)) ggX3_write_X3_fit
set_option maxRecDepth 20000 in
theorem ggX3_write_X3_done : GoodIn wsX3_write wsX3_done := goodIn_r _ [46, 32, 47, 48, 49, 50, 51, 52, 53, 54, 55, 56, 57, 58, 59, 60, 61, 62, 63] (by decide +kernel) (by decide +kernel)
set_option maxRecDepth 20000 in
theorem gX3_write_X3_done : GoodIn wsX3_write (wsV RX3 63 RX3 yX3_done wsX3_done) := goodIn_app (goodIn_of _ (by decide +kernel)) ggX3_write_X3_done
theorem dX3_write_0 : decode cX3_write 0 = .ok (.aload_n 0, 1) := by decide +kernel
theorem dX3_write_1 : decode cX3_write 1 = .ok (.iload_n 1, 1) := by decide +kernel
theorem dX3_write_2 : decode cX3_write 2 = .ok (.invokevirtual 90, 3) := by decide +kernel
theorem dX3_write_5 : decode cX3_write 5 = .ok (.istore_n 3, 1) := by decide +kernel
theorem dX3_write_6 : decode cX3_write 6 = .ok (.iload_n 3, 1) := by decide +kernel
theorem dX3_write_7 : decode cX3_write 7 = .ok (.ifCond .eq 10, 3) := by decide +kernel
theorem dX3_write_10 : decode cX3_write 10 = .ok (.aload_n 0, 1) := by decide +kernel
theorem dX3_write_11 : decode cX3_write 11 = .ok (.iload_n 3, 1) := by decide +kernel
theorem dX3_write_12 : decode cX3_write 12 = .ok (.iconst 0, 1) := by decide +kernel
theorem dX3_write_13 : decode cX3_write 13 = .ok (.invokevirtual 59, 3) := by decide +kernel
theorem dX3_write_16 : decode cX3_write 16 = .ok (.ireturn, 1) := by decide +kernel
theorem dX3_write_17 : decode cX3_write 17 = .ok (.aload_n 0, 1) := by decide +kernel
theorem dX3_write_18 : decode cX3_write 18 = .ok (.getfield 16, 3) := by decide +kernel
theorem dX3_write_21 : decode cX3_write 21 = .ok (.aload_n 0, 1) := by decide +kernel
theorem dX3_write_22 : decode cX3_write 22 = .ok (.aload_n 0, 1) := by decide +kernel
theorem dX3_write_23 : decode cX3_write 23 = .ok (.getfield 19, 3) := by decide +kernel
theorem dX3_write_26 : decode cX3_write 26 = .ok (.iload_n 1, 1) := by decide +kernel
theorem dX3_write_27 : decode cX3_write 27 = .ok (.aload_n 0, 1) := by decide +kernel
theorem dX3_write_28 : decode cX3_write 28 = .ok (.iload_n 1, 1) := by decide +kernel
theorem dX3_write_29 : decode cX3_write 29 = .ok (.invokevirtual 84, 3) := by decide +kernel
theorem dX3_write_32 : decode cX3_write 32 = .ok (.invokevirtual 74, 3) := by decide +kernel
theorem dX3_write_35 : decode cX3_write 35 = .ok (.aload_n 0, 1) := by decide +kernel
theorem dX3_write_36 : decode cX3_write 36 = .ok (.iload_n 1, 1) := by decide +kernel
theorem dX3_write_37 : decode cX3_write 37 = .ok (.iload_n 2, 1) := by decide +kernel
theorem dX3_write_38 : decode cX3_write 38 = .ok (.invokevirtual 93, 3) := by decide +kernel
theorem dX3_write_41 : decode cX3_write 41 = .ok (.iastore, 1) := by decide +kernel
theorem dX3_write_42 : decode cX3_write 42 = .ok (.aload_n 0, 1) := by decide +kernel
theorem dX3_write_43 : decode cX3_write 43 = .ok (.aload_n 0, 1) := by decide +kernel
theorem dX3_write_44 : decode cX3_write 44 = .ok (.iload_n 1, 1) := by decide +kernel
theorem dX3_write_45 : decode cX3_write 45 = .ok (.iload_n 2, 1) := by decide +kernel
theorem dX3_write_46 : decode cX3_write 46 = .ok (.invokevirtual 93, 3) := by decide +kernel
theorem dX3_write_49 : decode cX3_write 49 = .ok (.invokevirtual 63, 3) := by decide +kernel
theorem dX3_write_52 : decode cX3_write 52 = .ok (.ireturn, 1) := by decide +kernel
set_option maxRecDepth 20000 in
theorem ggX3_act_X3_place : GoodIn wsX3_act wsX3_place := goodIn_r _ [11, 12, 13, 34, 35, 36, 37, 38, 39, 40, 41, 42, 43, 44, 45, 46, 47, 48, 49, 50] (by decide +kernel) (by decide +kernel)
set_option maxRecDepth 20000 in
theorem gX3_act_X3_place : GoodIn wsX3_act (wsV RX3 84 RX3 yX3_place wsX3_place) := goodIn_app (goodIn_of _ (by decide +kernel)) ggX3_act_X3_place
set_option maxRecDepth 20000 in
theorem ggX3_act_X3_fault : GoodIn wsX3_act wsX3_fault := goodIn_r _ [17, 18, 19, 20, 21, 10, 22, 23, 34, 35, 36, 37, 38, 39, 40, 41, 42, 43, 44, 45, 46, 47, 48, 49, 50] (by decide +kernel) (by decide +kernel)
set_option maxRecDepth 20000 in
theorem gX3_act_X3_fault : GoodIn wsX3_act (wsV RX3 87 RX3 yX3_fault wsX3_fault) := goodIn_app (goodIn_of _ (by decide +kernel)) ggX3_act_X3_fault
set_option maxRecDepth 20000 in
theorem ggX3_act_X3_at : GoodIn wsX3_act wsX3_at := goodIn_r _ [27] (by decide +kernel) (by decide +kernel)
set_option maxRecDepth 20000 in
theorem gX3_act_X3_at : GoodIn wsX3_act (wsV RX3 74 RX3 yX3_at wsX3_at) := goodIn_app (goodIn_of _ (by decide +kernel)) ggX3_act_X3_at
set_option maxRecDepth 20000 in
theorem ggX3_act_X3_fit : GoodIn wsX3_act wsX3_fit := goodIn_r _ [31, 32, 33] (by decide +kernel) (by decide +kernel)
set_option maxRecDepth 20000 in
theorem gX3_act_X3_fit : GoodIn wsX3_act (wsV RX3 93 RX3 yX3_fit wsX3_fit) := goodIn_app (goodIn_of _ (by decide +kernel)) ggX3_act_X3_fit
theorem dX3_act_0 : decode cX3_act 0 = .ok (.aload_n 0, 1) := by decide +kernel
theorem dX3_act_1 : decode cX3_act 1 = .ok (.getfield 26, 3) := by decide +kernel
theorem dX3_act_4 : decode cX3_act 4 = .ok (.iload_n 1, 1) := by decide +kernel
theorem dX3_act_5 : decode cX3_act 5 = .ok (.iaload, 1) := by decide +kernel
theorem dX3_act_6 : decode cX3_act 6 = .ok (.ifCond .ne 5, 3) := by decide +kernel
theorem dX3_act_9 : decode cX3_act 9 = .ok (.iconst 0, 1) := by decide +kernel
theorem dX3_act_10 : decode cX3_act 10 = .ok (.ireturn, 1) := by decide +kernel
theorem dX3_act_11 : decode cX3_act 11 = .ok (.aload_n 0, 1) := by decide +kernel
theorem dX3_act_12 : decode cX3_act 12 = .ok (.aload_n 0, 1) := by decide +kernel
theorem dX3_act_13 : decode cX3_act 13 = .ok (.getfield 19, 3) := by decide +kernel
theorem dX3_act_16 : decode cX3_act 16 = .ok (.iload_n 1, 1) := by decide +kernel
theorem dX3_act_17 : decode cX3_act 17 = .ok (.aload_n 0, 1) := by decide +kernel
theorem dX3_act_18 : decode cX3_act 18 = .ok (.iload_n 1, 1) := by decide +kernel
theorem dX3_act_19 : decode cX3_act 19 = .ok (.invokevirtual 84, 3) := by decide +kernel
theorem dX3_act_22 : decode cX3_act 22 = .ok (.invokevirtual 87, 3) := by decide +kernel
theorem dX3_act_25 : decode cX3_act 25 = .ok (.istore_n 2, 1) := by decide +kernel
theorem dX3_act_26 : decode cX3_act 26 = .ok (.iload_n 2, 1) := by decide +kernel
theorem dX3_act_27 : decode cX3_act 27 = .ok (.ifCond .eq 5, 3) := by decide +kernel
theorem dX3_act_30 : decode cX3_act 30 = .ok (.iload_n 2, 1) := by decide +kernel
theorem dX3_act_31 : decode cX3_act 31 = .ok (.ireturn, 1) := by decide +kernel
theorem dX3_act_32 : decode cX3_act 32 = .ok (.aload_n 0, 1) := by decide +kernel
theorem dX3_act_33 : decode cX3_act 33 = .ok (.aload_n 0, 1) := by decide +kernel
theorem dX3_act_34 : decode cX3_act 34 = .ok (.getfield 19, 3) := by decide +kernel
theorem dX3_act_37 : decode cX3_act 37 = .ok (.iload_n 1, 1) := by decide +kernel
theorem dX3_act_38 : decode cX3_act 38 = .ok (.aload_n 0, 1) := by decide +kernel
theorem dX3_act_39 : decode cX3_act 39 = .ok (.iload_n 1, 1) := by decide +kernel
theorem dX3_act_40 : decode cX3_act 40 = .ok (.invokevirtual 84, 3) := by decide +kernel
theorem dX3_act_43 : decode cX3_act 43 = .ok (.invokevirtual 74, 3) := by decide +kernel
theorem dX3_act_46 : decode cX3_act 46 = .ok (.istore_n 3, 1) := by decide +kernel
theorem dX3_act_47 : decode cX3_act 47 = .ok (.aload_n 0, 1) := by decide +kernel
theorem dX3_act_48 : decode cX3_act 48 = .ok (.getfield 26, 3) := by decide +kernel
theorem dX3_act_51 : decode cX3_act 51 = .ok (.iload_n 1, 1) := by decide +kernel
theorem dX3_act_52 : decode cX3_act 52 = .ok (.iaload, 1) := by decide +kernel
theorem dX3_act_53 : decode cX3_act 53 = .ok (.iconst 1, 1) := by decide +kernel
theorem dX3_act_54 : decode cX3_act 54 = .ok (.if_icmp .ne 20, 3) := by decide +kernel
theorem dX3_act_57 : decode cX3_act 57 = .ok (.aload_n 0, 1) := by decide +kernel
theorem dX3_act_58 : decode cX3_act 58 = .ok (.getfield 29, 3) := by decide +kernel
theorem dX3_act_61 : decode cX3_act 61 = .ok (.iload_n 1, 1) := by decide +kernel
theorem dX3_act_62 : decode cX3_act 62 = .ok (.dup2, 1) := by decide +kernel
theorem dX3_act_63 : decode cX3_act 63 = .ok (.iaload, 1) := by decide +kernel
theorem dX3_act_64 : decode cX3_act 64 = .ok (.aload_n 0, 1) := by decide +kernel
theorem dX3_act_65 : decode cX3_act 65 = .ok (.getfield 16, 3) := by decide +kernel
theorem dX3_act_68 : decode cX3_act 68 = .ok (.iload_n 3, 1) := by decide +kernel
theorem dX3_act_69 : decode cX3_act 69 = .ok (.iaload, 1) := by decide +kernel
theorem dX3_act_70 : decode cX3_act 70 = .ok (.iadd, 1) := by decide +kernel
theorem dX3_act_71 : decode cX3_act 71 = .ok (.iastore, 1) := by decide +kernel
theorem dX3_act_72 : decode cX3_act 72 = .ok (.iconst 0, 1) := by decide +kernel
theorem dX3_act_73 : decode cX3_act 73 = .ok (.ireturn, 1) := by decide +kernel
theorem dX3_act_74 : decode cX3_act 74 = .ok (.aload_n 0, 1) := by decide +kernel
theorem dX3_act_75 : decode cX3_act 75 = .ok (.getfield 16, 3) := by decide +kernel
theorem dX3_act_78 : decode cX3_act 78 = .ok (.iload_n 3, 1) := by decide +kernel
theorem dX3_act_79 : decode cX3_act 79 = .ok (.aload_n 0, 1) := by decide +kernel
theorem dX3_act_80 : decode cX3_act 80 = .ok (.iload_n 1, 1) := by decide +kernel
theorem dX3_act_81 : decode cX3_act 81 = .ok (.aload_n 0, 1) := by decide +kernel
theorem dX3_act_82 : decode cX3_act 82 = .ok (.getfield 26, 3) := by decide +kernel
theorem dX3_act_85 : decode cX3_act 85 = .ok (.iload_n 1, 1) := by decide +kernel
theorem dX3_act_86 : decode cX3_act 86 = .ok (.iaload, 1) := by decide +kernel
theorem dX3_act_87 : decode cX3_act 87 = .ok (.iconst 2, 1) := by decide +kernel
theorem dX3_act_88 : decode cX3_act 88 = .ok (.if_icmp .ne 10, 3) := by decide +kernel
theorem dX3_act_91 : decode cX3_act 91 = .ok (.aload_n 0, 1) := by decide +kernel
theorem dX3_act_92 : decode cX3_act 92 = .ok (.getfield 78, 3) := by decide +kernel
theorem dX3_act_95 : decode cX3_act 95 = .ok (.goto 14, 3) := by decide +kernel
theorem dX3_act_98 : decode cX3_act 98 = .ok (.aload_n 0, 1) := by decide +kernel
theorem dX3_act_99 : decode cX3_act 99 = .ok (.getfield 16, 3) := by decide +kernel
theorem dX3_act_102 : decode cX3_act 102 = .ok (.iload_n 3, 1) := by decide +kernel
theorem dX3_act_103 : decode cX3_act 103 = .ok (.iaload, 1) := by decide +kernel
theorem dX3_act_104 : decode cX3_act 104 = .ok (.aload_n 0, 1) := by decide +kernel
theorem dX3_act_105 : decode cX3_act 105 = .ok (.getfield 78, 3) := by decide +kernel
theorem dX3_act_108 : decode cX3_act 108 = .ok (.iadd, 1) := by decide +kernel
theorem dX3_act_109 : decode cX3_act 109 = .ok (.invokevirtual 93, 3) := by decide +kernel
theorem dX3_act_112 : decode cX3_act 112 = .ok (.iastore, 1) := by decide +kernel
theorem dX3_act_113 : decode cX3_act 113 = .ok (.aload_n 0, 1) := by decide +kernel
theorem dX3_act_114 : decode cX3_act 114 = .ok (.dup, 1) := by decide +kernel
theorem dX3_act_115 : decode cX3_act 115 = .ok (.getfield 78, 3) := by decide +kernel
theorem dX3_act_118 : decode cX3_act 118 = .ok (.aload_n 0, 1) := by decide +kernel
theorem dX3_act_119 : decode cX3_act 119 = .ok (.getfield 81, 3) := by decide +kernel
theorem dX3_act_122 : decode cX3_act 122 = .ok (.iadd, 1) := by decide +kernel
theorem dX3_act_123 : decode cX3_act 123 = .ok (.putfield 78, 3) := by decide +kernel
theorem dX3_act_126 : decode cX3_act 126 = .ok (.iconst 0, 1) := by decide +kernel
theorem dX3_act_127 : decode cX3_act 127 = .ok (.ireturn, 1) := by decide +kernel
set_option maxRecDepth 20000 in
theorem ggX3_run_X3_fails : GoodIn wsX3_run wsX3_fails := goodIn_r _ [9, 10, 49, 50, 51, 52, 53, 54, 55, 56, 57, 58, 59, 60, 61, 62, 63, 64, 65] (by decide +kernel) (by decide +kernel)
set_option maxRecDepth 20000 in
theorem gX3_run_X3_fails : GoodIn wsX3_run (wsV RX3 59 RX3 yX3_fails wsX3_fails) := goodIn_app (goodIn_of _ (by decide +kernel)) ggX3_run_X3_fails
set_option maxRecDepth 20000 in
theorem ggX3_run_X3_act : GoodIn wsX3_run wsX3_act := goodIn_r _ [14, 15, 1, 16, 17, 18, 19, 20, 21, 22, 8, 23, 4, 24, 25, 26, 27, 28, 29, 30, 31, 32, 33, 34, 35, 36, 37, 38, 39, 40, 41, 42, 43, 44, 49, 50, 51, 52, 53, 54, 55, 56, 57, 58, 59, 60, 61, 62, 63, 64, 65] (by decide +kernel) (by decide +kernel)
set_option maxRecDepth 20000 in
theorem gX3_run_X3_act : GoodIn wsX3_run (wsV RX3 99 RX3 yX3_act wsX3_act) := goodIn_app (goodIn_of _ (by decide +kernel)) ggX3_run_X3_act
set_option maxRecDepth 20000 in
theorem ggX3_run_X3_done : GoodIn wsX3_run wsX3_done := goodIn_r _ [48, 10, 49, 50, 51, 52, 53, 54, 55, 56, 57, 58, 59, 60, 61, 62, 63, 64, 65] (by decide +kernel) (by decide +kernel)
set_option maxRecDepth 20000 in
theorem gX3_run_X3_done : GoodIn wsX3_run (wsV RX3 63 RX3 yX3_done wsX3_done) := goodIn_app (goodIn_of _ (by decide +kernel)) ggX3_run_X3_done
theorem dX3_run_0 : decode cX3_run 0 = .ok (.iload_n 1, 1) := by decide +kernel
theorem dX3_run_1 : decode cX3_run 1 = .ok (.iconst 1, 1) := by decide +kernel
theorem dX3_run_2 : decode cX3_run 2 = .ok (.if_icmp .lt 9, 3) := by decide +kernel
theorem dX3_run_5 : decode cX3_run 5 = .ok (.iload_n 1, 1) := by decide +kernel
theorem dX3_run_6 : decode cX3_run 6 = .ok (.bipush 100, 2) := by decide +kernel
theorem dX3_run_8 : decode cX3_run 8 = .ok (.if_icmp .le 10, 3) := by decide +kernel
theorem dX3_run_11 : decode cX3_run 11 = .ok (.aload_n 0, 1) := by decide +kernel
theorem dX3_run_12 : decode cX3_run 12 = .ok (.iconst 1, 1) := by decide +kernel
theorem dX3_run_13 : decode cX3_run 13 = .ok (.iconst 0, 1) := by decide +kernel
theorem dX3_run_14 : decode cX3_run 14 = .ok (.invokevirtual 59, 3) := by decide +kernel
theorem dX3_run_17 : decode cX3_run 17 = .ok (.ireturn, 1) := by decide +kernel
theorem dX3_run_18 : decode cX3_run 18 = .ok (.aload_n 0, 1) := by decide +kernel
theorem dX3_run_19 : decode cX3_run 19 = .ok (.getfield 19, 3) := by decide +kernel
theorem dX3_run_22 : decode cX3_run 22 = .ok (.iconst (-1), 1) := by decide +kernel
theorem dX3_run_23 : decode cX3_run 23 = .ok (.if_icmp .ne 10, 3) := by decide +kernel
theorem dX3_run_26 : decode cX3_run 26 = .ok (.aload_n 0, 1) := by decide +kernel
theorem dX3_run_27 : decode cX3_run 27 = .ok (.iconst 5, 1) := by decide +kernel
theorem dX3_run_28 : decode cX3_run 28 = .ok (.iconst 0, 1) := by decide +kernel
theorem dX3_run_29 : decode cX3_run 29 = .ok (.invokevirtual 59, 3) := by decide +kernel
theorem dX3_run_32 : decode cX3_run 32 = .ok (.ireturn, 1) := by decide +kernel
theorem dX3_run_33 : decode cX3_run 33 = .ok (.aload_n 0, 1) := by decide +kernel
theorem dX3_run_34 : decode cX3_run 34 = .ok (.iconst (-1), 1) := by decide +kernel
theorem dX3_run_35 : decode cX3_run 35 = .ok (.putfield 32, 3) := by decide +kernel
theorem dX3_run_38 : decode cX3_run 38 = .ok (.aload_n 0, 1) := by decide +kernel
theorem dX3_run_39 : decode cX3_run 39 = .ok (.iconst 0, 1) := by decide +kernel
theorem dX3_run_40 : decode cX3_run 40 = .ok (.putfield 96, 3) := by decide +kernel
theorem dX3_run_43 : decode cX3_run 43 = .ok (.iconst 0, 1) := by decide +kernel
theorem dX3_run_44 : decode cX3_run 44 = .ok (.istore_n 2, 1) := by decide +kernel
theorem dX3_run_45 : decode cX3_run 45 = .ok (.iload_n 2, 1) := by decide +kernel
theorem dX3_run_46 : decode cX3_run 46 = .ok (.iload_n 1, 1) := by decide +kernel
theorem dX3_run_47 : decode cX3_run 47 = .ok (.if_icmp .ge 66, 3) := by decide +kernel
theorem dX3_run_50 : decode cX3_run 50 = .ok (.iconst 0, 1) := by decide +kernel
theorem dX3_run_51 : decode cX3_run 51 = .ok (.istore_n 3, 1) := by decide +kernel
theorem dX3_run_52 : decode cX3_run 52 = .ok (.iload_n 3, 1) := by decide +kernel
theorem dX3_run_53 : decode cX3_run 53 = .ok (.iconst 4, 1) := by decide +kernel
theorem dX3_run_54 : decode cX3_run 54 = .ok (.if_icmp .ge 43, 3) := by decide +kernel
theorem dX3_run_57 : decode cX3_run 57 = .ok (.aload_n 0, 1) := by decide +kernel
theorem dX3_run_58 : decode cX3_run 58 = .ok (.iload_n 3, 1) := by decide +kernel
theorem dX3_run_59 : decode cX3_run 59 = .ok (.invokevirtual 99, 3) := by decide +kernel
theorem dX3_run_62 : decode cX3_run 62 = .ok (.istore 4, 2) := by decide +kernel
theorem dX3_run_64 : decode cX3_run 64 = .ok (.iload 4, 2) := by decide +kernel
theorem dX3_run_66 : decode cX3_run 66 = .ok (.ifCond .ne 6, 3) := by decide +kernel
theorem dX3_run_69 : decode cX3_run 69 = .ok (.goto 22, 3) := by decide +kernel
theorem dX3_run_72 : decode cX3_run 72 = .ok (.aload_n 0, 1) := by decide +kernel
theorem dX3_run_73 : decode cX3_run 73 = .ok (.iload_n 3, 1) := by decide +kernel
theorem dX3_run_74 : decode cX3_run 74 = .ok (.putfield 32, 3) := by decide +kernel
theorem dX3_run_77 : decode cX3_run 77 = .ok (.aload_n 0, 1) := by decide +kernel
theorem dX3_run_78 : decode cX3_run 78 = .ok (.iload 4, 2) := by decide +kernel
theorem dX3_run_80 : decode cX3_run 80 = .ok (.putfield 96, 3) := by decide +kernel
theorem dX3_run_83 : decode cX3_run 83 = .ok (.aload_n 0, 1) := by decide +kernel
theorem dX3_run_84 : decode cX3_run 84 = .ok (.iload 4, 2) := by decide +kernel
theorem dX3_run_86 : decode cX3_run 86 = .ok (.iload_n 2, 1) := by decide +kernel
theorem dX3_run_87 : decode cX3_run 87 = .ok (.invokevirtual 59, 3) := by decide +kernel
theorem dX3_run_90 : decode cX3_run 90 = .ok (.ireturn, 1) := by decide +kernel
theorem dX3_run_91 : decode cX3_run 91 = .ok (.iinc 3 1, 3) := by decide +kernel
theorem dX3_run_94 : decode cX3_run 94 = .ok (.goto (-42), 3) := by decide +kernel
theorem dX3_run_97 : decode cX3_run 97 = .ok (.aload_n 0, 1) := by decide +kernel
theorem dX3_run_98 : decode cX3_run 98 = .ok (.dup, 1) := by decide +kernel
theorem dX3_run_99 : decode cX3_run 99 = .ok (.getfield 56, 3) := by decide +kernel
theorem dX3_run_102 : decode cX3_run 102 = .ok (.iconst 1, 1) := by decide +kernel
theorem dX3_run_103 : decode cX3_run 103 = .ok (.iadd, 1) := by decide +kernel
theorem dX3_run_104 : decode cX3_run 104 = .ok (.putfield 56, 3) := by decide +kernel
theorem dX3_run_107 : decode cX3_run 107 = .ok (.iinc 2 1, 3) := by decide +kernel
theorem dX3_run_110 : decode cX3_run 110 = .ok (.goto (-65), 3) := by decide +kernel
theorem dX3_run_113 : decode cX3_run 113 = .ok (.aload_n 0, 1) := by decide +kernel
theorem dX3_run_114 : decode cX3_run 114 = .ok (.iload_n 1, 1) := by decide +kernel
theorem dX3_run_115 : decode cX3_run 115 = .ok (.invokevirtual 63, 3) := by decide +kernel
theorem dX3_run_118 : decode cX3_run 118 = .ok (.ireturn, 1) := by decide +kernel
set_option maxRecDepth 20000 in
theorem ggX3_dub_X3_isReel : GoodIn wsX3_dub wsX3_isReel := goodIn_r _ [7, 8, 42, 43, 44, 45, 46, 47, 48, 49, 50, 51, 52, 53, 54, 55, 56, 57, 58] (by decide +kernel) (by decide +kernel)
set_option maxRecDepth 20000 in
theorem gX3_dub_X3_isReel : GoodIn wsX3_dub (wsV RX3 67 RX3 yX3_isReel wsX3_isReel) := goodIn_app (goodIn_of _ (by decide +kernel)) ggX3_dub_X3_isReel
set_option maxRecDepth 20000 in
theorem ggX3_dub_X3_isTrack : GoodIn wsX3_dub wsX3_isTrack := goodIn_r _ [12] (by decide +kernel) (by decide +kernel)
set_option maxRecDepth 20000 in
theorem gX3_dub_X3_isTrack : GoodIn wsX3_dub (wsV RX3 71 RX3 yX3_isTrack wsX3_isTrack) := goodIn_app (goodIn_of _ (by decide +kernel)) ggX3_dub_X3_isTrack
set_option maxRecDepth 20000 in
theorem ggX3_dub_X3_fails : GoodIn wsX3_dub wsX3_fails := goodIn_r _ [16, 17, 42, 43, 44, 45, 46, 47, 48, 49, 50, 51, 52, 53, 54, 55, 56, 57, 58] (by decide +kernel) (by decide +kernel)
set_option maxRecDepth 20000 in
theorem gX3_dub_X3_fails : GoodIn wsX3_dub (wsV RX3 59 RX3 yX3_fails wsX3_fails) := goodIn_app (goodIn_of _ (by decide +kernel)) ggX3_dub_X3_fails
set_option maxRecDepth 20000 in
theorem ggX3_dub_X3_fault : GoodIn wsX3_dub wsX3_fault := goodIn_r _ [21, 22, 23, 24, 25, 6, 26, 27, 42, 43, 44, 45, 46, 47, 48, 49, 50, 51, 52, 53, 54, 55, 56, 57, 58] (by decide +kernel) (by decide +kernel)
set_option maxRecDepth 20000 in
theorem gX3_dub_X3_fault : GoodIn wsX3_dub (wsV RX3 87 RX3 yX3_fault wsX3_fault) := goodIn_app (goodIn_of _ (by decide +kernel)) ggX3_dub_X3_fault
set_option maxRecDepth 20000 in
theorem ggX3_dub_X3_at : GoodIn wsX3_dub wsX3_at := goodIn_r _ [31] (by decide +kernel) (by decide +kernel)
set_option maxRecDepth 20000 in
theorem gX3_dub_X3_at : GoodIn wsX3_dub (wsV RX3 74 RX3 yX3_at wsX3_at) := goodIn_app (goodIn_of _ (by decide +kernel)) ggX3_dub_X3_at
set_option maxRecDepth 20000 in
theorem ggX3_dub_X3_fit : GoodIn wsX3_dub wsX3_fit := goodIn_r _ [35, 36, 37] (by decide +kernel) (by decide +kernel)
set_option maxRecDepth 20000 in
theorem gX3_dub_X3_fit : GoodIn wsX3_dub (wsV RX3 93 RX3 yX3_fit wsX3_fit) := goodIn_app (goodIn_of _ (by decide +kernel)) ggX3_dub_X3_fit
set_option maxRecDepth 20000 in
theorem ggX3_dub_X3_done : GoodIn wsX3_dub wsX3_done := goodIn_r _ [41, 17, 42, 43, 44, 45, 46, 47, 48, 49, 50, 51, 52, 53, 54, 55, 56, 57, 58] (by decide +kernel) (by decide +kernel)
set_option maxRecDepth 20000 in
theorem gX3_dub_X3_done : GoodIn wsX3_dub (wsV RX3 63 RX3 yX3_done wsX3_done) := goodIn_app (goodIn_of _ (by decide +kernel)) ggX3_dub_X3_done
theorem dX3_dub_0 : decode cX3_dub 0 = .ok (.aload_n 0, 1) := by decide +kernel
theorem dX3_dub_1 : decode cX3_dub 1 = .ok (.iload_n 1, 1) := by decide +kernel
theorem dX3_dub_2 : decode cX3_dub 2 = .ok (.invokevirtual 67, 3) := by decide +kernel
theorem dX3_dub_5 : decode cX3_dub 5 = .ok (.ifCond .eq 41, 3) := by decide +kernel
theorem dX3_dub_8 : decode cX3_dub 8 = .ok (.aload_n 0, 1) := by decide +kernel
theorem dX3_dub_9 : decode cX3_dub 9 = .ok (.iload_n 2, 1) := by decide +kernel
theorem dX3_dub_10 : decode cX3_dub 10 = .ok (.invokevirtual 71, 3) := by decide +kernel
theorem dX3_dub_13 : decode cX3_dub 13 = .ok (.ifCond .eq 33, 3) := by decide +kernel
theorem dX3_dub_16 : decode cX3_dub 16 = .ok (.iload 4, 2) := by decide +kernel
theorem dX3_dub_18 : decode cX3_dub 18 = .ok (.ifCond .lt 28, 3) := by decide +kernel
theorem dX3_dub_21 : decode cX3_dub 21 = .ok (.iload 4, 2) := by decide +kernel
theorem dX3_dub_23 : decode cX3_dub 23 = .ok (.bipush 64, 2) := by decide +kernel
theorem dX3_dub_25 : decode cX3_dub 25 = .ok (.if_icmp .gt 21, 3) := by decide +kernel
theorem dX3_dub_28 : decode cX3_dub 28 = .ok (.aload_n 0, 1) := by decide +kernel
theorem dX3_dub_29 : decode cX3_dub 29 = .ok (.iload 5, 2) := by decide +kernel
theorem dX3_dub_31 : decode cX3_dub 31 = .ok (.invokevirtual 67, 3) := by decide +kernel
theorem dX3_dub_34 : decode cX3_dub 34 = .ok (.ifCond .eq 12, 3) := by decide +kernel
theorem dX3_dub_37 : decode cX3_dub 37 = .ok (.aload_n 0, 1) := by decide +kernel
theorem dX3_dub_38 : decode cX3_dub 38 = .ok (.iload 6, 2) := by decide +kernel
theorem dX3_dub_40 : decode cX3_dub 40 = .ok (.invokevirtual 71, 3) := by decide +kernel
theorem dX3_dub_43 : decode cX3_dub 43 = .ok (.ifCond .ne 10, 3) := by decide +kernel
theorem dX3_dub_46 : decode cX3_dub 46 = .ok (.aload_n 0, 1) := by decide +kernel
theorem dX3_dub_47 : decode cX3_dub 47 = .ok (.iconst 1, 1) := by decide +kernel
theorem dX3_dub_48 : decode cX3_dub 48 = .ok (.iconst 0, 1) := by decide +kernel
theorem dX3_dub_49 : decode cX3_dub 49 = .ok (.invokevirtual 59, 3) := by decide +kernel
theorem dX3_dub_52 : decode cX3_dub 52 = .ok (.ireturn, 1) := by decide +kernel
theorem dX3_dub_53 : decode cX3_dub 53 = .ok (.iconst 0, 1) := by decide +kernel
theorem dX3_dub_54 : decode cX3_dub 54 = .ok (.istore 7, 2) := by decide +kernel
theorem dX3_dub_56 : decode cX3_dub 56 = .ok (.iload 7, 2) := by decide +kernel
theorem dX3_dub_58 : decode cX3_dub 58 = .ok (.iload 4, 2) := by decide +kernel
theorem dX3_dub_60 : decode cX3_dub 60 = .ok (.if_icmp .ge 98, 3) := by decide +kernel
theorem dX3_dub_63 : decode cX3_dub 63 = .ok (.aload_n 0, 1) := by decide +kernel
theorem dX3_dub_64 : decode cX3_dub 64 = .ok (.iload_n 1, 1) := by decide +kernel
theorem dX3_dub_65 : decode cX3_dub 65 = .ok (.iload_n 2, 1) := by decide +kernel
theorem dX3_dub_66 : decode cX3_dub 66 = .ok (.iload_n 3, 1) := by decide +kernel
theorem dX3_dub_67 : decode cX3_dub 67 = .ok (.iload 7, 2) := by decide +kernel
theorem dX3_dub_69 : decode cX3_dub 69 = .ok (.iadd, 1) := by decide +kernel
theorem dX3_dub_70 : decode cX3_dub 70 = .ok (.invokevirtual 87, 3) := by decide +kernel
theorem dX3_dub_73 : decode cX3_dub 73 = .ok (.istore 8, 2) := by decide +kernel
theorem dX3_dub_75 : decode cX3_dub 75 = .ok (.iload 8, 2) := by decide +kernel
theorem dX3_dub_77 : decode cX3_dub 77 = .ok (.ifCond .ne 20, 3) := by decide +kernel
theorem dX3_dub_80 : decode cX3_dub 80 = .ok (.aload_n 0, 1) := by decide +kernel
theorem dX3_dub_81 : decode cX3_dub 81 = .ok (.iload 5, 2) := by decide +kernel
theorem dX3_dub_83 : decode cX3_dub 83 = .ok (.iload 6, 2) := by decide +kernel
theorem dX3_dub_85 : decode cX3_dub 85 = .ok (.aload_n 0, 1) := by decide +kernel
theorem dX3_dub_86 : decode cX3_dub 86 = .ok (.getfield 56, 3) := by decide +kernel
theorem dX3_dub_89 : decode cX3_dub 89 = .ok (.iload 7, 2) := by decide +kernel
theorem dX3_dub_91 : decode cX3_dub 91 = .ok (.iadd, 1) := by decide +kernel
theorem dX3_dub_92 : decode cX3_dub 92 = .ok (.invokevirtual 87, 3) := by decide +kernel
theorem dX3_dub_95 : decode cX3_dub 95 = .ok (.istore 8, 2) := by decide +kernel
theorem dX3_dub_97 : decode cX3_dub 97 = .ok (.iload 8, 2) := by decide +kernel
theorem dX3_dub_99 : decode cX3_dub 99 = .ok (.ifCond .eq 12, 3) := by decide +kernel
theorem dX3_dub_102 : decode cX3_dub 102 = .ok (.aload_n 0, 1) := by decide +kernel
theorem dX3_dub_103 : decode cX3_dub 103 = .ok (.iload 8, 2) := by decide +kernel
theorem dX3_dub_105 : decode cX3_dub 105 = .ok (.iload 7, 2) := by decide +kernel
theorem dX3_dub_107 : decode cX3_dub 107 = .ok (.invokevirtual 59, 3) := by decide +kernel
theorem dX3_dub_110 : decode cX3_dub 110 = .ok (.ireturn, 1) := by decide +kernel
theorem dX3_dub_111 : decode cX3_dub 111 = .ok (.aload_n 0, 1) := by decide +kernel
theorem dX3_dub_112 : decode cX3_dub 112 = .ok (.getfield 16, 3) := by decide +kernel
theorem dX3_dub_115 : decode cX3_dub 115 = .ok (.aload_n 0, 1) := by decide +kernel
theorem dX3_dub_116 : decode cX3_dub 116 = .ok (.iload 5, 2) := by decide +kernel
theorem dX3_dub_118 : decode cX3_dub 118 = .ok (.iload 6, 2) := by decide +kernel
theorem dX3_dub_120 : decode cX3_dub 120 = .ok (.aload_n 0, 1) := by decide +kernel
theorem dX3_dub_121 : decode cX3_dub 121 = .ok (.getfield 56, 3) := by decide +kernel
theorem dX3_dub_124 : decode cX3_dub 124 = .ok (.iload 7, 2) := by decide +kernel
theorem dX3_dub_126 : decode cX3_dub 126 = .ok (.iadd, 1) := by decide +kernel
theorem dX3_dub_127 : decode cX3_dub 127 = .ok (.invokevirtual 74, 3) := by decide +kernel
theorem dX3_dub_130 : decode cX3_dub 130 = .ok (.aload_n 0, 1) := by decide +kernel
theorem dX3_dub_131 : decode cX3_dub 131 = .ok (.iload 6, 2) := by decide +kernel
theorem dX3_dub_133 : decode cX3_dub 133 = .ok (.aload_n 0, 1) := by decide +kernel
theorem dX3_dub_134 : decode cX3_dub 134 = .ok (.getfield 16, 3) := by decide +kernel
theorem dX3_dub_137 : decode cX3_dub 137 = .ok (.aload_n 0, 1) := by decide +kernel
theorem dX3_dub_138 : decode cX3_dub 138 = .ok (.iload_n 1, 1) := by decide +kernel
theorem dX3_dub_139 : decode cX3_dub 139 = .ok (.iload_n 2, 1) := by decide +kernel
theorem dX3_dub_140 : decode cX3_dub 140 = .ok (.iload_n 3, 1) := by decide +kernel
theorem dX3_dub_141 : decode cX3_dub 141 = .ok (.iload 7, 2) := by decide +kernel
theorem dX3_dub_143 : decode cX3_dub 143 = .ok (.iadd, 1) := by decide +kernel
theorem dX3_dub_144 : decode cX3_dub 144 = .ok (.invokevirtual 74, 3) := by decide +kernel
theorem dX3_dub_147 : decode cX3_dub 147 = .ok (.iaload, 1) := by decide +kernel
theorem dX3_dub_148 : decode cX3_dub 148 = .ok (.invokevirtual 93, 3) := by decide +kernel
theorem dX3_dub_151 : decode cX3_dub 151 = .ok (.iastore, 1) := by decide +kernel
theorem dX3_dub_152 : decode cX3_dub 152 = .ok (.iinc 7 1, 3) := by decide +kernel
theorem dX3_dub_155 : decode cX3_dub 155 = .ok (.goto (-99), 3) := by decide +kernel
theorem dX3_dub_158 : decode cX3_dub 158 = .ok (.aload_n 0, 1) := by decide +kernel
theorem dX3_dub_159 : decode cX3_dub 159 = .ok (.iload 4, 2) := by decide +kernel
theorem dX3_dub_161 : decode cX3_dub 161 = .ok (.invokevirtual 63, 3) := by decide +kernel
theorem dX3_dub_164 : decode cX3_dub 164 = .ok (.ireturn, 1) := by decide +kernel
set_option maxRecDepth 20000 in
theorem ggX3_turn_X3_isTrack : GoodIn wsX3_turn wsX3_isTrack := goodIn_r _ [7] (by decide +kernel) (by decide +kernel)
set_option maxRecDepth 20000 in
theorem gX3_turn_X3_isTrack : GoodIn wsX3_turn (wsV RX3 71 RX3 yX3_isTrack wsX3_isTrack) := goodIn_app (goodIn_of _ (by decide +kernel)) ggX3_turn_X3_isTrack
set_option maxRecDepth 20000 in
theorem ggX3_turn_X3_fails : GoodIn wsX3_turn wsX3_fails := goodIn_r _ [11, 12, 37, 38, 39, 40, 41, 42, 43, 44, 45, 46, 47, 48, 49, 50, 51, 52, 53] (by decide +kernel) (by decide +kernel)
set_option maxRecDepth 20000 in
theorem gX3_turn_X3_fails : GoodIn wsX3_turn (wsV RX3 59 RX3 yX3_fails wsX3_fails) := goodIn_app (goodIn_of _ (by decide +kernel)) ggX3_turn_X3_fails
set_option maxRecDepth 20000 in
theorem ggX3_turn_X3_place : GoodIn wsX3_turn wsX3_place := goodIn_r _ [16, 17, 18, 37, 38, 39, 40, 41, 42, 43, 44, 45, 46, 47, 48, 49, 50, 51, 52, 53] (by decide +kernel) (by decide +kernel)
set_option maxRecDepth 20000 in
theorem gX3_turn_X3_place : GoodIn wsX3_turn (wsV RX3 84 RX3 yX3_place wsX3_place) := goodIn_app (goodIn_of _ (by decide +kernel)) ggX3_turn_X3_place
set_option maxRecDepth 20000 in
theorem ggX3_turn_X3_fault : GoodIn wsX3_turn wsX3_fault := goodIn_r _ [22, 23, 24, 25, 26, 6, 27, 28, 37, 38, 39, 40, 41, 42, 43, 44, 45, 46, 47, 48, 49, 50, 51, 52, 53] (by decide +kernel) (by decide +kernel)
set_option maxRecDepth 20000 in
theorem gX3_turn_X3_fault : GoodIn wsX3_turn (wsV RX3 87 RX3 yX3_fault wsX3_fault) := goodIn_app (goodIn_of _ (by decide +kernel)) ggX3_turn_X3_fault
set_option maxRecDepth 20000 in
theorem ggX3_turn_X3_at : GoodIn wsX3_turn wsX3_at := goodIn_r _ [32] (by decide +kernel) (by decide +kernel)
set_option maxRecDepth 20000 in
theorem gX3_turn_X3_at : GoodIn wsX3_turn (wsV RX3 74 RX3 yX3_at wsX3_at) := goodIn_app (goodIn_of _ (by decide +kernel)) ggX3_turn_X3_at
set_option maxRecDepth 20000 in
theorem ggX3_turn_X3_done : GoodIn wsX3_turn wsX3_done := goodIn_r _ [36, 12, 37, 38, 39, 40, 41, 42, 43, 44, 45, 46, 47, 48, 49, 50, 51, 52, 53] (by decide +kernel) (by decide +kernel)
set_option maxRecDepth 20000 in
theorem gX3_turn_X3_done : GoodIn wsX3_turn (wsV RX3 63 RX3 yX3_done wsX3_done) := goodIn_app (goodIn_of _ (by decide +kernel)) ggX3_turn_X3_done
theorem dX3_turn_0 : decode cX3_turn 0 = .ok (.aload_n 0, 1) := by decide +kernel
theorem dX3_turn_1 : decode cX3_turn 1 = .ok (.iload_n 1, 1) := by decide +kernel
theorem dX3_turn_2 : decode cX3_turn 2 = .ok (.invokevirtual 71, 3) := by decide +kernel
theorem dX3_turn_5 : decode cX3_turn 5 = .ok (.ifCond .eq 13, 3) := by decide +kernel
theorem dX3_turn_8 : decode cX3_turn 8 = .ok (.iload_n 2, 1) := by decide +kernel
theorem dX3_turn_9 : decode cX3_turn 9 = .ok (.ifCond .lt 9, 3) := by decide +kernel
theorem dX3_turn_12 : decode cX3_turn 12 = .ok (.iload_n 2, 1) := by decide +kernel
theorem dX3_turn_13 : decode cX3_turn 13 = .ok (.bipush 64, 2) := by decide +kernel
theorem dX3_turn_15 : decode cX3_turn 15 = .ok (.if_icmp .le 10, 3) := by decide +kernel
theorem dX3_turn_18 : decode cX3_turn 18 = .ok (.aload_n 0, 1) := by decide +kernel
theorem dX3_turn_19 : decode cX3_turn 19 = .ok (.iconst 1, 1) := by decide +kernel
theorem dX3_turn_20 : decode cX3_turn 20 = .ok (.iconst 0, 1) := by decide +kernel
theorem dX3_turn_21 : decode cX3_turn 21 = .ok (.invokevirtual 59, 3) := by decide +kernel
theorem dX3_turn_24 : decode cX3_turn 24 = .ok (.ireturn, 1) := by decide +kernel
theorem dX3_turn_25 : decode cX3_turn 25 = .ok (.aload_n 0, 1) := by decide +kernel
theorem dX3_turn_26 : decode cX3_turn 26 = .ok (.getfield 19, 3) := by decide +kernel
theorem dX3_turn_29 : decode cX3_turn 29 = .ok (.iconst (-1), 1) := by decide +kernel
theorem dX3_turn_30 : decode cX3_turn 30 = .ok (.if_icmp .ne 10, 3) := by decide +kernel
theorem dX3_turn_33 : decode cX3_turn 33 = .ok (.aload_n 0, 1) := by decide +kernel
theorem dX3_turn_34 : decode cX3_turn 34 = .ok (.iconst 5, 1) := by decide +kernel
theorem dX3_turn_35 : decode cX3_turn 35 = .ok (.iconst 0, 1) := by decide +kernel
theorem dX3_turn_36 : decode cX3_turn 36 = .ok (.invokevirtual 59, 3) := by decide +kernel
theorem dX3_turn_39 : decode cX3_turn 39 = .ok (.ireturn, 1) := by decide +kernel
theorem dX3_turn_40 : decode cX3_turn 40 = .ok (.aload_n 0, 1) := by decide +kernel
theorem dX3_turn_41 : decode cX3_turn 41 = .ok (.iload_n 1, 1) := by decide +kernel
theorem dX3_turn_42 : decode cX3_turn 42 = .ok (.invokevirtual 84, 3) := by decide +kernel
theorem dX3_turn_45 : decode cX3_turn 45 = .ok (.istore_n 3, 1) := by decide +kernel
theorem dX3_turn_46 : decode cX3_turn 46 = .ok (.iconst 0, 1) := by decide +kernel
theorem dX3_turn_47 : decode cX3_turn 47 = .ok (.istore 4, 2) := by decide +kernel
theorem dX3_turn_49 : decode cX3_turn 49 = .ok (.iload 4, 2) := by decide +kernel
theorem dX3_turn_51 : decode cX3_turn 51 = .ok (.iload_n 2, 1) := by decide +kernel
theorem dX3_turn_52 : decode cX3_turn 52 = .ok (.iconst 2, 1) := by decide +kernel
theorem dX3_turn_53 : decode cX3_turn 53 = .ok (.idiv, 1) := by decide +kernel
theorem dX3_turn_54 : decode cX3_turn 54 = .ok (.if_icmp .ge 128, 3) := by decide +kernel
theorem dX3_turn_57 : decode cX3_turn 57 = .ok (.aload_n 0, 1) := by decide +kernel
theorem dX3_turn_58 : decode cX3_turn 58 = .ok (.aload_n 0, 1) := by decide +kernel
theorem dX3_turn_59 : decode cX3_turn 59 = .ok (.getfield 19, 3) := by decide +kernel
theorem dX3_turn_62 : decode cX3_turn 62 = .ok (.iload_n 1, 1) := by decide +kernel
theorem dX3_turn_63 : decode cX3_turn 63 = .ok (.iload_n 3, 1) := by decide +kernel
theorem dX3_turn_64 : decode cX3_turn 64 = .ok (.iload 4, 2) := by decide +kernel
theorem dX3_turn_66 : decode cX3_turn 66 = .ok (.iadd, 1) := by decide +kernel
theorem dX3_turn_67 : decode cX3_turn 67 = .ok (.invokevirtual 87, 3) := by decide +kernel
theorem dX3_turn_70 : decode cX3_turn 70 = .ok (.istore 5, 2) := by decide +kernel
theorem dX3_turn_72 : decode cX3_turn 72 = .ok (.iload 5, 2) := by decide +kernel
theorem dX3_turn_74 : decode cX3_turn 74 = .ok (.ifCond .ne 22, 3) := by decide +kernel
theorem dX3_turn_77 : decode cX3_turn 77 = .ok (.aload_n 0, 1) := by decide +kernel
theorem dX3_turn_78 : decode cX3_turn 78 = .ok (.aload_n 0, 1) := by decide +kernel
theorem dX3_turn_79 : decode cX3_turn 79 = .ok (.getfield 19, 3) := by decide +kernel
theorem dX3_turn_82 : decode cX3_turn 82 = .ok (.iload_n 1, 1) := by decide +kernel
theorem dX3_turn_83 : decode cX3_turn 83 = .ok (.iload_n 3, 1) := by decide +kernel
theorem dX3_turn_84 : decode cX3_turn 84 = .ok (.iload_n 2, 1) := by decide +kernel
theorem dX3_turn_85 : decode cX3_turn 85 = .ok (.iadd, 1) := by decide +kernel
theorem dX3_turn_86 : decode cX3_turn 86 = .ok (.iconst 1, 1) := by decide +kernel
theorem dX3_turn_87 : decode cX3_turn 87 = .ok (.isub, 1) := by decide +kernel
theorem dX3_turn_88 : decode cX3_turn 88 = .ok (.iload 4, 2) := by decide +kernel
theorem dX3_turn_90 : decode cX3_turn 90 = .ok (.isub, 1) := by decide +kernel
theorem dX3_turn_91 : decode cX3_turn 91 = .ok (.invokevirtual 87, 3) := by decide +kernel
theorem dX3_turn_94 : decode cX3_turn 94 = .ok (.istore 5, 2) := by decide +kernel
theorem dX3_turn_96 : decode cX3_turn 96 = .ok (.iload 5, 2) := by decide +kernel
theorem dX3_turn_98 : decode cX3_turn 98 = .ok (.ifCond .eq 12, 3) := by decide +kernel
theorem dX3_turn_101 : decode cX3_turn 101 = .ok (.aload_n 0, 1) := by decide +kernel
theorem dX3_turn_102 : decode cX3_turn 102 = .ok (.iload 5, 2) := by decide +kernel
theorem dX3_turn_104 : decode cX3_turn 104 = .ok (.iload 4, 2) := by decide +kernel
theorem dX3_turn_106 : decode cX3_turn 106 = .ok (.invokevirtual 59, 3) := by decide +kernel
theorem dX3_turn_109 : decode cX3_turn 109 = .ok (.ireturn, 1) := by decide +kernel
theorem dX3_turn_110 : decode cX3_turn 110 = .ok (.aload_n 0, 1) := by decide +kernel
theorem dX3_turn_111 : decode cX3_turn 111 = .ok (.aload_n 0, 1) := by decide +kernel
theorem dX3_turn_112 : decode cX3_turn 112 = .ok (.getfield 19, 3) := by decide +kernel
theorem dX3_turn_115 : decode cX3_turn 115 = .ok (.iload_n 1, 1) := by decide +kernel
theorem dX3_turn_116 : decode cX3_turn 116 = .ok (.iload_n 3, 1) := by decide +kernel
theorem dX3_turn_117 : decode cX3_turn 117 = .ok (.iload 4, 2) := by decide +kernel
theorem dX3_turn_119 : decode cX3_turn 119 = .ok (.iadd, 1) := by decide +kernel
theorem dX3_turn_120 : decode cX3_turn 120 = .ok (.invokevirtual 74, 3) := by decide +kernel
theorem dX3_turn_123 : decode cX3_turn 123 = .ok (.istore 6, 2) := by decide +kernel
theorem dX3_turn_125 : decode cX3_turn 125 = .ok (.aload_n 0, 1) := by decide +kernel
theorem dX3_turn_126 : decode cX3_turn 126 = .ok (.aload_n 0, 1) := by decide +kernel
theorem dX3_turn_127 : decode cX3_turn 127 = .ok (.getfield 19, 3) := by decide +kernel
theorem dX3_turn_130 : decode cX3_turn 130 = .ok (.iload_n 1, 1) := by decide +kernel
theorem dX3_turn_131 : decode cX3_turn 131 = .ok (.iload_n 3, 1) := by decide +kernel
theorem dX3_turn_132 : decode cX3_turn 132 = .ok (.iload_n 2, 1) := by decide +kernel
theorem dX3_turn_133 : decode cX3_turn 133 = .ok (.iadd, 1) := by decide +kernel
theorem dX3_turn_134 : decode cX3_turn 134 = .ok (.iconst 1, 1) := by decide +kernel
theorem dX3_turn_135 : decode cX3_turn 135 = .ok (.isub, 1) := by decide +kernel
theorem dX3_turn_136 : decode cX3_turn 136 = .ok (.iload 4, 2) := by decide +kernel
theorem dX3_turn_138 : decode cX3_turn 138 = .ok (.isub, 1) := by decide +kernel
theorem dX3_turn_139 : decode cX3_turn 139 = .ok (.invokevirtual 74, 3) := by decide +kernel
theorem dX3_turn_142 : decode cX3_turn 142 = .ok (.istore 7, 2) := by decide +kernel
theorem dX3_turn_144 : decode cX3_turn 144 = .ok (.aload_n 0, 1) := by decide +kernel
theorem dX3_turn_145 : decode cX3_turn 145 = .ok (.getfield 16, 3) := by decide +kernel
theorem dX3_turn_148 : decode cX3_turn 148 = .ok (.iload 6, 2) := by decide +kernel
theorem dX3_turn_150 : decode cX3_turn 150 = .ok (.iaload, 1) := by decide +kernel
theorem dX3_turn_151 : decode cX3_turn 151 = .ok (.istore 8, 2) := by decide +kernel
theorem dX3_turn_153 : decode cX3_turn 153 = .ok (.aload_n 0, 1) := by decide +kernel
theorem dX3_turn_154 : decode cX3_turn 154 = .ok (.getfield 16, 3) := by decide +kernel
theorem dX3_turn_157 : decode cX3_turn 157 = .ok (.iload 6, 2) := by decide +kernel
theorem dX3_turn_159 : decode cX3_turn 159 = .ok (.aload_n 0, 1) := by decide +kernel
theorem dX3_turn_160 : decode cX3_turn 160 = .ok (.getfield 16, 3) := by decide +kernel
theorem dX3_turn_163 : decode cX3_turn 163 = .ok (.iload 7, 2) := by decide +kernel
theorem dX3_turn_165 : decode cX3_turn 165 = .ok (.iaload, 1) := by decide +kernel
theorem dX3_turn_166 : decode cX3_turn 166 = .ok (.iastore, 1) := by decide +kernel
theorem dX3_turn_167 : decode cX3_turn 167 = .ok (.aload_n 0, 1) := by decide +kernel
theorem dX3_turn_168 : decode cX3_turn 168 = .ok (.getfield 16, 3) := by decide +kernel
theorem dX3_turn_171 : decode cX3_turn 171 = .ok (.iload 7, 2) := by decide +kernel
theorem dX3_turn_173 : decode cX3_turn 173 = .ok (.iload 8, 2) := by decide +kernel
theorem dX3_turn_175 : decode cX3_turn 175 = .ok (.iastore, 1) := by decide +kernel
theorem dX3_turn_176 : decode cX3_turn 176 = .ok (.iinc 4 1, 3) := by decide +kernel
theorem dX3_turn_179 : decode cX3_turn 179 = .ok (.goto (-130), 3) := by decide +kernel
theorem dX3_turn_182 : decode cX3_turn 182 = .ok (.aload_n 0, 1) := by decide +kernel
theorem dX3_turn_183 : decode cX3_turn 183 = .ok (.iload_n 2, 1) := by decide +kernel
theorem dX3_turn_184 : decode cX3_turn 184 = .ok (.iconst 2, 1) := by decide +kernel
theorem dX3_turn_185 : decode cX3_turn 185 = .ok (.idiv, 1) := by decide +kernel
theorem dX3_turn_186 : decode cX3_turn 186 = .ok (.invokevirtual 63, 3) := by decide +kernel
theorem dX3_turn_189 : decode cX3_turn 189 = .ok (.ireturn, 1) := by decide +kernel
set_option maxRecDepth 20000 in
theorem ggX3_scan_X3_headFault : GoodIn wsX3_scan wsX3_headFault := goodIn_r _ [8, 2, 9, 10, 11, 7, 12, 13, 14, 15, 16, 17, 18, 19, 20, 21, 22, 1, 23, 24, 25, 26, 27, 41, 42, 43, 44, 45, 46, 47, 48, 49, 50, 51, 52, 53, 54, 55, 56, 57] (by decide +kernel) (by decide +kernel)
set_option maxRecDepth 20000 in
theorem gX3_scan_X3_headFault : GoodIn wsX3_scan (wsV RX3 90 RX3 yX3_headFault wsX3_headFault) := goodIn_app (goodIn_of _ (by decide +kernel)) ggX3_scan_X3_headFault
set_option maxRecDepth 20000 in
theorem ggX3_scan_X3_fails : GoodIn wsX3_scan wsX3_fails := goodIn_r _ [31, 32, 41, 42, 43, 44, 45, 46, 47, 48, 49, 50, 51, 52, 53, 54, 55, 56, 57] (by decide +kernel) (by decide +kernel)
set_option maxRecDepth 20000 in
theorem gX3_scan_X3_fails : GoodIn wsX3_scan (wsV RX3 59 RX3 yX3_fails wsX3_fails) := goodIn_app (goodIn_of _ (by decide +kernel)) ggX3_scan_X3_fails
set_option maxRecDepth 20000 in
theorem ggX3_scan_X3_place : GoodIn wsX3_scan wsX3_place := goodIn_r _ [16, 17, 18, 41, 42, 43, 44, 45, 46, 47, 48, 49, 50, 51, 52, 53, 54, 55, 56, 57] (by decide +kernel) (by decide +kernel)
set_option maxRecDepth 20000 in
theorem gX3_scan_X3_place : GoodIn wsX3_scan (wsV RX3 84 RX3 yX3_place wsX3_place) := goodIn_app (goodIn_of _ (by decide +kernel)) ggX3_scan_X3_place
set_option maxRecDepth 20000 in
theorem ggX3_scan_X3_at : GoodIn wsX3_scan wsX3_at := goodIn_r _ [36] (by decide +kernel) (by decide +kernel)
set_option maxRecDepth 20000 in
theorem gX3_scan_X3_at : GoodIn wsX3_scan (wsV RX3 74 RX3 yX3_at wsX3_at) := goodIn_app (goodIn_of _ (by decide +kernel)) ggX3_scan_X3_at
set_option maxRecDepth 20000 in
theorem ggX3_scan_X3_done : GoodIn wsX3_scan wsX3_done := goodIn_r _ [40, 32, 41, 42, 43, 44, 45, 46, 47, 48, 49, 50, 51, 52, 53, 54, 55, 56, 57] (by decide +kernel) (by decide +kernel)
set_option maxRecDepth 20000 in
theorem gX3_scan_X3_done : GoodIn wsX3_scan (wsV RX3 63 RX3 yX3_done wsX3_done) := goodIn_app (goodIn_of _ (by decide +kernel)) ggX3_scan_X3_done
theorem dX3_scan_0 : decode cX3_scan 0 = .ok (.aload_n 0, 1) := by decide +kernel
theorem dX3_scan_1 : decode cX3_scan 1 = .ok (.iload_n 1, 1) := by decide +kernel
theorem dX3_scan_2 : decode cX3_scan 2 = .ok (.invokevirtual 90, 3) := by decide +kernel
theorem dX3_scan_5 : decode cX3_scan 5 = .ok (.istore_n 3, 1) := by decide +kernel
theorem dX3_scan_6 : decode cX3_scan 6 = .ok (.iload_n 3, 1) := by decide +kernel
theorem dX3_scan_7 : decode cX3_scan 7 = .ok (.ifCond .eq 10, 3) := by decide +kernel
theorem dX3_scan_10 : decode cX3_scan 10 = .ok (.aload_n 0, 1) := by decide +kernel
theorem dX3_scan_11 : decode cX3_scan 11 = .ok (.iload_n 3, 1) := by decide +kernel
theorem dX3_scan_12 : decode cX3_scan 12 = .ok (.iconst (-1), 1) := by decide +kernel
theorem dX3_scan_13 : decode cX3_scan 13 = .ok (.invokevirtual 59, 3) := by decide +kernel
theorem dX3_scan_16 : decode cX3_scan 16 = .ok (.ireturn, 1) := by decide +kernel
theorem dX3_scan_17 : decode cX3_scan 17 = .ok (.aload_n 0, 1) := by decide +kernel
theorem dX3_scan_18 : decode cX3_scan 18 = .ok (.iload_n 1, 1) := by decide +kernel
theorem dX3_scan_19 : decode cX3_scan 19 = .ok (.invokevirtual 84, 3) := by decide +kernel
theorem dX3_scan_22 : decode cX3_scan 22 = .ok (.istore 4, 2) := by decide +kernel
theorem dX3_scan_24 : decode cX3_scan 24 = .ok (.iload 4, 2) := by decide +kernel
theorem dX3_scan_26 : decode cX3_scan 26 = .ok (.istore 5, 2) := by decide +kernel
theorem dX3_scan_28 : decode cX3_scan 28 = .ok (.iload 5, 2) := by decide +kernel
theorem dX3_scan_30 : decode cX3_scan 30 = .ok (.aload_n 0, 1) := by decide +kernel
theorem dX3_scan_31 : decode cX3_scan 31 = .ok (.getfield 7, 3) := by decide +kernel
theorem dX3_scan_34 : decode cX3_scan 34 = .ok (.aload_n 0, 1) := by decide +kernel
theorem dX3_scan_35 : decode cX3_scan 35 = .ok (.getfield 19, 3) := by decide +kernel
theorem dX3_scan_38 : decode cX3_scan 38 = .ok (.iaload, 1) := by decide +kernel
theorem dX3_scan_39 : decode cX3_scan 39 = .ok (.if_icmp .ge 39, 3) := by decide +kernel
theorem dX3_scan_42 : decode cX3_scan 42 = .ok (.aload_n 0, 1) := by decide +kernel
theorem dX3_scan_43 : decode cX3_scan 43 = .ok (.getfield 16, 3) := by decide +kernel
theorem dX3_scan_46 : decode cX3_scan 46 = .ok (.aload_n 0, 1) := by decide +kernel
theorem dX3_scan_47 : decode cX3_scan 47 = .ok (.aload_n 0, 1) := by decide +kernel
theorem dX3_scan_48 : decode cX3_scan 48 = .ok (.getfield 19, 3) := by decide +kernel
theorem dX3_scan_51 : decode cX3_scan 51 = .ok (.iload_n 1, 1) := by decide +kernel
theorem dX3_scan_52 : decode cX3_scan 52 = .ok (.iload 5, 2) := by decide +kernel
theorem dX3_scan_54 : decode cX3_scan 54 = .ok (.invokevirtual 74, 3) := by decide +kernel
theorem dX3_scan_57 : decode cX3_scan 57 = .ok (.iaload, 1) := by decide +kernel
theorem dX3_scan_58 : decode cX3_scan 58 = .ok (.iload_n 2, 1) := by decide +kernel
theorem dX3_scan_59 : decode cX3_scan 59 = .ok (.if_icmp .ne 13, 3) := by decide +kernel
theorem dX3_scan_62 : decode cX3_scan 62 = .ok (.aload_n 0, 1) := by decide +kernel
theorem dX3_scan_63 : decode cX3_scan 63 = .ok (.iload 5, 2) := by decide +kernel
theorem dX3_scan_65 : decode cX3_scan 65 = .ok (.iload 4, 2) := by decide +kernel
theorem dX3_scan_67 : decode cX3_scan 67 = .ok (.isub, 1) := by decide +kernel
theorem dX3_scan_68 : decode cX3_scan 68 = .ok (.invokevirtual 63, 3) := by decide +kernel
theorem dX3_scan_71 : decode cX3_scan 71 = .ok (.ireturn, 1) := by decide +kernel
theorem dX3_scan_72 : decode cX3_scan 72 = .ok (.iinc 5 1, 3) := by decide +kernel
theorem dX3_scan_75 : decode cX3_scan 75 = .ok (.goto (-47), 3) := by decide +kernel
theorem dX3_scan_78 : decode cX3_scan 78 = .ok (.aload_n 0, 1) := by decide +kernel
theorem dX3_scan_79 : decode cX3_scan 79 = .ok (.iconst 3, 1) := by decide +kernel
theorem dX3_scan_80 : decode cX3_scan 80 = .ok (.iconst (-1), 1) := by decide +kernel
theorem dX3_scan_81 : decode cX3_scan 81 = .ok (.invokevirtual 59, 3) := by decide +kernel
theorem dX3_scan_84 : decode cX3_scan 84 = .ok (.ireturn, 1) := by decide +kernel
set_option maxRecDepth 20000 in
theorem ggX3_sheet_X3_fails : GoodIn wsX3_sheet wsX3_fails := goodIn_r _ [8, 9, 14, 15, 16, 17, 18, 19, 20, 21, 22, 23, 24, 25, 26, 27, 28, 29, 30] (by decide +kernel) (by decide +kernel)
set_option maxRecDepth 20000 in
theorem gX3_sheet_X3_fails : GoodIn wsX3_sheet (wsV RX3 59 RX3 yX3_fails wsX3_fails) := goodIn_app (goodIn_of _ (by decide +kernel)) ggX3_sheet_X3_fails
set_option maxRecDepth 20000 in
theorem ggX3_sheet_X3_done : GoodIn wsX3_sheet wsX3_done := goodIn_r _ [13, 9, 14, 15, 16, 17, 18, 19, 20, 21, 22, 23, 24, 25, 26, 27, 28, 29, 30] (by decide +kernel) (by decide +kernel)
set_option maxRecDepth 20000 in
theorem gX3_sheet_X3_done : GoodIn wsX3_sheet (wsV RX3 63 RX3 yX3_done wsX3_done) := goodIn_app (goodIn_of _ (by decide +kernel)) ggX3_sheet_X3_done
theorem dX3_sheet_0 : decode cX3_sheet 0 = .ok (.iload_n 1, 1) := by decide +kernel
theorem dX3_sheet_1 : decode cX3_sheet 1 = .ok (.bipush 16, 2) := by decide +kernel
theorem dX3_sheet_3 : decode cX3_sheet 3 = .ok (.if_icmp .gt 9, 3) := by decide +kernel
theorem dX3_sheet_6 : decode cX3_sheet 6 = .ok (.iload_n 2, 1) := by decide +kernel
theorem dX3_sheet_7 : decode cX3_sheet 7 = .ok (.bipush 16, 2) := by decide +kernel
theorem dX3_sheet_9 : decode cX3_sheet 9 = .ok (.if_icmp .le 10, 3) := by decide +kernel
theorem dX3_sheet_12 : decode cX3_sheet 12 = .ok (.aload_n 0, 1) := by decide +kernel
theorem dX3_sheet_13 : decode cX3_sheet 13 = .ok (.iconst 1, 1) := by decide +kernel
theorem dX3_sheet_14 : decode cX3_sheet 14 = .ok (.iconst (-1), 1) := by decide +kernel
theorem dX3_sheet_15 : decode cX3_sheet 15 = .ok (.invokevirtual 59, 3) := by decide +kernel
theorem dX3_sheet_18 : decode cX3_sheet 18 = .ok (.ireturn, 1) := by decide +kernel
theorem dX3_sheet_19 : decode cX3_sheet 19 = .ok (.iload_n 1, 1) := by decide +kernel
theorem dX3_sheet_20 : decode cX3_sheet 20 = .ok (.ifCond .lt 7, 3) := by decide +kernel
theorem dX3_sheet_23 : decode cX3_sheet 23 = .ok (.iload_n 2, 1) := by decide +kernel
theorem dX3_sheet_24 : decode cX3_sheet 24 = .ok (.ifCond .ge 10, 3) := by decide +kernel
theorem dX3_sheet_27 : decode cX3_sheet 27 = .ok (.aload_n 0, 1) := by decide +kernel
theorem dX3_sheet_28 : decode cX3_sheet 28 = .ok (.iconst 4, 1) := by decide +kernel
theorem dX3_sheet_29 : decode cX3_sheet 29 = .ok (.iconst (-1), 1) := by decide +kernel
theorem dX3_sheet_30 : decode cX3_sheet 30 = .ok (.invokevirtual 59, 3) := by decide +kernel
theorem dX3_sheet_33 : decode cX3_sheet 33 = .ok (.ireturn, 1) := by decide +kernel
theorem dX3_sheet_34 : decode cX3_sheet 34 = .ok (.aload_n 0, 1) := by decide +kernel
theorem dX3_sheet_35 : decode cX3_sheet 35 = .ok (.iload_n 1, 1) := by decide +kernel
theorem dX3_sheet_36 : decode cX3_sheet 36 = .ok (.putfield 35, 3) := by decide +kernel
theorem dX3_sheet_39 : decode cX3_sheet 39 = .ok (.aload_n 0, 1) := by decide +kernel
theorem dX3_sheet_40 : decode cX3_sheet 40 = .ok (.iload_n 2, 1) := by decide +kernel
theorem dX3_sheet_41 : decode cX3_sheet 41 = .ok (.putfield 38, 3) := by decide +kernel
theorem dX3_sheet_44 : decode cX3_sheet 44 = .ok (.iconst 0, 1) := by decide +kernel
theorem dX3_sheet_45 : decode cX3_sheet 45 = .ok (.istore_n 3, 1) := by decide +kernel
theorem dX3_sheet_46 : decode cX3_sheet 46 = .ok (.iload_n 3, 1) := by decide +kernel
theorem dX3_sheet_47 : decode cX3_sheet 47 = .ok (.sipush 256, 3) := by decide +kernel
theorem dX3_sheet_50 : decode cX3_sheet 50 = .ok (.if_icmp .ge 16, 3) := by decide +kernel
theorem dX3_sheet_53 : decode cX3_sheet 53 = .ok (.aload_n 0, 1) := by decide +kernel
theorem dX3_sheet_54 : decode cX3_sheet 54 = .ok (.getfield 41, 3) := by decide +kernel
theorem dX3_sheet_57 : decode cX3_sheet 57 = .ok (.iload_n 3, 1) := by decide +kernel
theorem dX3_sheet_58 : decode cX3_sheet 58 = .ok (.iconst 0, 1) := by decide +kernel
theorem dX3_sheet_59 : decode cX3_sheet 59 = .ok (.iastore, 1) := by decide +kernel
theorem dX3_sheet_60 : decode cX3_sheet 60 = .ok (.iinc 3 1, 3) := by decide +kernel
theorem dX3_sheet_63 : decode cX3_sheet 63 = .ok (.goto (-17), 3) := by decide +kernel
theorem dX3_sheet_66 : decode cX3_sheet 66 = .ok (.aload_n 0, 1) := by decide +kernel
theorem dX3_sheet_67 : decode cX3_sheet 67 = .ok (.iload_n 1, 1) := by decide +kernel
theorem dX3_sheet_68 : decode cX3_sheet 68 = .ok (.iload_n 2, 1) := by decide +kernel
theorem dX3_sheet_69 : decode cX3_sheet 69 = .ok (.imul, 1) := by decide +kernel
theorem dX3_sheet_70 : decode cX3_sheet 70 = .ok (.invokevirtual 63, 3) := by decide +kernel
theorem dX3_sheet_73 : decode cX3_sheet 73 = .ok (.ireturn, 1) := by decide +kernel
theorem dX3_cellFault_0 : decode cX3_cellFault 0 = .ok (.aload_n 0, 1) := by decide +kernel
theorem dX3_cellFault_1 : decode cX3_cellFault 1 = .ok (.getfield 35, 3) := by decide +kernel
theorem dX3_cellFault_4 : decode cX3_cellFault 4 = .ok (.iconst (-1), 1) := by decide +kernel
theorem dX3_cellFault_5 : decode cX3_cellFault 5 = .ok (.if_icmp .ne 5, 3) := by decide +kernel
theorem dX3_cellFault_8 : decode cX3_cellFault 8 = .ok (.iconst 2, 1) := by decide +kernel
theorem dX3_cellFault_9 : decode cX3_cellFault 9 = .ok (.ireturn, 1) := by decide +kernel
theorem dX3_cellFault_10 : decode cX3_cellFault 10 = .ok (.iload_n 1, 1) := by decide +kernel
theorem dX3_cellFault_11 : decode cX3_cellFault 11 = .ok (.ifCond .lt 23, 3) := by decide +kernel
theorem dX3_cellFault_14 : decode cX3_cellFault 14 = .ok (.iload_n 1, 1) := by decide +kernel
theorem dX3_cellFault_15 : decode cX3_cellFault 15 = .ok (.aload_n 0, 1) := by decide +kernel
theorem dX3_cellFault_16 : decode cX3_cellFault 16 = .ok (.getfield 35, 3) := by decide +kernel
theorem dX3_cellFault_19 : decode cX3_cellFault 19 = .ok (.if_icmp .ge 15, 3) := by decide +kernel
theorem dX3_cellFault_22 : decode cX3_cellFault 22 = .ok (.iload_n 2, 1) := by decide +kernel
theorem dX3_cellFault_23 : decode cX3_cellFault 23 = .ok (.ifCond .lt 11, 3) := by decide +kernel
theorem dX3_cellFault_26 : decode cX3_cellFault 26 = .ok (.iload_n 2, 1) := by decide +kernel
theorem dX3_cellFault_27 : decode cX3_cellFault 27 = .ok (.aload_n 0, 1) := by decide +kernel
theorem dX3_cellFault_28 : decode cX3_cellFault 28 = .ok (.getfield 38, 3) := by decide +kernel
theorem dX3_cellFault_31 : decode cX3_cellFault 31 = .ok (.if_icmp .lt 7, 3) := by decide +kernel
theorem dX3_cellFault_34 : decode cX3_cellFault 34 = .ok (.iconst 3, 1) := by decide +kernel
theorem dX3_cellFault_35 : decode cX3_cellFault 35 = .ok (.goto 4, 3) := by decide +kernel
theorem dX3_cellFault_38 : decode cX3_cellFault 38 = .ok (.iconst 0, 1) := by decide +kernel
theorem dX3_cellFault_39 : decode cX3_cellFault 39 = .ok (.ireturn, 1) := by decide +kernel
set_option maxRecDepth 20000 in
theorem ggX3_cue_X3_cellFault : GoodIn wsX3_cue wsX3_cellFault := goodIn_r _ [6, 7, 8, 18, 19, 20, 21, 22, 23, 24, 25, 26, 27, 28, 29, 30, 31, 32, 33, 34] (by decide +kernel) (by decide +kernel)
set_option maxRecDepth 20000 in
theorem gX3_cue_X3_cellFault : GoodIn wsX3_cue (wsV RX3 102 RX3 yX3_cellFault wsX3_cellFault) := goodIn_app (goodIn_of _ (by decide +kernel)) ggX3_cue_X3_cellFault
set_option maxRecDepth 20000 in
theorem ggX3_cue_X3_fails : GoodIn wsX3_cue wsX3_fails := goodIn_r _ [12, 13, 18, 19, 20, 21, 22, 23, 24, 25, 26, 27, 28, 29, 30, 31, 32, 33, 34] (by decide +kernel) (by decide +kernel)
set_option maxRecDepth 20000 in
theorem gX3_cue_X3_fails : GoodIn wsX3_cue (wsV RX3 59 RX3 yX3_fails wsX3_fails) := goodIn_app (goodIn_of _ (by decide +kernel)) ggX3_cue_X3_fails
set_option maxRecDepth 20000 in
theorem ggX3_cue_X3_done : GoodIn wsX3_cue wsX3_done := goodIn_r _ [17, 13, 18, 19, 20, 21, 22, 23, 24, 25, 26, 27, 28, 29, 30, 31, 32, 33, 34] (by decide +kernel) (by decide +kernel)
set_option maxRecDepth 20000 in
theorem gX3_cue_X3_done : GoodIn wsX3_cue (wsV RX3 63 RX3 yX3_done wsX3_done) := goodIn_app (goodIn_of _ (by decide +kernel)) ggX3_cue_X3_done
theorem dX3_cue_0 : decode cX3_cue 0 = .ok (.aload_n 0, 1) := by decide +kernel
theorem dX3_cue_1 : decode cX3_cue 1 = .ok (.iload_n 1, 1) := by decide +kernel
theorem dX3_cue_2 : decode cX3_cue 2 = .ok (.iload_n 2, 1) := by decide +kernel
theorem dX3_cue_3 : decode cX3_cue 3 = .ok (.invokevirtual 102, 3) := by decide +kernel
theorem dX3_cue_6 : decode cX3_cue 6 = .ok (.istore 4, 2) := by decide +kernel
theorem dX3_cue_8 : decode cX3_cue 8 = .ok (.iload 4, 2) := by decide +kernel
theorem dX3_cue_10 : decode cX3_cue 10 = .ok (.ifCond .eq 11, 3) := by decide +kernel
theorem dX3_cue_13 : decode cX3_cue 13 = .ok (.aload_n 0, 1) := by decide +kernel
theorem dX3_cue_14 : decode cX3_cue 14 = .ok (.iload 4, 2) := by decide +kernel
theorem dX3_cue_16 : decode cX3_cue 16 = .ok (.iconst 0, 1) := by decide +kernel
theorem dX3_cue_17 : decode cX3_cue 17 = .ok (.invokevirtual 59, 3) := by decide +kernel
theorem dX3_cue_20 : decode cX3_cue 20 = .ok (.ireturn, 1) := by decide +kernel
theorem dX3_cue_21 : decode cX3_cue 21 = .ok (.aload_n 0, 1) := by decide +kernel
theorem dX3_cue_22 : decode cX3_cue 22 = .ok (.getfield 41, 3) := by decide +kernel
theorem dX3_cue_25 : decode cX3_cue 25 = .ok (.bipush 16, 2) := by decide +kernel
theorem dX3_cue_27 : decode cX3_cue 27 = .ok (.iload_n 1, 1) := by decide +kernel
theorem dX3_cue_28 : decode cX3_cue 28 = .ok (.imul, 1) := by decide +kernel
theorem dX3_cue_29 : decode cX3_cue 29 = .ok (.iload_n 2, 1) := by decide +kernel
theorem dX3_cue_30 : decode cX3_cue 30 = .ok (.iadd, 1) := by decide +kernel
theorem dX3_cue_31 : decode cX3_cue 31 = .ok (.iaload, 1) := by decide +kernel
theorem dX3_cue_32 : decode cX3_cue 32 = .ok (.istore 5, 2) := by decide +kernel
theorem dX3_cue_34 : decode cX3_cue 34 = .ok (.aload_n 0, 1) := by decide +kernel
theorem dX3_cue_35 : decode cX3_cue 35 = .ok (.getfield 41, 3) := by decide +kernel
theorem dX3_cue_38 : decode cX3_cue 38 = .ok (.bipush 16, 2) := by decide +kernel
theorem dX3_cue_40 : decode cX3_cue 40 = .ok (.iload_n 1, 1) := by decide +kernel
theorem dX3_cue_41 : decode cX3_cue 41 = .ok (.imul, 1) := by decide +kernel
theorem dX3_cue_42 : decode cX3_cue 42 = .ok (.iload_n 2, 1) := by decide +kernel
theorem dX3_cue_43 : decode cX3_cue 43 = .ok (.iadd, 1) := by decide +kernel
theorem dX3_cue_44 : decode cX3_cue 44 = .ok (.iload_n 3, 1) := by decide +kernel
theorem dX3_cue_45 : decode cX3_cue 45 = .ok (.iastore, 1) := by decide +kernel
theorem dX3_cue_46 : decode cX3_cue 46 = .ok (.aload_n 0, 1) := by decide +kernel
theorem dX3_cue_47 : decode cX3_cue 47 = .ok (.iload 5, 2) := by decide +kernel
theorem dX3_cue_49 : decode cX3_cue 49 = .ok (.invokevirtual 63, 3) := by decide +kernel
theorem dX3_cue_52 : decode cX3_cue 52 = .ok (.ireturn, 1) := by decide +kernel
set_option maxRecDepth 20000 in
theorem ggX3_seek_X3_cellFault : GoodIn wsX3_seek wsX3_cellFault := goodIn_r _ [7, 8, 9, 19, 20, 21, 22, 23, 24, 25, 26, 27, 28, 29, 30, 31, 32, 33, 34, 35] (by decide +kernel) (by decide +kernel)
set_option maxRecDepth 20000 in
theorem gX3_seek_X3_cellFault : GoodIn wsX3_seek (wsV RX3 102 RX3 yX3_cellFault wsX3_cellFault) := goodIn_app (goodIn_of _ (by decide +kernel)) ggX3_seek_X3_cellFault
set_option maxRecDepth 20000 in
theorem ggX3_seek_X3_fails : GoodIn wsX3_seek wsX3_fails := goodIn_r _ [13, 14, 19, 20, 21, 22, 23, 24, 25, 26, 27, 28, 29, 30, 31, 32, 33, 34, 35] (by decide +kernel) (by decide +kernel)
set_option maxRecDepth 20000 in
theorem gX3_seek_X3_fails : GoodIn wsX3_seek (wsV RX3 59 RX3 yX3_fails wsX3_fails) := goodIn_app (goodIn_of _ (by decide +kernel)) ggX3_seek_X3_fails
set_option maxRecDepth 20000 in
theorem ggX3_seek_X3_done : GoodIn wsX3_seek wsX3_done := goodIn_r _ [18, 14, 19, 20, 21, 22, 23, 24, 25, 26, 27, 28, 29, 30, 31, 32, 33, 34, 35] (by decide +kernel) (by decide +kernel)
set_option maxRecDepth 20000 in
theorem gX3_seek_X3_done : GoodIn wsX3_seek (wsV RX3 63 RX3 yX3_done wsX3_done) := goodIn_app (goodIn_of _ (by decide +kernel)) ggX3_seek_X3_done
theorem dX3_seek_0 : decode cX3_seek 0 = .ok (.aload_n 0, 1) := by decide +kernel
theorem dX3_seek_1 : decode cX3_seek 1 = .ok (.iload_n 1, 1) := by decide +kernel
theorem dX3_seek_2 : decode cX3_seek 2 = .ok (.iload_n 2, 1) := by decide +kernel
theorem dX3_seek_3 : decode cX3_seek 3 = .ok (.invokevirtual 102, 3) := by decide +kernel
theorem dX3_seek_6 : decode cX3_seek 6 = .ok (.istore_n 3, 1) := by decide +kernel
theorem dX3_seek_7 : decode cX3_seek 7 = .ok (.iload_n 3, 1) := by decide +kernel
theorem dX3_seek_8 : decode cX3_seek 8 = .ok (.ifCond .eq 13, 3) := by decide +kernel
theorem dX3_seek_11 : decode cX3_seek 11 = .ok (.aload_n 0, 1) := by decide +kernel
theorem dX3_seek_12 : decode cX3_seek 12 = .ok (.iload_n 3, 1) := by decide +kernel
theorem dX3_seek_13 : decode cX3_seek 13 = .ok (.aload_n 0, 1) := by decide +kernel
theorem dX3_seek_14 : decode cX3_seek 14 = .ok (.getfield 56, 3) := by decide +kernel
theorem dX3_seek_17 : decode cX3_seek 17 = .ok (.invokevirtual 59, 3) := by decide +kernel
theorem dX3_seek_20 : decode cX3_seek 20 = .ok (.ireturn, 1) := by decide +kernel
theorem dX3_seek_21 : decode cX3_seek 21 = .ok (.aload_n 0, 1) := by decide +kernel
theorem dX3_seek_22 : decode cX3_seek 22 = .ok (.aload_n 0, 1) := by decide +kernel
theorem dX3_seek_23 : decode cX3_seek 23 = .ok (.getfield 41, 3) := by decide +kernel
theorem dX3_seek_26 : decode cX3_seek 26 = .ok (.bipush 16, 2) := by decide +kernel
theorem dX3_seek_28 : decode cX3_seek 28 = .ok (.iload_n 1, 1) := by decide +kernel
theorem dX3_seek_29 : decode cX3_seek 29 = .ok (.imul, 1) := by decide +kernel
theorem dX3_seek_30 : decode cX3_seek 30 = .ok (.iload_n 2, 1) := by decide +kernel
theorem dX3_seek_31 : decode cX3_seek 31 = .ok (.iadd, 1) := by decide +kernel
theorem dX3_seek_32 : decode cX3_seek 32 = .ok (.iaload, 1) := by decide +kernel
theorem dX3_seek_33 : decode cX3_seek 33 = .ok (.putfield 56, 3) := by decide +kernel
theorem dX3_seek_36 : decode cX3_seek 36 = .ok (.aload_n 0, 1) := by decide +kernel
theorem dX3_seek_37 : decode cX3_seek 37 = .ok (.aload_n 0, 1) := by decide +kernel
theorem dX3_seek_38 : decode cX3_seek 38 = .ok (.getfield 56, 3) := by decide +kernel
theorem dX3_seek_41 : decode cX3_seek 41 = .ok (.invokevirtual 63, 3) := by decide +kernel
theorem dX3_seek_44 : decode cX3_seek 44 = .ok (.ireturn, 1) := by decide +kernel
theorem dX3_trip_0 : decode cX3_trip 0 = .ok (.iload_n 1, 1) := by decide +kernel
theorem dX3_trip_1 : decode cX3_trip 1 = .ok (.ifCond .ne 10, 3) := by decide +kernel
theorem dX3_trip_4 : decode cX3_trip 4 = .ok (.aload_n 0, 1) := by decide +kernel
theorem dX3_trip_5 : decode cX3_trip 5 = .ok (.getfield 32, 3) := by decide +kernel
theorem dX3_trip_8 : decode cX3_trip 8 = .ok (.goto 16, 3) := by decide +kernel
theorem dX3_trip_11 : decode cX3_trip 11 = .ok (.iload_n 1, 1) := by decide +kernel
theorem dX3_trip_12 : decode cX3_trip 12 = .ok (.iconst 1, 1) := by decide +kernel
theorem dX3_trip_13 : decode cX3_trip 13 = .ok (.if_icmp .ne 10, 3) := by decide +kernel
theorem dX3_trip_16 : decode cX3_trip 16 = .ok (.aload_n 0, 1) := by decide +kernel
theorem dX3_trip_17 : decode cX3_trip 17 = .ok (.getfield 96, 3) := by decide +kernel
theorem dX3_trip_20 : decode cX3_trip 20 = .ok (.goto 4, 3) := by decide +kernel
theorem dX3_trip_23 : decode cX3_trip 23 = .ok (.iconst (-1), 1) := by decide +kernel
theorem dX3_trip_24 : decode cX3_trip 24 = .ok (.ireturn, 1) := by decide +kernel
set_option maxRecDepth 20000 in
theorem ggX3_meter_X3_isTrack : GoodIn wsX3_meter wsX3_isTrack := goodIn_r _ [6] (by decide +kernel) (by decide +kernel)
set_option maxRecDepth 20000 in
theorem gX3_meter_X3_isTrack : GoodIn wsX3_meter (wsV RX3 71 RX3 yX3_isTrack wsX3_isTrack) := goodIn_app (goodIn_of _ (by decide +kernel)) ggX3_meter_X3_isTrack
theorem dX3_meter_0 : decode cX3_meter 0 = .ok (.aload_n 0, 1) := by decide +kernel
theorem dX3_meter_1 : decode cX3_meter 1 = .ok (.iload_n 1, 1) := by decide +kernel
theorem dX3_meter_2 : decode cX3_meter 2 = .ok (.invokevirtual 71, 3) := by decide +kernel
theorem dX3_meter_5 : decode cX3_meter 5 = .ok (.ifCond .eq 12, 3) := by decide +kernel
theorem dX3_meter_8 : decode cX3_meter 8 = .ok (.aload_n 0, 1) := by decide +kernel
theorem dX3_meter_9 : decode cX3_meter 9 = .ok (.getfield 29, 3) := by decide +kernel
theorem dX3_meter_12 : decode cX3_meter 12 = .ok (.iload_n 1, 1) := by decide +kernel
theorem dX3_meter_13 : decode cX3_meter 13 = .ok (.iaload, 1) := by decide +kernel
theorem dX3_meter_14 : decode cX3_meter 14 = .ok (.goto 4, 3) := by decide +kernel
theorem dX3_meter_17 : decode cX3_meter 17 = .ok (.iconst 0, 1) := by decide +kernel
theorem dX3_meter_18 : decode cX3_meter 18 = .ok (.ireturn, 1) := by decide +kernel
set_option maxRecDepth 20000 in
theorem ggX3_count_X3_isReel : GoodIn wsX3_count wsX3_isReel := goodIn_r _ [12, 2, 13, 14, 15, 16, 17, 18, 19, 20, 21, 22, 23, 24, 25, 26, 27, 28, 29] (by decide +kernel) (by decide +kernel)
set_option maxRecDepth 20000 in
theorem gX3_count_X3_isReel : GoodIn wsX3_count (wsV RX3 67 RX3 yX3_isReel wsX3_isReel) := goodIn_app (goodIn_of _ (by decide +kernel)) ggX3_count_X3_isReel
theorem dX3_count_0 : decode cX3_count 0 = .ok (.iload_n 1, 1) := by decide +kernel
theorem dX3_count_1 : decode cX3_count 1 = .ok (.bipush 10, 2) := by decide +kernel
theorem dX3_count_3 : decode cX3_count 3 = .ok (.if_icmp .lt 34, 3) := by decide +kernel
theorem dX3_count_6 : decode cX3_count 6 = .ok (.iload_n 1, 1) := by decide +kernel
theorem dX3_count_7 : decode cX3_count 7 = .ok (.bipush 17, 2) := by decide +kernel
theorem dX3_count_9 : decode cX3_count 9 = .ok (.if_icmp .gt 28, 3) := by decide +kernel
theorem dX3_count_12 : decode cX3_count 12 = .ok (.aload_n 0, 1) := by decide +kernel
theorem dX3_count_13 : decode cX3_count 13 = .ok (.iload_n 1, 1) := by decide +kernel
theorem dX3_count_14 : decode cX3_count 14 = .ok (.bipush 10, 2) := by decide +kernel
theorem dX3_count_16 : decode cX3_count 16 = .ok (.isub, 1) := by decide +kernel
theorem dX3_count_17 : decode cX3_count 17 = .ok (.invokevirtual 67, 3) := by decide +kernel
theorem dX3_count_20 : decode cX3_count 20 = .ok (.ifCond .eq 15, 3) := by decide +kernel
theorem dX3_count_23 : decode cX3_count 23 = .ok (.aload_n 0, 1) := by decide +kernel
theorem dX3_count_24 : decode cX3_count 24 = .ok (.getfield 13, 3) := by decide +kernel
theorem dX3_count_27 : decode cX3_count 27 = .ok (.iload_n 1, 1) := by decide +kernel
theorem dX3_count_28 : decode cX3_count 28 = .ok (.bipush 10, 2) := by decide +kernel
theorem dX3_count_30 : decode cX3_count 30 = .ok (.isub, 1) := by decide +kernel
theorem dX3_count_31 : decode cX3_count 31 = .ok (.iaload, 1) := by decide +kernel
theorem dX3_count_32 : decode cX3_count 32 = .ok (.goto 4, 3) := by decide +kernel
theorem dX3_count_35 : decode cX3_count 35 = .ok (.iconst (-1), 1) := by decide +kernel
theorem dX3_count_36 : decode cX3_count 36 = .ok (.ireturn, 1) := by decide +kernel
theorem dX3_count_37 : decode cX3_count 37 = .ok (.iload_n 1, 1) := by decide +kernel
theorem dX3_count_38 : decode cX3_count 38 = .ok (.tableswitch 68 0 5 #[38, 43, 48, 53, 58, 63], 38) := by decide +kernel
theorem dX3_count_76 : decode cX3_count 76 = .ok (.aload_n 0, 1) := by decide +kernel
theorem dX3_count_77 : decode cX3_count 77 = .ok (.getfield 47, 3) := by decide +kernel
theorem dX3_count_80 : decode cX3_count 80 = .ok (.ireturn, 1) := by decide +kernel
theorem dX3_count_81 : decode cX3_count 81 = .ok (.aload_n 0, 1) := by decide +kernel
theorem dX3_count_82 : decode cX3_count 82 = .ok (.getfield 19, 3) := by decide +kernel
theorem dX3_count_85 : decode cX3_count 85 = .ok (.ireturn, 1) := by decide +kernel
theorem dX3_count_86 : decode cX3_count 86 = .ok (.aload_n 0, 1) := by decide +kernel
theorem dX3_count_87 : decode cX3_count 87 = .ok (.getfield 56, 3) := by decide +kernel
theorem dX3_count_90 : decode cX3_count 90 = .ok (.ireturn, 1) := by decide +kernel
theorem dX3_count_91 : decode cX3_count 91 = .ok (.aload_n 0, 1) := by decide +kernel
theorem dX3_count_92 : decode cX3_count 92 = .ok (.getfield 78, 3) := by decide +kernel
theorem dX3_count_95 : decode cX3_count 95 = .ok (.ireturn, 1) := by decide +kernel
theorem dX3_count_96 : decode cX3_count 96 = .ok (.aload_n 0, 1) := by decide +kernel
theorem dX3_count_97 : decode cX3_count 97 = .ok (.getfield 35, 3) := by decide +kernel
theorem dX3_count_100 : decode cX3_count 100 = .ok (.ireturn, 1) := by decide +kernel
theorem dX3_count_101 : decode cX3_count 101 = .ok (.aload_n 0, 1) := by decide +kernel
theorem dX3_count_102 : decode cX3_count 102 = .ok (.getfield 38, 3) := by decide +kernel
theorem dX3_count_105 : decode cX3_count 105 = .ok (.ireturn, 1) := by decide +kernel
theorem dX3_count_106 : decode cX3_count 106 = .ok (.iconst (-1), 1) := by decide +kernel
theorem dX3_count_107 : decode cX3_count 107 = .ok (.ireturn, 1) := by decide +kernel
theorem dX3_status_0 : decode cX3_status 0 = .ok (.aload_n 0, 1) := by decide +kernel
theorem dX3_status_1 : decode cX3_status 1 = .ok (.getfield 44, 3) := by decide +kernel
theorem dX3_status_4 : decode cX3_status 4 = .ok (.ireturn, 1) := by decide +kernel
