theorem dX0_init_0 : decode cX0_init 0 = .ok (.aload_n 0, 1) := by decide +kernel
theorem dX0_init_1 : decode cX0_init 1 = .ok (.invokespecial 3, 3) := by decide +kernel
theorem dX0_init_4 : decode cX0_init 4 = .ok (.aload_n 0, 1) := by decide +kernel
theorem dX0_init_5 : decode cX0_init 5 = .ok (.bipush 32, 2) := by decide +kernel
theorem dX0_init_7 : decode cX0_init 7 = .ok (.newarray .int, 2) := by decide +kernel
theorem dX0_init_9 : decode cX0_init 9 = .ok (.putfield 9, 3) := by decide +kernel
theorem dX0_init_12 : decode cX0_init 12 = .ok (.aload_n 0, 1) := by decide +kernel
theorem dX0_init_13 : decode cX0_init 13 = .ok (.bipush 8, 2) := by decide +kernel
theorem dX0_init_15 : decode cX0_init 15 = .ok (.newarray .int, 2) := by decide +kernel
theorem dX0_init_17 : decode cX0_init 17 = .ok (.putfield 15, 3) := by decide +kernel
theorem dX0_init_20 : decode cX0_init 20 = .ok (.aload_n 0, 1) := by decide +kernel
theorem dX0_init_21 : decode cX0_init 21 = .ok (.iconst 0, 1) := by decide +kernel
theorem dX0_init_22 : decode cX0_init 22 = .ok (.putfield 18, 3) := by decide +kernel
theorem dX0_init_25 : decode cX0_init 25 = .ok (.aload_n 0, 1) := by decide +kernel
theorem dX0_init_26 : decode cX0_init 26 = .ok (.aconst_null, 1) := by decide +kernel
theorem dX0_init_27 : decode cX0_init 27 = .ok (.putfield 22, 3) := by decide +kernel
theorem dX0_init_30 : decode cX0_init 30 = .ok (.aload_n 0, 1) := by decide +kernel
theorem dX0_init_31 : decode cX0_init 31 = .ok (.aconst_null, 1) := by decide +kernel
theorem dX0_init_32 : decode cX0_init 32 = .ok (.putfield 26, 3) := by decide +kernel
theorem dX0_init_35 : decode cX0_init 35 = .ok (.aload_n 0, 1) := by decide +kernel
theorem dX0_init_36 : decode cX0_init 36 = .ok (.iload_n 1, 1) := by decide +kernel
theorem dX0_init_37 : decode cX0_init 37 = .ok (.putfield 30, 3) := by decide +kernel
theorem dX0_init_40 : decode cX0_init 40 = .ok (.aload_n 0, 1) := by decide +kernel
theorem dX0_init_41 : decode cX0_init 41 = .ok (.iload_n 2, 1) := by decide +kernel
theorem dX0_init_42 : decode cX0_init 42 = .ok (.putfield 33, 3) := by decide +kernel
theorem dX0_init_45 : decode cX0_init 45 = .ok (.aload_n 0, 1) := by decide +kernel
theorem dX0_init_46 : decode cX0_init 46 = .ok (.iload_n 3, 1) := by decide +kernel
theorem dX0_init_47 : decode cX0_init 47 = .ok (.putfield 36, 3) := by decide +kernel
theorem dX0_init_50 : decode cX0_init 50 = .ok (.return_, 1) := by decide +kernel
theorem dX0_weightOf_0 : decode cX0_weightOf 0 = .ok (.aload_n 0, 1) := by decide +kernel
theorem dX0_weightOf_1 : decode cX0_weightOf 1 = .ok (.getfield 9, 3) := by decide +kernel
theorem dX0_weightOf_4 : decode cX0_weightOf 4 = .ok (.iload_n 1, 1) := by decide +kernel
theorem dX0_weightOf_5 : decode cX0_weightOf 5 = .ok (.iconst 4, 1) := by decide +kernel
theorem dX0_weightOf_6 : decode cX0_weightOf 6 = .ok (.imul, 1) := by decide +kernel
theorem dX0_weightOf_7 : decode cX0_weightOf 7 = .ok (.iload_n 2, 1) := by decide +kernel
theorem dX0_weightOf_8 : decode cX0_weightOf 8 = .ok (.iadd, 1) := by decide +kernel
theorem dX0_weightOf_9 : decode cX0_weightOf 9 = .ok (.iaload, 1) := by decide +kernel
theorem dX0_weightOf_10 : decode cX0_weightOf 10 = .ok (.ireturn, 1) := by decide +kernel
theorem dX0_tellWeight_0 : decode cX0_tellWeight 0 = .ok (.aload_n 0, 1) := by decide +kernel
theorem dX0_tellWeight_1 : decode cX0_tellWeight 1 = .ok (.getfield 9, 3) := by decide +kernel
theorem dX0_tellWeight_4 : decode cX0_tellWeight 4 = .ok (.iload_n 1, 1) := by decide +kernel
theorem dX0_tellWeight_5 : decode cX0_tellWeight 5 = .ok (.iconst 4, 1) := by decide +kernel
theorem dX0_tellWeight_6 : decode cX0_tellWeight 6 = .ok (.imul, 1) := by decide +kernel
theorem dX0_tellWeight_7 : decode cX0_tellWeight 7 = .ok (.iload_n 2, 1) := by decide +kernel
theorem dX0_tellWeight_8 : decode cX0_tellWeight 8 = .ok (.iadd, 1) := by decide +kernel
theorem dX0_tellWeight_9 : decode cX0_tellWeight 9 = .ok (.iload_n 3, 1) := by decide +kernel
theorem dX0_tellWeight_10 : decode cX0_tellWeight 10 = .ok (.iastore, 1) := by decide +kernel
theorem dX0_tellWeight_11 : decode cX0_tellWeight 11 = .ok (.return_, 1) := by decide +kernel
theorem dX0_canGoOnTo_0 : decode cX0_canGoOnTo 0 = .ok (.aload_n 1, 1) := by decide +kernel
theorem dX0_canGoOnTo_1 : decode cX0_canGoOnTo 1 = .ok (.getfield 30, 3) := by decide +kernel
theorem dX0_canGoOnTo_4 : decode cX0_canGoOnTo 4 = .ok (.aload_n 0, 1) := by decide +kernel
theorem dX0_canGoOnTo_5 : decode cX0_canGoOnTo 5 = .ok (.getfield 30, 3) := by decide +kernel
theorem dX0_canGoOnTo_8 : decode cX0_canGoOnTo 8 = .ok (.if_icmp .le 18, 3) := by decide +kernel
theorem dX0_canGoOnTo_11 : decode cX0_canGoOnTo 11 = .ok (.aload_n 1, 1) := by decide +kernel
theorem dX0_canGoOnTo_12 : decode cX0_canGoOnTo 12 = .ok (.getfield 33, 3) := by decide +kernel
theorem dX0_canGoOnTo_15 : decode cX0_canGoOnTo 15 = .ok (.aload_n 0, 1) := by decide +kernel
theorem dX0_canGoOnTo_16 : decode cX0_canGoOnTo 16 = .ok (.getfield 36, 3) := by decide +kernel
theorem dX0_canGoOnTo_19 : decode cX0_canGoOnTo 19 = .ok (.if_icmp .lt 7, 3) := by decide +kernel
theorem dX0_canGoOnTo_22 : decode cX0_canGoOnTo 22 = .ok (.iconst 1, 1) := by decide +kernel
theorem dX0_canGoOnTo_23 : decode cX0_canGoOnTo 23 = .ok (.goto 4, 3) := by decide +kernel
theorem dX0_canGoOnTo_26 : decode cX0_canGoOnTo 26 = .ok (.iconst 0, 1) := by decide +kernel
theorem dX0_canGoOnTo_27 : decode cX0_canGoOnTo 27 = .ok (.ireturn, 1) := by decide +kernel
theorem dX0_columns_0 : decode cX0_columns 0 = .ok (.iconst 4, 1) := by decide +kernel
theorem dX0_columns_1 : decode cX0_columns 1 = .ok (.aload_n 0, 1) := by decide +kernel
theorem dX0_columns_2 : decode cX0_columns 2 = .ok (.getfield 36, 3) := by decide +kernel
theorem dX0_columns_5 : decode cX0_columns 5 = .ok (.imul, 1) := by decide +kernel
theorem dX0_columns_6 : decode cX0_columns 6 = .ok (.ireturn, 1) := by decide +kernel
set_option maxRecDepth 20000 in
theorem ggX0_needed_X0_weightOf : GoodIn wsX0_needed wsX0_weightOf := goodIn_r _ [5, 6, 7, 8, 9, 10, 11, 12, 13, 14] (by decide +kernel) (by decide +kernel)
set_option maxRecDepth 20000 in
theorem gX0_needed_X0_weightOf : GoodIn wsX0_needed (wsV RX0 39 RX0 yX0_weightOf wsX0_weightOf) := goodIn_app (goodIn_of _ (by decide +kernel)) ggX0_needed_X0_weightOf
theorem dX0_needed_0 : decode cX0_needed 0 = .ok (.aload_n 0, 1) := by decide +kernel
theorem dX0_needed_1 : decode cX0_needed 1 = .ok (.iload_n 1, 1) := by decide +kernel
theorem dX0_needed_2 : decode cX0_needed 2 = .ok (.iload_n 2, 1) := by decide +kernel
theorem dX0_needed_3 : decode cX0_needed 3 = .ok (.iconst 4, 1) := by decide +kernel
theorem dX0_needed_4 : decode cX0_needed 4 = .ok (.idiv, 1) := by decide +kernel
theorem dX0_needed_5 : decode cX0_needed 5 = .ok (.invokevirtual 39, 3) := by decide +kernel
theorem dX0_needed_8 : decode cX0_needed 8 = .ok (.getstatic 43, 3) := by decide +kernel
theorem dX0_needed_11 : decode cX0_needed 11 = .ok (.iload_n 2, 1) := by decide +kernel
theorem dX0_needed_12 : decode cX0_needed 12 = .ok (.iconst 4, 1) := by decide +kernel
theorem dX0_needed_13 : decode cX0_needed 13 = .ok (.irem, 1) := by decide +kernel
theorem dX0_needed_14 : decode cX0_needed 14 = .ok (.iaload, 1) := by decide +kernel
theorem dX0_needed_15 : decode cX0_needed 15 = .ok (.ifCond .ge 7, 3) := by decide +kernel
theorem dX0_needed_18 : decode cX0_needed 18 = .ok (.iconst (-1), 1) := by decide +kernel
theorem dX0_needed_19 : decode cX0_needed 19 = .ok (.goto 4, 3) := by decide +kernel
theorem dX0_needed_22 : decode cX0_needed 22 = .ok (.iconst 1, 1) := by decide +kernel
theorem dX0_needed_23 : decode cX0_needed 23 = .ok (.imul, 1) := by decide +kernel
theorem dX0_needed_24 : decode cX0_needed 24 = .ok (.istore_n 3, 1) := by decide +kernel
theorem dX0_needed_25 : decode cX0_needed 25 = .ok (.iload_n 3, 1) := by decide +kernel
theorem dX0_needed_26 : decode cX0_needed 26 = .ok (.ifCond .ge 5, 3) := by decide +kernel
theorem dX0_needed_29 : decode cX0_needed 29 = .ok (.iconst 0, 1) := by decide +kernel
theorem dX0_needed_30 : decode cX0_needed 30 = .ok (.ireturn, 1) := by decide +kernel
theorem dX0_needed_31 : decode cX0_needed 31 = .ok (.iload_n 2, 1) := by decide +kernel
theorem dX0_needed_32 : decode cX0_needed 32 = .ok (.iconst 2, 1) := by decide +kernel
theorem dX0_needed_33 : decode cX0_needed 33 = .ok (.irem, 1) := by decide +kernel
theorem dX0_needed_34 : decode cX0_needed 34 = .ok (.ifCond .ne 10, 3) := by decide +kernel
theorem dX0_needed_37 : decode cX0_needed 37 = .ok (.iload_n 3, 1) := by decide +kernel
theorem dX0_needed_38 : decode cX0_needed 38 = .ok (.bipush 16, 2) := by decide +kernel
theorem dX0_needed_40 : decode cX0_needed 40 = .ok (.irem, 1) := by decide +kernel
theorem dX0_needed_41 : decode cX0_needed 41 = .ok (.goto 7, 3) := by decide +kernel
theorem dX0_needed_44 : decode cX0_needed 44 = .ok (.iload_n 3, 1) := by decide +kernel
theorem dX0_needed_45 : decode cX0_needed 45 = .ok (.bipush 16, 2) := by decide +kernel
theorem dX0_needed_47 : decode cX0_needed 47 = .ok (.idiv, 1) := by decide +kernel
theorem dX0_needed_48 : decode cX0_needed 48 = .ok (.ireturn, 1) := by decide +kernel
set_option maxRecDepth 20000 in
theorem ggX0_writeOn_X0_columns : GoodIn wsX0_writeOn wsX0_columns := goodIn_r _ [7, 8, 48, 49, 50, 51, 52, 53, 54, 55] (by decide +kernel) (by decide +kernel)
set_option maxRecDepth 20000 in
theorem gX0_writeOn_X0_columns : GoodIn wsX0_writeOn (wsV RX0 46 RX0 yX0_columns wsX0_columns) := goodIn_app (goodIn_of _ (by decide +kernel)) ggX0_writeOn_X0_columns
set_option maxRecDepth 20000 in
theorem ggX0_writeOn_X0_needed : GoodIn wsX0_writeOn wsX0_needed := goodIn_r _ [12, 13, 14, 15, 6, 16, 17, 48, 49, 50, 51, 52, 53, 54, 55] (by decide +kernel) (by decide +kernel)
set_option maxRecDepth 20000 in
theorem gX0_writeOn_X0_needed : GoodIn wsX0_writeOn (wsV RX0 50 RX0 yX0_needed wsX0_needed) := goodIn_app (goodIn_of _ (by decide +kernel)) ggX0_writeOn_X0_needed
set_option maxRecDepth 20000 in
theorem ggX0_writeOn_X4_failsToWrite : GoodIn wsX0_writeOn wsX4_failsToWrite := goodIn_r _ [22, 23, 24, 25, 26, 27, 28, 29, 30, 31, 32, 33, 34, 21, 35, 36, 37, 38, 39, 40, 41, 42, 43, 44, 45, 46, 47, 56, 57, 58, 59, 60, 61, 62, 63, 64, 65, 66, 67, 68, 69, 70] (by decide +kernel) (by decide +kernel)
set_option maxRecDepth 20000 in
theorem gX0_writeOn_X4_failsToWrite : GoodIn wsX0_writeOn (wsV RX0 53 RX4 yX4_failsToWrite wsX4_failsToWrite) := goodIn_app (goodIn_of _ (by decide +kernel)) ggX0_writeOn_X4_failsToWrite
theorem dX0_writeOn_0 : decode cX0_writeOn 0 = .ok (.iconst 0, 1) := by decide +kernel
theorem dX0_writeOn_1 : decode cX0_writeOn 1 = .ok (.istore_n 3, 1) := by decide +kernel
theorem dX0_writeOn_2 : decode cX0_writeOn 2 = .ok (.iconst 0, 1) := by decide +kernel
theorem dX0_writeOn_3 : decode cX0_writeOn 3 = .ok (.istore 4, 2) := by decide +kernel
theorem dX0_writeOn_5 : decode cX0_writeOn 5 = .ok (.iload 4, 2) := by decide +kernel
theorem dX0_writeOn_7 : decode cX0_writeOn 7 = .ok (.aload_n 0, 1) := by decide +kernel
theorem dX0_writeOn_8 : decode cX0_writeOn 8 = .ok (.getfield 33, 3) := by decide +kernel
theorem dX0_writeOn_11 : decode cX0_writeOn 11 = .ok (.if_icmp .ge 55, 3) := by decide +kernel
theorem dX0_writeOn_14 : decode cX0_writeOn 14 = .ok (.iconst 0, 1) := by decide +kernel
theorem dX0_writeOn_15 : decode cX0_writeOn 15 = .ok (.istore 5, 2) := by decide +kernel
theorem dX0_writeOn_17 : decode cX0_writeOn 17 = .ok (.iload 5, 2) := by decide +kernel
theorem dX0_writeOn_19 : decode cX0_writeOn 19 = .ok (.aload_n 0, 1) := by decide +kernel
theorem dX0_writeOn_20 : decode cX0_writeOn 20 = .ok (.invokevirtual 46, 3) := by decide +kernel
theorem dX0_writeOn_23 : decode cX0_writeOn 23 = .ok (.if_icmp .ge 37, 3) := by decide +kernel
theorem dX0_writeOn_26 : decode cX0_writeOn 26 = .ok (.aload_n 1, 1) := by decide +kernel
theorem dX0_writeOn_27 : decode cX0_writeOn 27 = .ok (.aload_n 0, 1) := by decide +kernel
theorem dX0_writeOn_28 : decode cX0_writeOn 28 = .ok (.getfield 15, 3) := by decide +kernel
theorem dX0_writeOn_31 : decode cX0_writeOn 31 = .ok (.iload 4, 2) := by decide +kernel
theorem dX0_writeOn_33 : decode cX0_writeOn 33 = .ok (.iaload, 1) := by decide +kernel
theorem dX0_writeOn_34 : decode cX0_writeOn 34 = .ok (.iload 5, 2) := by decide +kernel
theorem dX0_writeOn_36 : decode cX0_writeOn 36 = .ok (.aload_n 0, 1) := by decide +kernel
theorem dX0_writeOn_37 : decode cX0_writeOn 37 = .ok (.iload 4, 2) := by decide +kernel
theorem dX0_writeOn_39 : decode cX0_writeOn 39 = .ok (.iload 5, 2) := by decide +kernel
theorem dX0_writeOn_41 : decode cX0_writeOn 41 = .ok (.invokevirtual 50, 3) := by decide +kernel
theorem dX0_writeOn_44 : decode cX0_writeOn 44 = .ok (.aload_n 2, 1) := by decide +kernel
theorem dX0_writeOn_45 : decode cX0_writeOn 45 = .ok (.invokevirtual 53, 3) := by decide +kernel
theorem dX0_writeOn_48 : decode cX0_writeOn 48 = .ok (.ifCond .eq 6, 3) := by decide +kernel
theorem dX0_writeOn_51 : decode cX0_writeOn 51 = .ok (.iinc 3 1, 3) := by decide +kernel
theorem dX0_writeOn_54 : decode cX0_writeOn 54 = .ok (.iinc 5 1, 3) := by decide +kernel
theorem dX0_writeOn_57 : decode cX0_writeOn 57 = .ok (.goto (-40), 3) := by decide +kernel
theorem dX0_writeOn_60 : decode cX0_writeOn 60 = .ok (.iinc 4 1, 3) := by decide +kernel
theorem dX0_writeOn_63 : decode cX0_writeOn 63 = .ok (.goto (-58), 3) := by decide +kernel
theorem dX0_writeOn_66 : decode cX0_writeOn 66 = .ok (.iload_n 3, 1) := by decide +kernel
theorem dX0_writeOn_67 : decode cX0_writeOn 67 = .ok (.ireturn, 1) := by decide +kernel
set_option maxRecDepth 20000 in
theorem ggX0_conductsAsNeeded_X0_columns : GoodIn wsX0_conductsAsNeeded wsX0_columns := goodIn_r _ [7, 8, 37, 38, 39, 40, 41, 42, 43, 44] (by decide +kernel) (by decide +kernel)
set_option maxRecDepth 20000 in
theorem gX0_conductsAsNeeded_X0_columns : GoodIn wsX0_conductsAsNeeded (wsV RX0 46 RX0 yX0_columns wsX0_columns) := goodIn_app (goodIn_of _ (by decide +kernel)) ggX0_conductsAsNeeded_X0_columns
set_option maxRecDepth 20000 in
theorem ggX0_conductsAsNeeded_X4_conducted : GoodIn wsX0_conductsAsNeeded wsX4_conducted := goodIn_r _ [13, 14, 15, 16, 17, 18, 19, 20, 21, 22, 23, 24, 25, 26, 27, 45, 46, 47, 48, 49, 50, 51, 52, 53, 54, 55, 56, 57, 58, 59] (by decide +kernel) (by decide +kernel)
set_option maxRecDepth 20000 in
theorem gX0_conductsAsNeeded_X4_conducted : GoodIn wsX0_conductsAsNeeded (wsV RX0 59 RX4 yX4_conducted wsX4_conducted) := goodIn_app (goodIn_of _ (by decide +kernel)) ggX0_conductsAsNeeded_X4_conducted
set_option maxRecDepth 20000 in
theorem ggX0_conductsAsNeeded_X0_needed : GoodIn wsX0_conductsAsNeeded wsX0_needed := goodIn_r _ [31, 32, 33, 34, 6, 35, 36, 37, 38, 39, 40, 41, 42, 43, 44] (by decide +kernel) (by decide +kernel)
set_option maxRecDepth 20000 in
theorem gX0_conductsAsNeeded_X0_needed : GoodIn wsX0_conductsAsNeeded (wsV RX0 50 RX0 yX0_needed wsX0_needed) := goodIn_app (goodIn_of _ (by decide +kernel)) ggX0_conductsAsNeeded_X0_needed
theorem dX0_conductsAsNeeded_0 : decode cX0_conductsAsNeeded 0 = .ok (.iconst 0, 1) := by decide +kernel
theorem dX0_conductsAsNeeded_1 : decode cX0_conductsAsNeeded 1 = .ok (.istore_n 3, 1) := by decide +kernel
theorem dX0_conductsAsNeeded_2 : decode cX0_conductsAsNeeded 2 = .ok (.iload_n 3, 1) := by decide +kernel
theorem dX0_conductsAsNeeded_3 : decode cX0_conductsAsNeeded 3 = .ok (.aload_n 0, 1) := by decide +kernel
theorem dX0_conductsAsNeeded_4 : decode cX0_conductsAsNeeded 4 = .ok (.getfield 33, 3) := by decide +kernel
theorem dX0_conductsAsNeeded_7 : decode cX0_conductsAsNeeded 7 = .ok (.if_icmp .ge 52, 3) := by decide +kernel
theorem dX0_conductsAsNeeded_10 : decode cX0_conductsAsNeeded 10 = .ok (.iconst 0, 1) := by decide +kernel
theorem dX0_conductsAsNeeded_11 : decode cX0_conductsAsNeeded 11 = .ok (.istore 4, 2) := by decide +kernel
theorem dX0_conductsAsNeeded_13 : decode cX0_conductsAsNeeded 13 = .ok (.iload 4, 2) := by decide +kernel
theorem dX0_conductsAsNeeded_15 : decode cX0_conductsAsNeeded 15 = .ok (.aload_n 0, 1) := by decide +kernel
theorem dX0_conductsAsNeeded_16 : decode cX0_conductsAsNeeded 16 = .ok (.invokevirtual 46, 3) := by decide +kernel
theorem dX0_conductsAsNeeded_19 : decode cX0_conductsAsNeeded 19 = .ok (.if_icmp .ge 34, 3) := by decide +kernel
theorem dX0_conductsAsNeeded_22 : decode cX0_conductsAsNeeded 22 = .ok (.aload_n 1, 1) := by decide +kernel
theorem dX0_conductsAsNeeded_23 : decode cX0_conductsAsNeeded 23 = .ok (.aload_n 0, 1) := by decide +kernel
theorem dX0_conductsAsNeeded_24 : decode cX0_conductsAsNeeded 24 = .ok (.getfield 15, 3) := by decide +kernel
theorem dX0_conductsAsNeeded_27 : decode cX0_conductsAsNeeded 27 = .ok (.iload_n 3, 1) := by decide +kernel
theorem dX0_conductsAsNeeded_28 : decode cX0_conductsAsNeeded 28 = .ok (.iaload, 1) := by decide +kernel
theorem dX0_conductsAsNeeded_29 : decode cX0_conductsAsNeeded 29 = .ok (.iload 4, 2) := by decide +kernel
theorem dX0_conductsAsNeeded_31 : decode cX0_conductsAsNeeded 31 = .ok (.aload_n 2, 1) := by decide +kernel
theorem dX0_conductsAsNeeded_32 : decode cX0_conductsAsNeeded 32 = .ok (.invokevirtual 59, 3) := by decide +kernel
theorem dX0_conductsAsNeeded_35 : decode cX0_conductsAsNeeded 35 = .ok (.aload_n 0, 1) := by decide +kernel
theorem dX0_conductsAsNeeded_36 : decode cX0_conductsAsNeeded 36 = .ok (.iload_n 3, 1) := by decide +kernel
theorem dX0_conductsAsNeeded_37 : decode cX0_conductsAsNeeded 37 = .ok (.iload 4, 2) := by decide +kernel
theorem dX0_conductsAsNeeded_39 : decode cX0_conductsAsNeeded 39 = .ok (.invokevirtual 50, 3) := by decide +kernel
theorem dX0_conductsAsNeeded_42 : decode cX0_conductsAsNeeded 42 = .ok (.if_icmp .eq 5, 3) := by decide +kernel
theorem dX0_conductsAsNeeded_45 : decode cX0_conductsAsNeeded 45 = .ok (.iconst 0, 1) := by decide +kernel
theorem dX0_conductsAsNeeded_46 : decode cX0_conductsAsNeeded 46 = .ok (.ireturn, 1) := by decide +kernel
theorem dX0_conductsAsNeeded_47 : decode cX0_conductsAsNeeded 47 = .ok (.iinc 4 1, 3) := by decide +kernel
theorem dX0_conductsAsNeeded_50 : decode cX0_conductsAsNeeded 50 = .ok (.goto (-37), 3) := by decide +kernel
theorem dX0_conductsAsNeeded_53 : decode cX0_conductsAsNeeded 53 = .ok (.iinc 3 1, 3) := by decide +kernel
theorem dX0_conductsAsNeeded_56 : decode cX0_conductsAsNeeded 56 = .ok (.goto (-54), 3) := by decide +kernel
theorem dX0_conductsAsNeeded_59 : decode cX0_conductsAsNeeded 59 = .ok (.iconst 1, 1) := by decide +kernel
theorem dX0_conductsAsNeeded_60 : decode cX0_conductsAsNeeded 60 = .ok (.ireturn, 1) := by decide +kernel
set_option maxRecDepth 20000 in
theorem ggX0_misfitsIn_X0_columns : GoodIn wsX0_misfitsIn wsX0_columns := goodIn_r _ [5, 6, 26, 27, 28, 29, 30, 31, 32, 33] (by decide +kernel) (by decide +kernel)
set_option maxRecDepth 20000 in
theorem gX0_misfitsIn_X0_columns : GoodIn wsX0_misfitsIn (wsV RX0 46 RX0 yX0_columns wsX0_columns) := goodIn_app (goodIn_of _ (by decide +kernel)) ggX0_misfitsIn_X0_columns
set_option maxRecDepth 20000 in
theorem ggX0_misfitsIn_X0_needed : GoodIn wsX0_misfitsIn wsX0_needed := goodIn_r _ [10, 11, 12, 13, 4, 14, 15, 26, 27, 28, 29, 30, 31, 32, 33] (by decide +kernel) (by decide +kernel)
set_option maxRecDepth 20000 in
theorem gX0_misfitsIn_X0_needed : GoodIn wsX0_misfitsIn (wsV RX0 50 RX0 yX0_needed wsX0_needed) := goodIn_app (goodIn_of _ (by decide +kernel)) ggX0_misfitsIn_X0_needed
set_option maxRecDepth 20000 in
theorem ggX0_misfitsIn_X4_isMisfit : GoodIn wsX0_misfitsIn wsX4_isMisfit := goodIn_r _ [20, 21, 22, 23, 24, 25, 34, 35, 36, 37, 38, 39, 40, 41, 42, 43, 44, 45] (by decide +kernel) (by decide +kernel)
set_option maxRecDepth 20000 in
theorem gX0_misfitsIn_X4_isMisfit : GoodIn wsX0_misfitsIn (wsV RX0 63 RX4 yX4_isMisfit wsX4_isMisfit) := goodIn_app (goodIn_of _ (by decide +kernel)) ggX0_misfitsIn_X4_isMisfit
theorem dX0_misfitsIn_0 : decode cX0_misfitsIn 0 = .ok (.iconst 0, 1) := by decide +kernel
theorem dX0_misfitsIn_1 : decode cX0_misfitsIn 1 = .ok (.istore 4, 2) := by decide +kernel
theorem dX0_misfitsIn_3 : decode cX0_misfitsIn 3 = .ok (.iconst 0, 1) := by decide +kernel
theorem dX0_misfitsIn_4 : decode cX0_misfitsIn 4 = .ok (.istore 5, 2) := by decide +kernel
theorem dX0_misfitsIn_6 : decode cX0_misfitsIn 6 = .ok (.iload 5, 2) := by decide +kernel
theorem dX0_misfitsIn_8 : decode cX0_misfitsIn 8 = .ok (.aload_n 0, 1) := by decide +kernel
theorem dX0_misfitsIn_9 : decode cX0_misfitsIn 9 = .ok (.invokevirtual 46, 3) := by decide +kernel
theorem dX0_misfitsIn_12 : decode cX0_misfitsIn 12 = .ok (.if_icmp .ge 29, 3) := by decide +kernel
theorem dX0_misfitsIn_15 : decode cX0_misfitsIn 15 = .ok (.aload_n 1, 1) := by decide +kernel
theorem dX0_misfitsIn_16 : decode cX0_misfitsIn 16 = .ok (.iload_n 3, 1) := by decide +kernel
theorem dX0_misfitsIn_17 : decode cX0_misfitsIn 17 = .ok (.iload 5, 2) := by decide +kernel
theorem dX0_misfitsIn_19 : decode cX0_misfitsIn 19 = .ok (.aload_n 0, 1) := by decide +kernel
theorem dX0_misfitsIn_20 : decode cX0_misfitsIn 20 = .ok (.iload_n 2, 1) := by decide +kernel
theorem dX0_misfitsIn_21 : decode cX0_misfitsIn 21 = .ok (.iload 5, 2) := by decide +kernel
theorem dX0_misfitsIn_23 : decode cX0_misfitsIn 23 = .ok (.invokevirtual 50, 3) := by decide +kernel
theorem dX0_misfitsIn_26 : decode cX0_misfitsIn 26 = .ok (.invokevirtual 63, 3) := by decide +kernel
theorem dX0_misfitsIn_29 : decode cX0_misfitsIn 29 = .ok (.ifCond .eq 6, 3) := by decide +kernel
theorem dX0_misfitsIn_32 : decode cX0_misfitsIn 32 = .ok (.iinc 4 1, 3) := by decide +kernel
theorem dX0_misfitsIn_35 : decode cX0_misfitsIn 35 = .ok (.iinc 5 1, 3) := by decide +kernel
theorem dX0_misfitsIn_38 : decode cX0_misfitsIn 38 = .ok (.goto (-32), 3) := by decide +kernel
theorem dX0_misfitsIn_41 : decode cX0_misfitsIn 41 = .ok (.iload 4, 2) := by decide +kernel
theorem dX0_misfitsIn_43 : decode cX0_misfitsIn 43 = .ok (.ireturn, 1) := by decide +kernel
set_option maxRecDepth 20000 in
theorem ggX0_answerOn_X0_currentOn : GoodIn wsX0_answerOn wsX0_currentOn := goodIn_r _ [5, 6, 7, 8, 9, 10, 11, 12, 13, 14, 15, 16, 17, 18, 19, 20, 21, 22, 23, 24, 25, 26, 27, 28, 40, 41, 42, 43, 44, 45, 46, 47, 48, 49, 50, 51, 52, 53, 54, 55, 56, 57, 58, 59, 60, 61, 62] (by decide +kernel) (by decide +kernel)
set_option maxRecDepth 20000 in
theorem gX0_answerOn_X0_currentOn : GoodIn wsX0_answerOn (wsV RX0 67 RX0 yX0_currentOn wsX0_currentOn) := goodIn_app (goodIn_of _ (by decide +kernel)) ggX0_answerOn_X0_currentOn
set_option maxRecDepth 20000 in
theorem ggX0_answerOn_X4_read : GoodIn wsX0_answerOn wsX4_read := goodIn_r _ [32, 33, 34, 21, 22, 23, 24, 35, 36, 37, 38, 39, 27, 9, 28, 51, 52, 53, 54, 55, 56, 57, 58, 59, 60, 61, 62] (by decide +kernel) (by decide +kernel)
set_option maxRecDepth 20000 in
theorem gX0_answerOn_X4_read : GoodIn wsX0_answerOn (wsV RX0 71 RX4 yX4_read wsX4_read) := goodIn_app (goodIn_of _ (by decide +kernel)) ggX0_answerOn_X4_read
theorem dX0_answerOn_0 : decode cX0_answerOn 0 = .ok (.iconst 0, 1) := by decide +kernel
theorem dX0_answerOn_1 : decode cX0_answerOn 1 = .ok (.istore 6, 2) := by decide +kernel
theorem dX0_answerOn_3 : decode cX0_answerOn 3 = .ok (.iconst 0, 1) := by decide +kernel
theorem dX0_answerOn_4 : decode cX0_answerOn 4 = .ok (.istore 7, 2) := by decide +kernel
theorem dX0_answerOn_6 : decode cX0_answerOn 6 = .ok (.iload 7, 2) := by decide +kernel
theorem dX0_answerOn_8 : decode cX0_answerOn 8 = .ok (.bipush 8, 2) := by decide +kernel
theorem dX0_answerOn_10 : decode cX0_answerOn 10 = .ok (.if_icmp .ge 71, 3) := by decide +kernel
theorem dX0_answerOn_13 : decode cX0_answerOn 13 = .ok (.iconst 0, 1) := by decide +kernel
theorem dX0_answerOn_14 : decode cX0_answerOn 14 = .ok (.istore 8, 2) := by decide +kernel
theorem dX0_answerOn_16 : decode cX0_answerOn 16 = .ok (.iload 8, 2) := by decide +kernel
theorem dX0_answerOn_18 : decode cX0_answerOn 18 = .ok (.iconst 4, 1) := by decide +kernel
theorem dX0_answerOn_19 : decode cX0_answerOn 19 = .ok (.if_icmp .ge 56, 3) := by decide +kernel
theorem dX0_answerOn_22 : decode cX0_answerOn 22 = .ok (.iload 4, 2) := by decide +kernel
theorem dX0_answerOn_24 : decode cX0_answerOn 24 = .ok (.iconst 4, 1) := by decide +kernel
theorem dX0_answerOn_25 : decode cX0_answerOn 25 = .ok (.imul, 1) := by decide +kernel
theorem dX0_answerOn_26 : decode cX0_answerOn 26 = .ok (.iload 8, 2) := by decide +kernel
theorem dX0_answerOn_28 : decode cX0_answerOn 28 = .ok (.iadd, 1) := by decide +kernel
theorem dX0_answerOn_29 : decode cX0_answerOn 29 = .ok (.istore 9, 2) := by decide +kernel
theorem dX0_answerOn_31 : decode cX0_answerOn 31 = .ok (.aload_n 0, 1) := by decide +kernel
theorem dX0_answerOn_32 : decode cX0_answerOn 32 = .ok (.aload_n 1, 1) := by decide +kernel
theorem dX0_answerOn_33 : decode cX0_answerOn 33 = .ok (.lload_n 2, 1) := by decide +kernel
theorem dX0_answerOn_34 : decode cX0_answerOn 34 = .ok (.iload 7, 2) := by decide +kernel
theorem dX0_answerOn_36 : decode cX0_answerOn 36 = .ok (.lshr, 1) := by decide +kernel
theorem dX0_answerOn_37 : decode cX0_answerOn 37 = .ok (.iload 9, 2) := by decide +kernel
theorem dX0_answerOn_39 : decode cX0_answerOn 39 = .ok (.aload 5, 2) := by decide +kernel
theorem dX0_answerOn_41 : decode cX0_answerOn 41 = .ok (.invokevirtual 67, 3) := by decide +kernel
theorem dX0_answerOn_44 : decode cX0_answerOn 44 = .ok (.istore 10, 2) := by decide +kernel
theorem dX0_answerOn_46 : decode cX0_answerOn 46 = .ok (.iload 6, 2) := by decide +kernel
theorem dX0_answerOn_48 : decode cX0_answerOn 48 = .ok (.getstatic 43, 3) := by decide +kernel
theorem dX0_answerOn_51 : decode cX0_answerOn 51 = .ok (.iload 8, 2) := by decide +kernel
theorem dX0_answerOn_53 : decode cX0_answerOn 53 = .ok (.iaload, 1) := by decide +kernel
theorem dX0_answerOn_54 : decode cX0_answerOn 54 = .ok (.aload_n 1, 1) := by decide +kernel
theorem dX0_answerOn_55 : decode cX0_answerOn 55 = .ok (.iload 9, 2) := by decide +kernel
theorem dX0_answerOn_57 : decode cX0_answerOn 57 = .ok (.iload 10, 2) := by decide +kernel
theorem dX0_answerOn_59 : decode cX0_answerOn 59 = .ok (.invokevirtual 71, 3) := by decide +kernel
theorem dX0_answerOn_62 : decode cX0_answerOn 62 = .ok (.imul, 1) := by decide +kernel
theorem dX0_answerOn_63 : decode cX0_answerOn 63 = .ok (.iload 7, 2) := by decide +kernel
theorem dX0_answerOn_65 : decode cX0_answerOn 65 = .ok (.ishl, 1) := by decide +kernel
theorem dX0_answerOn_66 : decode cX0_answerOn 66 = .ok (.iadd, 1) := by decide +kernel
theorem dX0_answerOn_67 : decode cX0_answerOn 67 = .ok (.istore 6, 2) := by decide +kernel
theorem dX0_answerOn_69 : decode cX0_answerOn 69 = .ok (.iinc 8 1, 3) := by decide +kernel
theorem dX0_answerOn_72 : decode cX0_answerOn 72 = .ok (.goto (-56), 3) := by decide +kernel
theorem dX0_answerOn_75 : decode cX0_answerOn 75 = .ok (.iinc 7 1, 3) := by decide +kernel
theorem dX0_answerOn_78 : decode cX0_answerOn 78 = .ok (.goto (-72), 3) := by decide +kernel
theorem dX0_answerOn_81 : decode cX0_answerOn 81 = .ok (.iload 6, 2) := by decide +kernel
theorem dX0_answerOn_83 : decode cX0_answerOn 83 = .ok (.ireturn, 1) := by decide +kernel
set_option maxRecDepth 20000 in
theorem ggX0_currentOn_X5_inputOf : GoodIn wsX0_currentOn wsX5_inputOf := goodIn_r _ [5] (by decide +kernel) (by decide +kernel)
set_option maxRecDepth 20000 in
theorem gX0_currentOn_X5_inputOf_n74 : GoodIn wsX0_currentOn (wsX5_inputOf) := ggX0_currentOn_X5_inputOf
set_option maxRecDepth 20000 in
theorem ggX0_currentOn_X4_conducted : GoodIn wsX0_currentOn wsX4_conducted := goodIn_r _ [10, 11, 12, 13, 14, 15, 16, 17, 18, 19, 20, 4, 21, 22, 23, 32, 33, 34, 35, 36, 37, 38, 39, 40, 41, 42, 43, 44, 45, 46] (by decide +kernel) (by decide +kernel)
set_option maxRecDepth 20000 in
theorem gX0_currentOn_X4_conducted : GoodIn wsX0_currentOn (wsV RX0 59 RX4 yX4_conducted wsX4_conducted) := goodIn_app (goodIn_of _ (by decide +kernel)) ggX0_currentOn_X4_conducted
theorem dX0_currentOn_0 : decode cX0_currentOn 0 = .ok (.iconst 0, 1) := by decide +kernel
theorem dX0_currentOn_1 : decode cX0_currentOn 1 = .ok (.istore 6, 2) := by decide +kernel
theorem dX0_currentOn_3 : decode cX0_currentOn 3 = .ok (.iconst 0, 1) := by decide +kernel
theorem dX0_currentOn_4 : decode cX0_currentOn 4 = .ok (.istore 7, 2) := by decide +kernel
theorem dX0_currentOn_6 : decode cX0_currentOn 6 = .ok (.iload 7, 2) := by decide +kernel
theorem dX0_currentOn_8 : decode cX0_currentOn 8 = .ok (.aload_n 0, 1) := by decide +kernel
theorem dX0_currentOn_9 : decode cX0_currentOn 9 = .ok (.getfield 33, 3) := by decide +kernel
theorem dX0_currentOn_12 : decode cX0_currentOn 12 = .ok (.if_icmp .ge 41, 3) := by decide +kernel
theorem dX0_currentOn_15 : decode cX0_currentOn 15 = .ok (.lload_n 2, 1) := by decide +kernel
theorem dX0_currentOn_16 : decode cX0_currentOn 16 = .ok (.iload 7, 2) := by decide +kernel
theorem dX0_currentOn_18 : decode cX0_currentOn 18 = .ok (.invokestatic 74, 3) := by decide +kernel
theorem dX0_currentOn_21 : decode cX0_currentOn 21 = .ok (.iconst 1, 1) := by decide +kernel
theorem dX0_currentOn_22 : decode cX0_currentOn 22 = .ok (.iand, 1) := by decide +kernel
theorem dX0_currentOn_23 : decode cX0_currentOn 23 = .ok (.iconst 1, 1) := by decide +kernel
theorem dX0_currentOn_24 : decode cX0_currentOn 24 = .ok (.if_icmp .ne 23, 3) := by decide +kernel
theorem dX0_currentOn_27 : decode cX0_currentOn 27 = .ok (.iload 6, 2) := by decide +kernel
theorem dX0_currentOn_29 : decode cX0_currentOn 29 = .ok (.aload_n 1, 1) := by decide +kernel
theorem dX0_currentOn_30 : decode cX0_currentOn 30 = .ok (.aload_n 0, 1) := by decide +kernel
theorem dX0_currentOn_31 : decode cX0_currentOn 31 = .ok (.getfield 15, 3) := by decide +kernel
theorem dX0_currentOn_34 : decode cX0_currentOn 34 = .ok (.iload 7, 2) := by decide +kernel
theorem dX0_currentOn_36 : decode cX0_currentOn 36 = .ok (.iaload, 1) := by decide +kernel
theorem dX0_currentOn_37 : decode cX0_currentOn 37 = .ok (.iload 4, 2) := by decide +kernel
theorem dX0_currentOn_39 : decode cX0_currentOn 39 = .ok (.aload 5, 2) := by decide +kernel
theorem dX0_currentOn_41 : decode cX0_currentOn 41 = .ok (.invokevirtual 59, 3) := by decide +kernel
theorem dX0_currentOn_44 : decode cX0_currentOn 44 = .ok (.iadd, 1) := by decide +kernel
theorem dX0_currentOn_45 : decode cX0_currentOn 45 = .ok (.istore 6, 2) := by decide +kernel
theorem dX0_currentOn_47 : decode cX0_currentOn 47 = .ok (.iinc 7 1, 3) := by decide +kernel
theorem dX0_currentOn_50 : decode cX0_currentOn 50 = .ok (.goto (-44), 3) := by decide +kernel
theorem dX0_currentOn_53 : decode cX0_currentOn 53 = .ok (.iload 6, 2) := by decide +kernel
theorem dX0_currentOn_55 : decode cX0_currentOn 55 = .ok (.ireturn, 1) := by decide +kernel
set_option maxRecDepth 20000 in
theorem ggX0_idealAnswer_X0_weightOf : GoodIn wsX0_idealAnswer wsX0_weightOf := goodIn_r _ [6, 7, 11, 12, 13, 14, 15, 16, 17, 18] (by decide +kernel) (by decide +kernel)
set_option maxRecDepth 20000 in
theorem gX0_idealAnswer_X0_weightOf : GoodIn wsX0_idealAnswer (wsV RX0 39 RX0 yX0_weightOf wsX0_weightOf) := goodIn_app (goodIn_of _ (by decide +kernel)) ggX0_idealAnswer_X0_weightOf
set_option maxRecDepth 20000 in
theorem ggX0_idealAnswer_X5_inputOf : GoodIn wsX0_idealAnswer wsX5_inputOf := goodIn_r _ [10] (by decide +kernel) (by decide +kernel)
set_option maxRecDepth 20000 in
theorem gX0_idealAnswer_X5_inputOf_n74 : GoodIn wsX0_idealAnswer (wsX5_inputOf) := ggX0_idealAnswer_X5_inputOf
theorem dX0_idealAnswer_0 : decode cX0_idealAnswer 0 = .ok (.iconst 0, 1) := by decide +kernel
theorem dX0_idealAnswer_1 : decode cX0_idealAnswer 1 = .ok (.istore 4, 2) := by decide +kernel
theorem dX0_idealAnswer_3 : decode cX0_idealAnswer 3 = .ok (.iconst 0, 1) := by decide +kernel
theorem dX0_idealAnswer_4 : decode cX0_idealAnswer 4 = .ok (.istore 5, 2) := by decide +kernel
theorem dX0_idealAnswer_6 : decode cX0_idealAnswer 6 = .ok (.iload 5, 2) := by decide +kernel
theorem dX0_idealAnswer_8 : decode cX0_idealAnswer 8 = .ok (.aload_n 0, 1) := by decide +kernel
theorem dX0_idealAnswer_9 : decode cX0_idealAnswer 9 = .ok (.getfield 33, 3) := by decide +kernel
theorem dX0_idealAnswer_12 : decode cX0_idealAnswer 12 = .ok (.if_icmp .ge 28, 3) := by decide +kernel
theorem dX0_idealAnswer_15 : decode cX0_idealAnswer 15 = .ok (.iload 4, 2) := by decide +kernel
theorem dX0_idealAnswer_17 : decode cX0_idealAnswer 17 = .ok (.aload_n 0, 1) := by decide +kernel
theorem dX0_idealAnswer_18 : decode cX0_idealAnswer 18 = .ok (.iload 5, 2) := by decide +kernel
theorem dX0_idealAnswer_20 : decode cX0_idealAnswer 20 = .ok (.iload_n 3, 1) := by decide +kernel
theorem dX0_idealAnswer_21 : decode cX0_idealAnswer 21 = .ok (.invokevirtual 39, 3) := by decide +kernel
theorem dX0_idealAnswer_24 : decode cX0_idealAnswer 24 = .ok (.lload_n 1, 1) := by decide +kernel
theorem dX0_idealAnswer_25 : decode cX0_idealAnswer 25 = .ok (.iload 5, 2) := by decide +kernel
theorem dX0_idealAnswer_27 : decode cX0_idealAnswer 27 = .ok (.invokestatic 74, 3) := by decide +kernel
theorem dX0_idealAnswer_30 : decode cX0_idealAnswer 30 = .ok (.imul, 1) := by decide +kernel
theorem dX0_idealAnswer_31 : decode cX0_idealAnswer 31 = .ok (.iadd, 1) := by decide +kernel
theorem dX0_idealAnswer_32 : decode cX0_idealAnswer 32 = .ok (.istore 4, 2) := by decide +kernel
theorem dX0_idealAnswer_34 : decode cX0_idealAnswer 34 = .ok (.iinc 5 1, 3) := by decide +kernel
theorem dX0_idealAnswer_37 : decode cX0_idealAnswer 37 = .ok (.goto (-31), 3) := by decide +kernel
theorem dX0_idealAnswer_40 : decode cX0_idealAnswer 40 = .ok (.iload 4, 2) := by decide +kernel
theorem dX0_idealAnswer_42 : decode cX0_idealAnswer 42 = .ok (.ireturn, 1) := by decide +kernel
set_option maxRecDepth 20000 in
theorem ggX0_boundOn_X0_needOf : GoodIn wsX0_boundOn wsX0_needOf := goodIn_r _ [5, 6, 7, 8, 9, 4, 10, 11, 12, 13, 14, 15, 43, 44, 45, 46, 47, 48, 49, 50] (by decide +kernel) (by decide +kernel)
set_option maxRecDepth 20000 in
theorem gX0_boundOn_X0_needOf : GoodIn wsX0_boundOn (wsV RX0 78 RX0 yX0_needOf wsX0_needOf) := goodIn_app (goodIn_of _ (by decide +kernel)) ggX0_boundOn_X0_needOf
set_option maxRecDepth 20000 in
theorem ggX0_boundOn_X4_greatestError : GoodIn wsX0_boundOn wsX4_greatestError := goodIn_r _ [20, 21, 22, 23, 24, 25, 26, 27, 19, 28, 29, 30, 31, 32, 33, 34, 35, 36, 37, 38, 51, 52, 53, 54, 55, 56, 57, 58, 59, 60, 61, 62] (by decide +kernel) (by decide +kernel)
set_option maxRecDepth 20000 in
theorem gX0_boundOn_X4_greatestError : GoodIn wsX0_boundOn (wsV RX0 82 RX4 yX4_greatestError wsX4_greatestError) := goodIn_app (goodIn_of _ (by decide +kernel)) ggX0_boundOn_X4_greatestError
set_option maxRecDepth 20000 in
theorem ggX0_boundOn_X4_leastError : GoodIn wsX0_boundOn wsX4_leastError := goodIn_r _ [42, 33, 34, 23, 35, 25, 26, 27, 19, 28, 29, 30, 21, 22, 24, 31, 32, 36, 37, 38, 51, 52, 53, 54, 55, 56, 57, 58, 59, 60, 61, 62] (by decide +kernel) (by decide +kernel)
set_option maxRecDepth 20000 in
theorem gX0_boundOn_X4_leastError : GoodIn wsX0_boundOn (wsV RX0 85 RX4 yX4_leastError wsX4_leastError) := goodIn_app (goodIn_of _ (by decide +kernel)) ggX0_boundOn_X4_leastError
theorem dX0_boundOn_0 : decode cX0_boundOn 0 = .ok (.iconst 0, 1) := by decide +kernel
theorem dX0_boundOn_1 : decode cX0_boundOn 1 = .ok (.istore 4, 2) := by decide +kernel
theorem dX0_boundOn_3 : decode cX0_boundOn 3 = .ok (.iconst 0, 1) := by decide +kernel
theorem dX0_boundOn_4 : decode cX0_boundOn 4 = .ok (.istore 5, 2) := by decide +kernel
theorem dX0_boundOn_6 : decode cX0_boundOn 6 = .ok (.iload 5, 2) := by decide +kernel
theorem dX0_boundOn_8 : decode cX0_boundOn 8 = .ok (.iconst 4, 1) := by decide +kernel
theorem dX0_boundOn_9 : decode cX0_boundOn 9 = .ok (.if_icmp .ge 86, 3) := by decide +kernel
theorem dX0_boundOn_12 : decode cX0_boundOn 12 = .ok (.iload_n 2, 1) := by decide +kernel
theorem dX0_boundOn_13 : decode cX0_boundOn 13 = .ok (.iconst 4, 1) := by decide +kernel
theorem dX0_boundOn_14 : decode cX0_boundOn 14 = .ok (.imul, 1) := by decide +kernel
theorem dX0_boundOn_15 : decode cX0_boundOn 15 = .ok (.iload 5, 2) := by decide +kernel
theorem dX0_boundOn_17 : decode cX0_boundOn 17 = .ok (.iadd, 1) := by decide +kernel
theorem dX0_boundOn_18 : decode cX0_boundOn 18 = .ok (.istore 6, 2) := by decide +kernel
theorem dX0_boundOn_20 : decode cX0_boundOn 20 = .ok (.aload_n 0, 1) := by decide +kernel
theorem dX0_boundOn_21 : decode cX0_boundOn 21 = .ok (.iload 6, 2) := by decide +kernel
theorem dX0_boundOn_23 : decode cX0_boundOn 23 = .ok (.invokevirtual 78, 3) := by decide +kernel
theorem dX0_boundOn_26 : decode cX0_boundOn 26 = .ok (.istore 7, 2) := by decide +kernel
theorem dX0_boundOn_28 : decode cX0_boundOn 28 = .ok (.iload_n 3, 1) := by decide +kernel
theorem dX0_boundOn_29 : decode cX0_boundOn 29 = .ok (.getstatic 43, 3) := by decide +kernel
theorem dX0_boundOn_32 : decode cX0_boundOn 32 = .ok (.iload 5, 2) := by decide +kernel
theorem dX0_boundOn_34 : decode cX0_boundOn 34 = .ok (.iaload, 1) := by decide +kernel
theorem dX0_boundOn_35 : decode cX0_boundOn 35 = .ok (.ifCond .le 7, 3) := by decide +kernel
theorem dX0_boundOn_38 : decode cX0_boundOn 38 = .ok (.iconst 1, 1) := by decide +kernel
theorem dX0_boundOn_39 : decode cX0_boundOn 39 = .ok (.goto 4, 3) := by decide +kernel
theorem dX0_boundOn_42 : decode cX0_boundOn 42 = .ok (.iconst 0, 1) := by decide +kernel
theorem dX0_boundOn_43 : decode cX0_boundOn 43 = .ok (.if_icmp .ne 7, 3) := by decide +kernel
theorem dX0_boundOn_46 : decode cX0_boundOn 46 = .ok (.iconst 1, 1) := by decide +kernel
theorem dX0_boundOn_47 : decode cX0_boundOn 47 = .ok (.goto 4, 3) := by decide +kernel
theorem dX0_boundOn_50 : decode cX0_boundOn 50 = .ok (.iconst 0, 1) := by decide +kernel
theorem dX0_boundOn_51 : decode cX0_boundOn 51 = .ok (.istore 8, 2) := by decide +kernel
theorem dX0_boundOn_53 : decode cX0_boundOn 53 = .ok (.iload 4, 2) := by decide +kernel
theorem dX0_boundOn_55 : decode cX0_boundOn 55 = .ok (.getstatic 43, 3) := by decide +kernel
theorem dX0_boundOn_58 : decode cX0_boundOn 58 = .ok (.iload 5, 2) := by decide +kernel
theorem dX0_boundOn_60 : decode cX0_boundOn 60 = .ok (.iaload, 1) := by decide +kernel
theorem dX0_boundOn_61 : decode cX0_boundOn 61 = .ok (.iload 8, 2) := by decide +kernel
theorem dX0_boundOn_63 : decode cX0_boundOn 63 = .ok (.ifCond .eq 14, 3) := by decide +kernel
theorem dX0_boundOn_66 : decode cX0_boundOn 66 = .ok (.aload_n 1, 1) := by decide +kernel
theorem dX0_boundOn_67 : decode cX0_boundOn 67 = .ok (.iload 6, 2) := by decide +kernel
theorem dX0_boundOn_69 : decode cX0_boundOn 69 = .ok (.iload 7, 2) := by decide +kernel
theorem dX0_boundOn_71 : decode cX0_boundOn 71 = .ok (.invokevirtual 82, 3) := by decide +kernel
theorem dX0_boundOn_74 : decode cX0_boundOn 74 = .ok (.goto 11, 3) := by decide +kernel
theorem dX0_boundOn_77 : decode cX0_boundOn 77 = .ok (.aload_n 1, 1) := by decide +kernel
theorem dX0_boundOn_78 : decode cX0_boundOn 78 = .ok (.iload 6, 2) := by decide +kernel
theorem dX0_boundOn_80 : decode cX0_boundOn 80 = .ok (.iload 7, 2) := by decide +kernel
theorem dX0_boundOn_82 : decode cX0_boundOn 82 = .ok (.invokevirtual 85, 3) := by decide +kernel
theorem dX0_boundOn_85 : decode cX0_boundOn 85 = .ok (.imul, 1) := by decide +kernel
theorem dX0_boundOn_86 : decode cX0_boundOn 86 = .ok (.iadd, 1) := by decide +kernel
theorem dX0_boundOn_87 : decode cX0_boundOn 87 = .ok (.istore 4, 2) := by decide +kernel
theorem dX0_boundOn_89 : decode cX0_boundOn 89 = .ok (.iinc 5 1, 3) := by decide +kernel
theorem dX0_boundOn_92 : decode cX0_boundOn 92 = .ok (.goto (-86), 3) := by decide +kernel
theorem dX0_boundOn_95 : decode cX0_boundOn 95 = .ok (.sipush 255, 3) := by decide +kernel
theorem dX0_boundOn_98 : decode cX0_boundOn 98 = .ok (.iload 4, 2) := by decide +kernel
theorem dX0_boundOn_100 : decode cX0_boundOn 100 = .ok (.imul, 1) := by decide +kernel
theorem dX0_boundOn_101 : decode cX0_boundOn 101 = .ok (.ireturn, 1) := by decide +kernel
set_option maxRecDepth 20000 in
theorem ggX0_needOf_X0_needed : GoodIn wsX0_needOf wsX0_needed := goodIn_r _ [6, 7, 8, 9, 5, 10, 11, 12, 13, 14, 15, 16, 17, 18, 19] (by decide +kernel) (by decide +kernel)
set_option maxRecDepth 20000 in
theorem gX0_needOf_X0_needed : GoodIn wsX0_needOf (wsV RX0 50 RX0 yX0_needed wsX0_needed) := goodIn_app (goodIn_of _ (by decide +kernel)) ggX0_needOf_X0_needed
theorem dX0_needOf_0 : decode cX0_needOf 0 = .ok (.iconst 0, 1) := by decide +kernel
theorem dX0_needOf_1 : decode cX0_needOf 1 = .ok (.istore_n 2, 1) := by decide +kernel
theorem dX0_needOf_2 : decode cX0_needOf 2 = .ok (.iconst 0, 1) := by decide +kernel
theorem dX0_needOf_3 : decode cX0_needOf 3 = .ok (.istore_n 3, 1) := by decide +kernel
theorem dX0_needOf_4 : decode cX0_needOf 4 = .ok (.iload_n 3, 1) := by decide +kernel
theorem dX0_needOf_5 : decode cX0_needOf 5 = .ok (.aload_n 0, 1) := by decide +kernel
theorem dX0_needOf_6 : decode cX0_needOf 6 = .ok (.getfield 33, 3) := by decide +kernel
theorem dX0_needOf_9 : decode cX0_needOf 9 = .ok (.if_icmp .ge 18, 3) := by decide +kernel
theorem dX0_needOf_12 : decode cX0_needOf 12 = .ok (.iload_n 2, 1) := by decide +kernel
theorem dX0_needOf_13 : decode cX0_needOf 13 = .ok (.aload_n 0, 1) := by decide +kernel
theorem dX0_needOf_14 : decode cX0_needOf 14 = .ok (.iload_n 3, 1) := by decide +kernel
theorem dX0_needOf_15 : decode cX0_needOf 15 = .ok (.iload_n 1, 1) := by decide +kernel
theorem dX0_needOf_16 : decode cX0_needOf 16 = .ok (.invokevirtual 50, 3) := by decide +kernel
theorem dX0_needOf_19 : decode cX0_needOf 19 = .ok (.iadd, 1) := by decide +kernel
theorem dX0_needOf_20 : decode cX0_needOf 20 = .ok (.istore_n 2, 1) := by decide +kernel
theorem dX0_needOf_21 : decode cX0_needOf 21 = .ok (.iinc 3 1, 3) := by decide +kernel
theorem dX0_needOf_24 : decode cX0_needOf 24 = .ok (.goto (-20), 3) := by decide +kernel
theorem dX0_needOf_27 : decode cX0_needOf 27 = .ok (.iload_n 2, 1) := by decide +kernel
theorem dX0_needOf_28 : decode cX0_needOf 28 = .ok (.ireturn, 1) := by decide +kernel
set_option maxRecDepth 20000 in
theorem ggX0_cyclesOn_X0_columns : GoodIn wsX0_cyclesOn wsX0_columns := goodIn_r _ [6, 7, 23, 24, 25, 26, 27, 28, 29, 30] (by decide +kernel) (by decide +kernel)
set_option maxRecDepth 20000 in
theorem gX0_cyclesOn_X0_columns : GoodIn wsX0_cyclesOn (wsV RX0 46 RX0 yX0_columns wsX0_columns) := goodIn_app (goodIn_of _ (by decide +kernel)) ggX0_cyclesOn_X0_columns
set_option maxRecDepth 20000 in
theorem ggX0_cyclesOn_X5_quotient : GoodIn wsX0_cyclesOn wsX5_quotient := goodIn_r _ [10] (by decide +kernel) (by decide +kernel)
set_option maxRecDepth 20000 in
theorem gX0_cyclesOn_X5_quotient_n91 : GoodIn wsX0_cyclesOn (wsX5_quotient) := ggX0_cyclesOn_X5_quotient
theorem dX0_cyclesOn_0 : decode cX0_cyclesOn 0 = .ok (.bipush 8, 2) := by decide +kernel
theorem dX0_cyclesOn_2 : decode cX0_cyclesOn 2 = .ok (.aload_n 0, 1) := by decide +kernel
theorem dX0_cyclesOn_3 : decode cX0_cyclesOn 3 = .ok (.invokevirtual 46, 3) := by decide +kernel
theorem dX0_cyclesOn_6 : decode cX0_cyclesOn 6 = .ok (.aload_n 1, 1) := by decide +kernel
theorem dX0_cyclesOn_7 : decode cX0_cyclesOn 7 = .ok (.getfield 88, 3) := by decide +kernel
theorem dX0_cyclesOn_10 : decode cX0_cyclesOn 10 = .ok (.iadd, 1) := by decide +kernel
theorem dX0_cyclesOn_11 : decode cX0_cyclesOn 11 = .ok (.iconst 1, 1) := by decide +kernel
theorem dX0_cyclesOn_12 : decode cX0_cyclesOn 12 = .ok (.isub, 1) := by decide +kernel
theorem dX0_cyclesOn_13 : decode cX0_cyclesOn 13 = .ok (.aload_n 1, 1) := by decide +kernel
theorem dX0_cyclesOn_14 : decode cX0_cyclesOn 14 = .ok (.getfield 88, 3) := by decide +kernel
theorem dX0_cyclesOn_17 : decode cX0_cyclesOn 17 = .ok (.invokestatic 91, 3) := by decide +kernel
theorem dX0_cyclesOn_20 : decode cX0_cyclesOn 20 = .ok (.imul, 1) := by decide +kernel
theorem dX0_cyclesOn_21 : decode cX0_cyclesOn 21 = .ok (.ireturn, 1) := by decide +kernel
theorem dX1_init_0 : decode cX1_init 0 = .ok (.aload_n 0, 1) := by decide +kernel
theorem dX1_init_1 : decode cX1_init 1 = .ok (.invokespecial 3, 3) := by decide +kernel
theorem dX1_init_4 : decode cX1_init 4 = .ok (.aload_n 0, 1) := by decide +kernel
theorem dX1_init_5 : decode cX1_init 5 = .ok (.bipush 6, 2) := by decide +kernel
theorem dX1_init_7 : decode cX1_init 7 = .ok (.newarray .int, 2) := by decide +kernel
theorem dX1_init_9 : decode cX1_init 9 = .ok (.putfield 9, 3) := by decide +kernel
theorem dX1_init_12 : decode cX1_init 12 = .ok (.aload_n 0, 1) := by decide +kernel
theorem dX1_init_13 : decode cX1_init 13 = .ok (.bipush 6, 2) := by decide +kernel
theorem dX1_init_15 : decode cX1_init 15 = .ok (.newarray .int, 2) := by decide +kernel
theorem dX1_init_17 : decode cX1_init 17 = .ok (.putfield 15, 3) := by decide +kernel
theorem dX1_init_20 : decode cX1_init 20 = .ok (.aload_n 0, 1) := by decide +kernel
theorem dX1_init_21 : decode cX1_init 21 = .ok (.iconst 0, 1) := by decide +kernel
theorem dX1_init_22 : decode cX1_init 22 = .ok (.putfield 18, 3) := by decide +kernel
theorem dX1_init_25 : decode cX1_init 25 = .ok (.return_, 1) := by decide +kernel
theorem dX1_clear_0 : decode cX1_clear 0 = .ok (.aload_n 0, 1) := by decide +kernel
theorem dX1_clear_1 : decode cX1_clear 1 = .ok (.iconst 0, 1) := by decide +kernel
theorem dX1_clear_2 : decode cX1_clear 2 = .ok (.putfield 18, 3) := by decide +kernel
theorem dX1_clear_5 : decode cX1_clear 5 = .ok (.return_, 1) := by decide +kernel
theorem dX1_add_0 : decode cX1_add 0 = .ok (.aload_n 0, 1) := by decide +kernel
theorem dX1_add_1 : decode cX1_add 1 = .ok (.getfield 18, 3) := by decide +kernel
theorem dX1_add_4 : decode cX1_add 4 = .ok (.bipush 6, 2) := by decide +kernel
theorem dX1_add_6 : decode cX1_add 6 = .ok (.if_icmp .ge 23, 3) := by decide +kernel
theorem dX1_add_9 : decode cX1_add 9 = .ok (.aload_n 0, 1) := by decide +kernel
theorem dX1_add_10 : decode cX1_add 10 = .ok (.getfield 9, 3) := by decide +kernel
theorem dX1_add_13 : decode cX1_add 13 = .ok (.aload_n 0, 1) := by decide +kernel
theorem dX1_add_14 : decode cX1_add 14 = .ok (.getfield 18, 3) := by decide +kernel
theorem dX1_add_17 : decode cX1_add 17 = .ok (.iload_n 1, 1) := by decide +kernel
theorem dX1_add_18 : decode cX1_add 18 = .ok (.iastore, 1) := by decide +kernel
theorem dX1_add_19 : decode cX1_add 19 = .ok (.aload_n 0, 1) := by decide +kernel
theorem dX1_add_20 : decode cX1_add 20 = .ok (.dup, 1) := by decide +kernel
theorem dX1_add_21 : decode cX1_add 21 = .ok (.getfield 18, 3) := by decide +kernel
theorem dX1_add_24 : decode cX1_add 24 = .ok (.iconst 1, 1) := by decide +kernel
theorem dX1_add_25 : decode cX1_add 25 = .ok (.iadd, 1) := by decide +kernel
theorem dX1_add_26 : decode cX1_add 26 = .ok (.putfield 18, 3) := by decide +kernel
theorem dX1_add_29 : decode cX1_add 29 = .ok (.return_, 1) := by decide +kernel
theorem dX1_cyclesReckoned_0 : decode cX1_cyclesReckoned 0 = .ok (.iconst 0, 1) := by decide +kernel
theorem dX1_cyclesReckoned_1 : decode cX1_cyclesReckoned 1 = .ok (.istore_n 2, 1) := by decide +kernel
theorem dX1_cyclesReckoned_2 : decode cX1_cyclesReckoned 2 = .ok (.iconst 0, 1) := by decide +kernel
theorem dX1_cyclesReckoned_3 : decode cX1_cyclesReckoned 3 = .ok (.istore_n 3, 1) := by decide +kernel
theorem dX1_cyclesReckoned_4 : decode cX1_cyclesReckoned 4 = .ok (.iconst 0, 1) := by decide +kernel
theorem dX1_cyclesReckoned_5 : decode cX1_cyclesReckoned 5 = .ok (.istore 4, 2) := by decide +kernel
theorem dX1_cyclesReckoned_7 : decode cX1_cyclesReckoned 7 = .ok (.iload 4, 2) := by decide +kernel
theorem dX1_cyclesReckoned_9 : decode cX1_cyclesReckoned 9 = .ok (.aload_n 0, 1) := by decide +kernel
theorem dX1_cyclesReckoned_10 : decode cX1_cyclesReckoned 10 = .ok (.getfield 18, 3) := by decide +kernel
theorem dX1_cyclesReckoned_13 : decode cX1_cyclesReckoned 13 = .ok (.if_icmp .ge 31, 3) := by decide +kernel
theorem dX1_cyclesReckoned_16 : decode cX1_cyclesReckoned 16 = .ok (.iload_n 2, 1) := by decide +kernel
theorem dX1_cyclesReckoned_17 : decode cX1_cyclesReckoned 17 = .ok (.aload_n 0, 1) := by decide +kernel
theorem dX1_cyclesReckoned_18 : decode cX1_cyclesReckoned 18 = .ok (.getfield 9, 3) := by decide +kernel
theorem dX1_cyclesReckoned_21 : decode cX1_cyclesReckoned 21 = .ok (.iload 4, 2) := by decide +kernel
theorem dX1_cyclesReckoned_23 : decode cX1_cyclesReckoned 23 = .ok (.iaload, 1) := by decide +kernel
theorem dX1_cyclesReckoned_24 : decode cX1_cyclesReckoned 24 = .ok (.iadd, 1) := by decide +kernel
theorem dX1_cyclesReckoned_25 : decode cX1_cyclesReckoned 25 = .ok (.istore_n 2, 1) := by decide +kernel
theorem dX1_cyclesReckoned_26 : decode cX1_cyclesReckoned 26 = .ok (.iload_n 3, 1) := by decide +kernel
theorem dX1_cyclesReckoned_27 : decode cX1_cyclesReckoned 27 = .ok (.aload_n 0, 1) := by decide +kernel
theorem dX1_cyclesReckoned_28 : decode cX1_cyclesReckoned 28 = .ok (.getfield 9, 3) := by decide +kernel
theorem dX1_cyclesReckoned_31 : decode cX1_cyclesReckoned 31 = .ok (.iload 4, 2) := by decide +kernel
theorem dX1_cyclesReckoned_33 : decode cX1_cyclesReckoned 33 = .ok (.iaload, 1) := by decide +kernel
theorem dX1_cyclesReckoned_34 : decode cX1_cyclesReckoned 34 = .ok (.invokestatic 22, 3) := by decide +kernel
theorem dX1_cyclesReckoned_37 : decode cX1_cyclesReckoned 37 = .ok (.istore_n 3, 1) := by decide +kernel
theorem dX1_cyclesReckoned_38 : decode cX1_cyclesReckoned 38 = .ok (.iinc 4 1, 3) := by decide +kernel
theorem dX1_cyclesReckoned_41 : decode cX1_cyclesReckoned 41 = .ok (.goto (-34), 3) := by decide +kernel
theorem dX1_cyclesReckoned_44 : decode cX1_cyclesReckoned 44 = .ok (.iload_n 2, 1) := by decide +kernel
theorem dX1_cyclesReckoned_45 : decode cX1_cyclesReckoned 45 = .ok (.iload_n 1, 1) := by decide +kernel
theorem dX1_cyclesReckoned_46 : decode cX1_cyclesReckoned 46 = .ok (.iconst 1, 1) := by decide +kernel
theorem dX1_cyclesReckoned_47 : decode cX1_cyclesReckoned 47 = .ok (.isub, 1) := by decide +kernel
theorem dX1_cyclesReckoned_48 : decode cX1_cyclesReckoned 48 = .ok (.iload_n 3, 1) := by decide +kernel
theorem dX1_cyclesReckoned_49 : decode cX1_cyclesReckoned 49 = .ok (.imul, 1) := by decide +kernel
theorem dX1_cyclesReckoned_50 : decode cX1_cyclesReckoned 50 = .ok (.iadd, 1) := by decide +kernel
theorem dX1_cyclesReckoned_51 : decode cX1_cyclesReckoned 51 = .ok (.ireturn, 1) := by decide +kernel
set_option maxRecDepth 20000 in
theorem ggX1_cyclesCounted_X1_moveOn : GoodIn wsX1_cyclesCounted wsX1_moveOn := goodIn_r _ [9, 1, 2, 4, 14, 15, 16] (by decide +kernel) (by decide +kernel)
set_option maxRecDepth 20000 in
theorem gX1_cyclesCounted_X1_moveOn : GoodIn wsX1_cyclesCounted (wsV RX1 29 RX1 yX1_moveOn wsX1_moveOn) := goodIn_app (goodIn_of _ (by decide +kernel)) ggX1_cyclesCounted_X1_moveOn
set_option maxRecDepth 20000 in
theorem ggX1_cyclesCounted_X1_work : GoodIn wsX1_cyclesCounted wsX1_work := goodIn_r _ [13, 1, 2, 14, 15, 16] (by decide +kernel) (by decide +kernel)
set_option maxRecDepth 20000 in
theorem gX1_cyclesCounted_X1_work : GoodIn wsX1_cyclesCounted (wsV RX1 33 RX1 yX1_work wsX1_work) := goodIn_app (goodIn_of _ (by decide +kernel)) ggX1_cyclesCounted_X1_work
theorem dX1_cyclesCounted_0 : decode cX1_cyclesCounted 0 = .ok (.iconst 0, 1) := by decide +kernel
theorem dX1_cyclesCounted_1 : decode cX1_cyclesCounted 1 = .ok (.istore_n 2, 1) := by decide +kernel
theorem dX1_cyclesCounted_2 : decode cX1_cyclesCounted 2 = .ok (.iload_n 2, 1) := by decide +kernel
theorem dX1_cyclesCounted_3 : decode cX1_cyclesCounted 3 = .ok (.aload_n 0, 1) := by decide +kernel
theorem dX1_cyclesCounted_4 : decode cX1_cyclesCounted 4 = .ok (.getfield 18, 3) := by decide +kernel
theorem dX1_cyclesCounted_7 : decode cX1_cyclesCounted 7 = .ok (.if_icmp .ge 16, 3) := by decide +kernel
theorem dX1_cyclesCounted_10 : decode cX1_cyclesCounted 10 = .ok (.aload_n 0, 1) := by decide +kernel
theorem dX1_cyclesCounted_11 : decode cX1_cyclesCounted 11 = .ok (.getfield 15, 3) := by decide +kernel
theorem dX1_cyclesCounted_14 : decode cX1_cyclesCounted 14 = .ok (.iload_n 2, 1) := by decide +kernel
theorem dX1_cyclesCounted_15 : decode cX1_cyclesCounted 15 = .ok (.iconst (-1), 1) := by decide +kernel
theorem dX1_cyclesCounted_16 : decode cX1_cyclesCounted 16 = .ok (.iastore, 1) := by decide +kernel
theorem dX1_cyclesCounted_17 : decode cX1_cyclesCounted 17 = .ok (.iinc 2 1, 3) := by decide +kernel
theorem dX1_cyclesCounted_20 : decode cX1_cyclesCounted 20 = .ok (.goto (-18), 3) := by decide +kernel
theorem dX1_cyclesCounted_23 : decode cX1_cyclesCounted 23 = .ok (.iconst 0, 1) := by decide +kernel
theorem dX1_cyclesCounted_24 : decode cX1_cyclesCounted 24 = .ok (.istore_n 2, 1) := by decide +kernel
theorem dX1_cyclesCounted_25 : decode cX1_cyclesCounted 25 = .ok (.iconst 0, 1) := by decide +kernel
theorem dX1_cyclesCounted_26 : decode cX1_cyclesCounted 26 = .ok (.istore_n 3, 1) := by decide +kernel
theorem dX1_cyclesCounted_27 : decode cX1_cyclesCounted 27 = .ok (.iconst 0, 1) := by decide +kernel
theorem dX1_cyclesCounted_28 : decode cX1_cyclesCounted 28 = .ok (.istore 4, 2) := by decide +kernel
theorem dX1_cyclesCounted_30 : decode cX1_cyclesCounted 30 = .ok (.iload 4, 2) := by decide +kernel
theorem dX1_cyclesCounted_32 : decode cX1_cyclesCounted 32 = .ok (.ldc 28, 2) := by decide +kernel
theorem dX1_cyclesCounted_34 : decode cX1_cyclesCounted 34 = .ok (.if_icmp .ge 58, 3) := by decide +kernel
theorem dX1_cyclesCounted_37 : decode cX1_cyclesCounted 37 = .ok (.iload_n 3, 1) := by decide +kernel
theorem dX1_cyclesCounted_38 : decode cX1_cyclesCounted 38 = .ok (.aload_n 0, 1) := by decide +kernel
theorem dX1_cyclesCounted_39 : decode cX1_cyclesCounted 39 = .ok (.invokevirtual 29, 3) := by decide +kernel
theorem dX1_cyclesCounted_42 : decode cX1_cyclesCounted 42 = .ok (.iadd, 1) := by decide +kernel
theorem dX1_cyclesCounted_43 : decode cX1_cyclesCounted 43 = .ok (.istore_n 3, 1) := by decide +kernel
theorem dX1_cyclesCounted_44 : decode cX1_cyclesCounted 44 = .ok (.iload_n 3, 1) := by decide +kernel
theorem dX1_cyclesCounted_45 : decode cX1_cyclesCounted 45 = .ok (.iload_n 1, 1) := by decide +kernel
theorem dX1_cyclesCounted_46 : decode cX1_cyclesCounted 46 = .ok (.if_icmp .lt 6, 3) := by decide +kernel
theorem dX1_cyclesCounted_49 : decode cX1_cyclesCounted 49 = .ok (.iload 4, 2) := by decide +kernel
theorem dX1_cyclesCounted_51 : decode cX1_cyclesCounted 51 = .ok (.ireturn, 1) := by decide +kernel
theorem dX1_cyclesCounted_52 : decode cX1_cyclesCounted 52 = .ok (.iload_n 2, 1) := by decide +kernel
theorem dX1_cyclesCounted_53 : decode cX1_cyclesCounted 53 = .ok (.iload_n 1, 1) := by decide +kernel
theorem dX1_cyclesCounted_54 : decode cX1_cyclesCounted 54 = .ok (.if_icmp .ge 28, 3) := by decide +kernel
theorem dX1_cyclesCounted_57 : decode cX1_cyclesCounted 57 = .ok (.aload_n 0, 1) := by decide +kernel
theorem dX1_cyclesCounted_58 : decode cX1_cyclesCounted 58 = .ok (.getfield 15, 3) := by decide +kernel
theorem dX1_cyclesCounted_61 : decode cX1_cyclesCounted 61 = .ok (.iconst 0, 1) := by decide +kernel
theorem dX1_cyclesCounted_62 : decode cX1_cyclesCounted 62 = .ok (.iaload, 1) := by decide +kernel
theorem dX1_cyclesCounted_63 : decode cX1_cyclesCounted 63 = .ok (.iconst (-1), 1) := by decide +kernel
theorem dX1_cyclesCounted_64 : decode cX1_cyclesCounted 64 = .ok (.if_icmp .ne 18, 3) := by decide +kernel
theorem dX1_cyclesCounted_67 : decode cX1_cyclesCounted 67 = .ok (.aload_n 0, 1) := by decide +kernel
theorem dX1_cyclesCounted_68 : decode cX1_cyclesCounted 68 = .ok (.getfield 15, 3) := by decide +kernel
theorem dX1_cyclesCounted_71 : decode cX1_cyclesCounted 71 = .ok (.iconst 0, 1) := by decide +kernel
theorem dX1_cyclesCounted_72 : decode cX1_cyclesCounted 72 = .ok (.aload_n 0, 1) := by decide +kernel
theorem dX1_cyclesCounted_73 : decode cX1_cyclesCounted 73 = .ok (.getfield 9, 3) := by decide +kernel
theorem dX1_cyclesCounted_76 : decode cX1_cyclesCounted 76 = .ok (.iconst 0, 1) := by decide +kernel
theorem dX1_cyclesCounted_77 : decode cX1_cyclesCounted 77 = .ok (.iaload, 1) := by decide +kernel
theorem dX1_cyclesCounted_78 : decode cX1_cyclesCounted 78 = .ok (.iastore, 1) := by decide +kernel
theorem dX1_cyclesCounted_79 : decode cX1_cyclesCounted 79 = .ok (.iinc 2 1, 3) := by decide +kernel
theorem dX1_cyclesCounted_82 : decode cX1_cyclesCounted 82 = .ok (.aload_n 0, 1) := by decide +kernel
theorem dX1_cyclesCounted_83 : decode cX1_cyclesCounted 83 = .ok (.invokevirtual 33, 3) := by decide +kernel
theorem dX1_cyclesCounted_86 : decode cX1_cyclesCounted 86 = .ok (.iinc 4 1, 3) := by decide +kernel
theorem dX1_cyclesCounted_89 : decode cX1_cyclesCounted 89 = .ok (.goto (-59), 3) := by decide +kernel
theorem dX1_cyclesCounted_92 : decode cX1_cyclesCounted 92 = .ok (.ldc 28, 2) := by decide +kernel
theorem dX1_cyclesCounted_94 : decode cX1_cyclesCounted 94 = .ok (.ireturn, 1) := by decide +kernel
theorem dX1_moveOn_0 : decode cX1_moveOn 0 = .ok (.iconst 0, 1) := by decide +kernel
theorem dX1_moveOn_1 : decode cX1_moveOn 1 = .ok (.istore_n 1, 1) := by decide +kernel
theorem dX1_moveOn_2 : decode cX1_moveOn 2 = .ok (.aload_n 0, 1) := by decide +kernel
theorem dX1_moveOn_3 : decode cX1_moveOn 3 = .ok (.getfield 18, 3) := by decide +kernel
theorem dX1_moveOn_6 : decode cX1_moveOn 6 = .ok (.iconst 1, 1) := by decide +kernel
theorem dX1_moveOn_7 : decode cX1_moveOn 7 = .ok (.isub, 1) := by decide +kernel
theorem dX1_moveOn_8 : decode cX1_moveOn 8 = .ok (.istore_n 2, 1) := by decide +kernel
theorem dX1_moveOn_9 : decode cX1_moveOn 9 = .ok (.iload_n 2, 1) := by decide +kernel
theorem dX1_moveOn_10 : decode cX1_moveOn 10 = .ok (.ifCond .lt 79, 3) := by decide +kernel
theorem dX1_moveOn_13 : decode cX1_moveOn 13 = .ok (.aload_n 0, 1) := by decide +kernel
theorem dX1_moveOn_14 : decode cX1_moveOn 14 = .ok (.getfield 15, 3) := by decide +kernel
theorem dX1_moveOn_17 : decode cX1_moveOn 17 = .ok (.iload_n 2, 1) := by decide +kernel
theorem dX1_moveOn_18 : decode cX1_moveOn 18 = .ok (.iaload, 1) := by decide +kernel
theorem dX1_moveOn_19 : decode cX1_moveOn 19 = .ok (.ifCond .eq 6, 3) := by decide +kernel
theorem dX1_moveOn_22 : decode cX1_moveOn 22 = .ok (.goto 61, 3) := by decide +kernel
theorem dX1_moveOn_25 : decode cX1_moveOn 25 = .ok (.iload_n 2, 1) := by decide +kernel
theorem dX1_moveOn_26 : decode cX1_moveOn 26 = .ok (.aload_n 0, 1) := by decide +kernel
theorem dX1_moveOn_27 : decode cX1_moveOn 27 = .ok (.getfield 18, 3) := by decide +kernel
theorem dX1_moveOn_30 : decode cX1_moveOn 30 = .ok (.iconst 1, 1) := by decide +kernel
theorem dX1_moveOn_31 : decode cX1_moveOn 31 = .ok (.isub, 1) := by decide +kernel
theorem dX1_moveOn_32 : decode cX1_moveOn 32 = .ok (.if_icmp .ne 16, 3) := by decide +kernel
theorem dX1_moveOn_35 : decode cX1_moveOn 35 = .ok (.aload_n 0, 1) := by decide +kernel
theorem dX1_moveOn_36 : decode cX1_moveOn 36 = .ok (.getfield 15, 3) := by decide +kernel
theorem dX1_moveOn_39 : decode cX1_moveOn 39 = .ok (.iload_n 2, 1) := by decide +kernel
theorem dX1_moveOn_40 : decode cX1_moveOn 40 = .ok (.iconst (-1), 1) := by decide +kernel
theorem dX1_moveOn_41 : decode cX1_moveOn 41 = .ok (.iastore, 1) := by decide +kernel
theorem dX1_moveOn_42 : decode cX1_moveOn 42 = .ok (.iinc 1 1, 3) := by decide +kernel
theorem dX1_moveOn_45 : decode cX1_moveOn 45 = .ok (.goto 38, 3) := by decide +kernel
theorem dX1_moveOn_48 : decode cX1_moveOn 48 = .ok (.aload_n 0, 1) := by decide +kernel
theorem dX1_moveOn_49 : decode cX1_moveOn 49 = .ok (.getfield 15, 3) := by decide +kernel
theorem dX1_moveOn_52 : decode cX1_moveOn 52 = .ok (.iload_n 2, 1) := by decide +kernel
theorem dX1_moveOn_53 : decode cX1_moveOn 53 = .ok (.iconst 1, 1) := by decide +kernel
theorem dX1_moveOn_54 : decode cX1_moveOn 54 = .ok (.iadd, 1) := by decide +kernel
theorem dX1_moveOn_55 : decode cX1_moveOn 55 = .ok (.iaload, 1) := by decide +kernel
theorem dX1_moveOn_56 : decode cX1_moveOn 56 = .ok (.iconst (-1), 1) := by decide +kernel
theorem dX1_moveOn_57 : decode cX1_moveOn 57 = .ok (.if_icmp .ne 26, 3) := by decide +kernel
theorem dX1_moveOn_60 : decode cX1_moveOn 60 = .ok (.aload_n 0, 1) := by decide +kernel
theorem dX1_moveOn_61 : decode cX1_moveOn 61 = .ok (.getfield 15, 3) := by decide +kernel
theorem dX1_moveOn_64 : decode cX1_moveOn 64 = .ok (.iload_n 2, 1) := by decide +kernel
theorem dX1_moveOn_65 : decode cX1_moveOn 65 = .ok (.iconst (-1), 1) := by decide +kernel
theorem dX1_moveOn_66 : decode cX1_moveOn 66 = .ok (.iastore, 1) := by decide +kernel
theorem dX1_moveOn_67 : decode cX1_moveOn 67 = .ok (.aload_n 0, 1) := by decide +kernel
theorem dX1_moveOn_68 : decode cX1_moveOn 68 = .ok (.getfield 15, 3) := by decide +kernel
theorem dX1_moveOn_71 : decode cX1_moveOn 71 = .ok (.iload_n 2, 1) := by decide +kernel
theorem dX1_moveOn_72 : decode cX1_moveOn 72 = .ok (.iconst 1, 1) := by decide +kernel
theorem dX1_moveOn_73 : decode cX1_moveOn 73 = .ok (.iadd, 1) := by decide +kernel
theorem dX1_moveOn_74 : decode cX1_moveOn 74 = .ok (.aload_n 0, 1) := by decide +kernel
theorem dX1_moveOn_75 : decode cX1_moveOn 75 = .ok (.getfield 9, 3) := by decide +kernel
theorem dX1_moveOn_78 : decode cX1_moveOn 78 = .ok (.iload_n 2, 1) := by decide +kernel
theorem dX1_moveOn_79 : decode cX1_moveOn 79 = .ok (.iconst 1, 1) := by decide +kernel
theorem dX1_moveOn_80 : decode cX1_moveOn 80 = .ok (.iadd, 1) := by decide +kernel
theorem dX1_moveOn_81 : decode cX1_moveOn 81 = .ok (.iaload, 1) := by decide +kernel
theorem dX1_moveOn_82 : decode cX1_moveOn 82 = .ok (.iastore, 1) := by decide +kernel
theorem dX1_moveOn_83 : decode cX1_moveOn 83 = .ok (.iinc 2 (-1), 3) := by decide +kernel
theorem dX1_moveOn_86 : decode cX1_moveOn 86 = .ok (.goto (-77), 3) := by decide +kernel
theorem dX1_moveOn_89 : decode cX1_moveOn 89 = .ok (.iload_n 1, 1) := by decide +kernel
theorem dX1_moveOn_90 : decode cX1_moveOn 90 = .ok (.ireturn, 1) := by decide +kernel
theorem dX1_work_0 : decode cX1_work 0 = .ok (.iconst 0, 1) := by decide +kernel
theorem dX1_work_1 : decode cX1_work 1 = .ok (.istore_n 1, 1) := by decide +kernel
theorem dX1_work_2 : decode cX1_work 2 = .ok (.iload_n 1, 1) := by decide +kernel
theorem dX1_work_3 : decode cX1_work 3 = .ok (.aload_n 0, 1) := by decide +kernel
theorem dX1_work_4 : decode cX1_work 4 = .ok (.getfield 18, 3) := by decide +kernel
theorem dX1_work_7 : decode cX1_work 7 = .ok (.if_icmp .ge 28, 3) := by decide +kernel
theorem dX1_work_10 : decode cX1_work 10 = .ok (.aload_n 0, 1) := by decide +kernel
theorem dX1_work_11 : decode cX1_work 11 = .ok (.getfield 15, 3) := by decide +kernel
theorem dX1_work_14 : decode cX1_work 14 = .ok (.iload_n 1, 1) := by decide +kernel
theorem dX1_work_15 : decode cX1_work 15 = .ok (.iaload, 1) := by decide +kernel
theorem dX1_work_16 : decode cX1_work 16 = .ok (.ifCond .le 13, 3) := by decide +kernel
theorem dX1_work_19 : decode cX1_work 19 = .ok (.aload_n 0, 1) := by decide +kernel
theorem dX1_work_20 : decode cX1_work 20 = .ok (.getfield 15, 3) := by decide +kernel
theorem dX1_work_23 : decode cX1_work 23 = .ok (.iload_n 1, 1) := by decide +kernel
theorem dX1_work_24 : decode cX1_work 24 = .ok (.dup2, 1) := by decide +kernel
theorem dX1_work_25 : decode cX1_work 25 = .ok (.iaload, 1) := by decide +kernel
theorem dX1_work_26 : decode cX1_work 26 = .ok (.iconst 1, 1) := by decide +kernel
theorem dX1_work_27 : decode cX1_work 27 = .ok (.isub, 1) := by decide +kernel
theorem dX1_work_28 : decode cX1_work 28 = .ok (.iastore, 1) := by decide +kernel
theorem dX1_work_29 : decode cX1_work 29 = .ok (.iinc 1 1, 3) := by decide +kernel
theorem dX1_work_32 : decode cX1_work 32 = .ok (.goto (-30), 3) := by decide +kernel
theorem dX1_work_35 : decode cX1_work 35 = .ok (.return_, 1) := by decide +kernel
theorem dX2_init_0 : decode cX2_init 0 = .ok (.aload_n 0, 1) := by decide +kernel
theorem dX2_init_1 : decode cX2_init 1 = .ok (.invokespecial 3, 3) := by decide +kernel
theorem dX2_init_4 : decode cX2_init 4 = .ok (.aload_n 0, 1) := by decide +kernel
theorem dX2_init_5 : decode cX2_init 5 = .ok (.bipush 64, 2) := by decide +kernel
theorem dX2_init_7 : decode cX2_init 7 = .ok (.newarray .int, 2) := by decide +kernel
theorem dX2_init_9 : decode cX2_init 9 = .ok (.putfield 9, 3) := by decide +kernel
theorem dX2_init_12 : decode cX2_init 12 = .ok (.aload_n 0, 1) := by decide +kernel
theorem dX2_init_13 : decode cX2_init 13 = .ok (.sipush 256, 3) := by decide +kernel
theorem dX2_init_16 : decode cX2_init 16 = .ok (.newarray .int, 2) := by decide +kernel
theorem dX2_init_18 : decode cX2_init 18 = .ok (.putfield 15, 3) := by decide +kernel
theorem dX2_init_21 : decode cX2_init 21 = .ok (.return_, 1) := by decide +kernel
set_option maxRecDepth 20000 in
theorem ggX2_weigh_X0_misfitsIn : GoodIn wsX2_weigh wsX0_misfitsIn := goodIn_r _ [7, 8, 9, 10, 6, 11, 12, 13, 14, 15, 16, 17, 18, 19, 20, 21, 22, 23, 24, 25, 26, 27, 28, 29, 30, 31, 32, 33, 34, 35, 36, 37, 38, 39, 42, 43, 44, 45, 46, 47, 48, 49, 50, 51, 52, 53] (by decide +kernel) (by decide +kernel)
set_option maxRecDepth 20000 in
theorem gX2_weigh_X0_misfitsIn : GoodIn wsX2_weigh (wsV RX2 24 RX0 yX0_misfitsIn wsX0_misfitsIn) := goodIn_app (goodIn_of _ (by decide +kernel)) ggX2_weigh_X0_misfitsIn
theorem dX2_weigh_0 : decode cX2_weigh 0 = .ok (.iconst 0, 1) := by decide +kernel
theorem dX2_weigh_1 : decode cX2_weigh 1 = .ok (.istore_n 3, 1) := by decide +kernel
theorem dX2_weigh_2 : decode cX2_weigh 2 = .ok (.iload_n 3, 1) := by decide +kernel
theorem dX2_weigh_3 : decode cX2_weigh 3 = .ok (.aload_n 1, 1) := by decide +kernel
theorem dX2_weigh_4 : decode cX2_weigh 4 = .ok (.getfield 18, 3) := by decide +kernel
theorem dX2_weigh_7 : decode cX2_weigh 7 = .ok (.if_icmp .ge 45, 3) := by decide +kernel
theorem dX2_weigh_10 : decode cX2_weigh 10 = .ok (.iconst 0, 1) := by decide +kernel
theorem dX2_weigh_11 : decode cX2_weigh 11 = .ok (.istore 4, 2) := by decide +kernel
theorem dX2_weigh_13 : decode cX2_weigh 13 = .ok (.iload 4, 2) := by decide +kernel
theorem dX2_weigh_15 : decode cX2_weigh 15 = .ok (.bipush 8, 2) := by decide +kernel
theorem dX2_weigh_17 : decode cX2_weigh 17 = .ok (.if_icmp .ge 29, 3) := by decide +kernel
theorem dX2_weigh_20 : decode cX2_weigh 20 = .ok (.aload_n 0, 1) := by decide +kernel
theorem dX2_weigh_21 : decode cX2_weigh 21 = .ok (.getfield 9, 3) := by decide +kernel
theorem dX2_weigh_24 : decode cX2_weigh 24 = .ok (.iload_n 3, 1) := by decide +kernel
theorem dX2_weigh_25 : decode cX2_weigh 25 = .ok (.bipush 8, 2) := by decide +kernel
theorem dX2_weigh_27 : decode cX2_weigh 27 = .ok (.imul, 1) := by decide +kernel
theorem dX2_weigh_28 : decode cX2_weigh 28 = .ok (.iload 4, 2) := by decide +kernel
theorem dX2_weigh_30 : decode cX2_weigh 30 = .ok (.iadd, 1) := by decide +kernel
theorem dX2_weigh_31 : decode cX2_weigh 31 = .ok (.aload_n 1, 1) := by decide +kernel
theorem dX2_weigh_32 : decode cX2_weigh 32 = .ok (.aload_n 2, 1) := by decide +kernel
theorem dX2_weigh_33 : decode cX2_weigh 33 = .ok (.iload_n 3, 1) := by decide +kernel
theorem dX2_weigh_34 : decode cX2_weigh 34 = .ok (.iload 4, 2) := by decide +kernel
theorem dX2_weigh_36 : decode cX2_weigh 36 = .ok (.invokevirtual 24, 3) := by decide +kernel
theorem dX2_weigh_39 : decode cX2_weigh 39 = .ok (.iastore, 1) := by decide +kernel
theorem dX2_weigh_40 : decode cX2_weigh 40 = .ok (.iinc 4 1, 3) := by decide +kernel
theorem dX2_weigh_43 : decode cX2_weigh 43 = .ok (.goto (-30), 3) := by decide +kernel
theorem dX2_weigh_46 : decode cX2_weigh 46 = .ok (.iinc 3 1, 3) := by decide +kernel
theorem dX2_weigh_49 : decode cX2_weigh 49 = .ok (.goto (-47), 3) := by decide +kernel
theorem dX2_weigh_52 : decode cX2_weigh 52 = .ok (.return_, 1) := by decide +kernel
set_option maxRecDepth 20000 in
theorem ggX2_fewestMisfits_J6_bitCount_0f7a4 : GoodIn wsX2_fewestMisfits wsJ6_bitCount_0f7a4 := goodIn_r _ [5, 6, 7, 8] (by decide +kernel) (by decide +kernel)
set_option maxRecDepth 20000 in
theorem gX2_fewestMisfits_J6_bitCount_0f7a4 : GoodIn wsX2_fewestMisfits (va_wsS RX2 28 yJ6_bitCount_0f7a4 wsJ6_bitCount_0f7a4) := goodIn_app (goodIn_of _ (by decide +kernel)) ggX2_fewestMisfits_J6_bitCount_0f7a4
set_option maxRecDepth 20000 in
theorem ggX2_fewestMisfits_X2_fewestFrom : GoodIn wsX2_fewestMisfits wsX2_fewestFrom := goodIn_r _ [13, 14, 15, 16, 17, 18, 19, 20, 12, 21, 22, 1, 23, 24] (by decide +kernel) (by decide +kernel)
set_option maxRecDepth 20000 in
theorem gX2_fewestMisfits_X2_fewestFrom : GoodIn wsX2_fewestMisfits (wsV RX2 34 RX2 yX2_fewestFrom wsX2_fewestFrom) := goodIn_app (goodIn_of _ (by decide +kernel)) ggX2_fewestMisfits_X2_fewestFrom
theorem dX2_fewestMisfits_0 : decode cX2_fewestMisfits 0 = .ok (.sipush 255, 3) := by decide +kernel
theorem dX2_fewestMisfits_3 : decode cX2_fewestMisfits 3 = .ok (.istore_n 2, 1) := by decide +kernel
theorem dX2_fewestMisfits_4 : decode cX2_fewestMisfits 4 = .ok (.iload_n 2, 1) := by decide +kernel
theorem dX2_fewestMisfits_5 : decode cX2_fewestMisfits 5 = .ok (.ifCond .lt 35, 3) := by decide +kernel
theorem dX2_fewestMisfits_8 : decode cX2_fewestMisfits 8 = .ok (.iload_n 2, 1) := by decide +kernel
theorem dX2_fewestMisfits_9 : decode cX2_fewestMisfits 9 = .ok (.invokestatic 28, 3) := by decide +kernel
theorem dX2_fewestMisfits_12 : decode cX2_fewestMisfits 12 = .ok (.istore_n 3, 1) := by decide +kernel
theorem dX2_fewestMisfits_13 : decode cX2_fewestMisfits 13 = .ok (.aload_n 0, 1) := by decide +kernel
theorem dX2_fewestMisfits_14 : decode cX2_fewestMisfits 14 = .ok (.getfield 15, 3) := by decide +kernel
theorem dX2_fewestMisfits_17 : decode cX2_fewestMisfits 17 = .ok (.iload_n 2, 1) := by decide +kernel
theorem dX2_fewestMisfits_18 : decode cX2_fewestMisfits 18 = .ok (.iload_n 3, 1) := by decide +kernel
theorem dX2_fewestMisfits_19 : decode cX2_fewestMisfits 19 = .ok (.iload_n 1, 1) := by decide +kernel
theorem dX2_fewestMisfits_20 : decode cX2_fewestMisfits 20 = .ok (.if_icmp .ge 12, 3) := by decide +kernel
theorem dX2_fewestMisfits_23 : decode cX2_fewestMisfits 23 = .ok (.aload_n 0, 1) := by decide +kernel
theorem dX2_fewestMisfits_24 : decode cX2_fewestMisfits 24 = .ok (.iload_n 3, 1) := by decide +kernel
theorem dX2_fewestMisfits_25 : decode cX2_fewestMisfits 25 = .ok (.iload_n 2, 1) := by decide +kernel
theorem dX2_fewestMisfits_26 : decode cX2_fewestMisfits 26 = .ok (.invokevirtual 34, 3) := by decide +kernel
theorem dX2_fewestMisfits_29 : decode cX2_fewestMisfits 29 = .ok (.goto 4, 3) := by decide +kernel
theorem dX2_fewestMisfits_32 : decode cX2_fewestMisfits 32 = .ok (.iconst 0, 1) := by decide +kernel
theorem dX2_fewestMisfits_33 : decode cX2_fewestMisfits 33 = .ok (.iastore, 1) := by decide +kernel
theorem dX2_fewestMisfits_34 : decode cX2_fewestMisfits 34 = .ok (.iinc 2 (-1), 3) := by decide +kernel
theorem dX2_fewestMisfits_37 : decode cX2_fewestMisfits 37 = .ok (.goto (-33), 3) := by decide +kernel
theorem dX2_fewestMisfits_40 : decode cX2_fewestMisfits 40 = .ok (.aload_n 0, 1) := by decide +kernel
theorem dX2_fewestMisfits_41 : decode cX2_fewestMisfits 41 = .ok (.getfield 15, 3) := by decide +kernel
theorem dX2_fewestMisfits_44 : decode cX2_fewestMisfits 44 = .ok (.iconst 0, 1) := by decide +kernel
theorem dX2_fewestMisfits_45 : decode cX2_fewestMisfits 45 = .ok (.iaload, 1) := by decide +kernel
theorem dX2_fewestMisfits_46 : decode cX2_fewestMisfits 46 = .ok (.ireturn, 1) := by decide +kernel
set_option maxRecDepth 20000 in
theorem ggX2_fewestFrom_X2_fewestWith : GoodIn wsX2_fewestFrom wsX2_fewestWith := goodIn_r _ [9, 10, 11, 12, 13] (by decide +kernel) (by decide +kernel)
set_option maxRecDepth 20000 in
theorem gX2_fewestFrom_X2_fewestWith : GoodIn wsX2_fewestFrom (wsV RX2 38 RX2 yX2_fewestWith wsX2_fewestWith) := goodIn_app (goodIn_of _ (by decide +kernel)) ggX2_fewestFrom_X2_fewestWith
theorem dX2_fewestFrom_0 : decode cX2_fewestFrom 0 = .ok (.sipush 128, 3) := by decide +kernel
theorem dX2_fewestFrom_3 : decode cX2_fewestFrom 3 = .ok (.istore_n 3, 1) := by decide +kernel
theorem dX2_fewestFrom_4 : decode cX2_fewestFrom 4 = .ok (.iconst 0, 1) := by decide +kernel
theorem dX2_fewestFrom_5 : decode cX2_fewestFrom 5 = .ok (.istore 4, 2) := by decide +kernel
theorem dX2_fewestFrom_7 : decode cX2_fewestFrom 7 = .ok (.iload 4, 2) := by decide +kernel
theorem dX2_fewestFrom_9 : decode cX2_fewestFrom 9 = .ok (.bipush 8, 2) := by decide +kernel
theorem dX2_fewestFrom_11 : decode cX2_fewestFrom 11 = .ok (.if_icmp .ge 31, 3) := by decide +kernel
theorem dX2_fewestFrom_14 : decode cX2_fewestFrom 14 = .ok (.iload_n 2, 1) := by decide +kernel
theorem dX2_fewestFrom_15 : decode cX2_fewestFrom 15 = .ok (.iload 4, 2) := by decide +kernel
theorem dX2_fewestFrom_17 : decode cX2_fewestFrom 17 = .ok (.ishr, 1) := by decide +kernel
theorem dX2_fewestFrom_18 : decode cX2_fewestFrom 18 = .ok (.iconst 1, 1) := by decide +kernel
theorem dX2_fewestFrom_19 : decode cX2_fewestFrom 19 = .ok (.iand, 1) := by decide +kernel
theorem dX2_fewestFrom_20 : decode cX2_fewestFrom 20 = .ok (.ifCond .ne 16, 3) := by decide +kernel
theorem dX2_fewestFrom_23 : decode cX2_fewestFrom 23 = .ok (.iload_n 3, 1) := by decide +kernel
theorem dX2_fewestFrom_24 : decode cX2_fewestFrom 24 = .ok (.aload_n 0, 1) := by decide +kernel
theorem dX2_fewestFrom_25 : decode cX2_fewestFrom 25 = .ok (.iload_n 1, 1) := by decide +kernel
theorem dX2_fewestFrom_26 : decode cX2_fewestFrom 26 = .ok (.iload 4, 2) := by decide +kernel
theorem dX2_fewestFrom_28 : decode cX2_fewestFrom 28 = .ok (.iload_n 2, 1) := by decide +kernel
theorem dX2_fewestFrom_29 : decode cX2_fewestFrom 29 = .ok (.invokevirtual 38, 3) := by decide +kernel
theorem dX2_fewestFrom_32 : decode cX2_fewestFrom 32 = .ok (.invokestatic 42, 3) := by decide +kernel
theorem dX2_fewestFrom_35 : decode cX2_fewestFrom 35 = .ok (.istore_n 3, 1) := by decide +kernel
theorem dX2_fewestFrom_36 : decode cX2_fewestFrom 36 = .ok (.iinc 4 1, 3) := by decide +kernel
theorem dX2_fewestFrom_39 : decode cX2_fewestFrom 39 = .ok (.goto (-32), 3) := by decide +kernel
theorem dX2_fewestFrom_42 : decode cX2_fewestFrom 42 = .ok (.iload_n 3, 1) := by decide +kernel
theorem dX2_fewestFrom_43 : decode cX2_fewestFrom 43 = .ok (.ireturn, 1) := by decide +kernel
theorem dX2_fewestWith_0 : decode cX2_fewestWith 0 = .ok (.aload_n 0, 1) := by decide +kernel
theorem dX2_fewestWith_1 : decode cX2_fewestWith 1 = .ok (.getfield 9, 3) := by decide +kernel
theorem dX2_fewestWith_4 : decode cX2_fewestWith 4 = .ok (.iload_n 1, 1) := by decide +kernel
theorem dX2_fewestWith_5 : decode cX2_fewestWith 5 = .ok (.bipush 8, 2) := by decide +kernel
theorem dX2_fewestWith_7 : decode cX2_fewestWith 7 = .ok (.imul, 1) := by decide +kernel
theorem dX2_fewestWith_8 : decode cX2_fewestWith 8 = .ok (.iload_n 2, 1) := by decide +kernel
theorem dX2_fewestWith_9 : decode cX2_fewestWith 9 = .ok (.iadd, 1) := by decide +kernel
theorem dX2_fewestWith_10 : decode cX2_fewestWith 10 = .ok (.iaload, 1) := by decide +kernel
theorem dX2_fewestWith_11 : decode cX2_fewestWith 11 = .ok (.aload_n 0, 1) := by decide +kernel
theorem dX2_fewestWith_12 : decode cX2_fewestWith 12 = .ok (.getfield 15, 3) := by decide +kernel
theorem dX2_fewestWith_15 : decode cX2_fewestWith 15 = .ok (.iload_n 3, 1) := by decide +kernel
theorem dX2_fewestWith_16 : decode cX2_fewestWith 16 = .ok (.iconst 1, 1) := by decide +kernel
theorem dX2_fewestWith_17 : decode cX2_fewestWith 17 = .ok (.iload_n 2, 1) := by decide +kernel
theorem dX2_fewestWith_18 : decode cX2_fewestWith 18 = .ok (.ishl, 1) := by decide +kernel
theorem dX2_fewestWith_19 : decode cX2_fewestWith 19 = .ok (.ior, 1) := by decide +kernel
theorem dX2_fewestWith_20 : decode cX2_fewestWith 20 = .ok (.iaload, 1) := by decide +kernel
theorem dX2_fewestWith_21 : decode cX2_fewestWith 21 = .ok (.iadd, 1) := by decide +kernel
theorem dX2_fewestWith_22 : decode cX2_fewestWith 22 = .ok (.ireturn, 1) := by decide +kernel
set_option maxRecDepth 20000 in
theorem ggX2_seat_X2_fewestMisfits : GoodIn wsX2_seat wsX2_fewestMisfits := goodIn_r _ [7, 8, 9, 10, 11, 12, 13, 14, 15, 16, 17, 18, 6, 19, 20, 21, 22, 23, 24, 25, 26, 27, 28, 41, 42] (by decide +kernel) (by decide +kernel)
set_option maxRecDepth 20000 in
theorem gX2_seat_X2_fewestMisfits : GoodIn wsX2_seat (wsV RX2 47 RX2 yX2_fewestMisfits wsX2_fewestMisfits) := goodIn_app (goodIn_of _ (by decide +kernel)) ggX2_seat_X2_fewestMisfits
set_option maxRecDepth 20000 in
theorem ggX2_seat_X2_lowestBestRow : GoodIn wsX2_seat wsX2_lowestBestRow := goodIn_r _ [32, 8, 24, 25, 26, 6, 27, 28, 41, 42] (by decide +kernel) (by decide +kernel)
set_option maxRecDepth 20000 in
theorem gX2_seat_X2_lowestBestRow : GoodIn wsX2_seat (wsV RX2 50 RX2 yX2_lowestBestRow wsX2_lowestBestRow) := goodIn_app (goodIn_of _ (by decide +kernel)) ggX2_seat_X2_lowestBestRow
theorem dX2_seat_0 : decode cX2_seat 0 = .ok (.aload_n 0, 1) := by decide +kernel
theorem dX2_seat_1 : decode cX2_seat 1 = .ok (.aload_n 1, 1) := by decide +kernel
theorem dX2_seat_2 : decode cX2_seat 2 = .ok (.getfield 18, 3) := by decide +kernel
theorem dX2_seat_5 : decode cX2_seat 5 = .ok (.invokevirtual 47, 3) := by decide +kernel
theorem dX2_seat_8 : decode cX2_seat 8 = .ok (.pop, 1) := by decide +kernel
theorem dX2_seat_9 : decode cX2_seat 9 = .ok (.iconst 0, 1) := by decide +kernel
theorem dX2_seat_10 : decode cX2_seat 10 = .ok (.istore_n 2, 1) := by decide +kernel
theorem dX2_seat_11 : decode cX2_seat 11 = .ok (.iconst 0, 1) := by decide +kernel
theorem dX2_seat_12 : decode cX2_seat 12 = .ok (.istore_n 3, 1) := by decide +kernel
theorem dX2_seat_13 : decode cX2_seat 13 = .ok (.iload_n 3, 1) := by decide +kernel
theorem dX2_seat_14 : decode cX2_seat 14 = .ok (.aload_n 1, 1) := by decide +kernel
theorem dX2_seat_15 : decode cX2_seat 15 = .ok (.getfield 18, 3) := by decide +kernel
theorem dX2_seat_18 : decode cX2_seat 18 = .ok (.if_icmp .ge 32, 3) := by decide +kernel
theorem dX2_seat_21 : decode cX2_seat 21 = .ok (.aload_n 0, 1) := by decide +kernel
theorem dX2_seat_22 : decode cX2_seat 22 = .ok (.iload_n 3, 1) := by decide +kernel
theorem dX2_seat_23 : decode cX2_seat 23 = .ok (.iload_n 2, 1) := by decide +kernel
theorem dX2_seat_24 : decode cX2_seat 24 = .ok (.invokevirtual 50, 3) := by decide +kernel
theorem dX2_seat_27 : decode cX2_seat 27 = .ok (.istore 4, 2) := by decide +kernel
theorem dX2_seat_29 : decode cX2_seat 29 = .ok (.aload_n 1, 1) := by decide +kernel
theorem dX2_seat_30 : decode cX2_seat 30 = .ok (.getfield 53, 3) := by decide +kernel
theorem dX2_seat_33 : decode cX2_seat 33 = .ok (.iload_n 3, 1) := by decide +kernel
theorem dX2_seat_34 : decode cX2_seat 34 = .ok (.iload 4, 2) := by decide +kernel
theorem dX2_seat_36 : decode cX2_seat 36 = .ok (.iastore, 1) := by decide +kernel
theorem dX2_seat_37 : decode cX2_seat 37 = .ok (.iload_n 2, 1) := by decide +kernel
theorem dX2_seat_38 : decode cX2_seat 38 = .ok (.iconst 1, 1) := by decide +kernel
theorem dX2_seat_39 : decode cX2_seat 39 = .ok (.iload 4, 2) := by decide +kernel
theorem dX2_seat_41 : decode cX2_seat 41 = .ok (.ishl, 1) := by decide +kernel
theorem dX2_seat_42 : decode cX2_seat 42 = .ok (.ior, 1) := by decide +kernel
theorem dX2_seat_43 : decode cX2_seat 43 = .ok (.istore_n 2, 1) := by decide +kernel
theorem dX2_seat_44 : decode cX2_seat 44 = .ok (.iinc 3 1, 3) := by decide +kernel
theorem dX2_seat_47 : decode cX2_seat 47 = .ok (.goto (-34), 3) := by decide +kernel
theorem dX2_seat_50 : decode cX2_seat 50 = .ok (.return_, 1) := by decide +kernel
set_option maxRecDepth 20000 in
theorem ggX2_lowestBestRow_X2_fewestWith : GoodIn wsX2_lowestBestRow wsX2_fewestWith := goodIn_r _ [6, 7, 1, 8, 9] (by decide +kernel) (by decide +kernel)
set_option maxRecDepth 20000 in
theorem gX2_lowestBestRow_X2_fewestWith : GoodIn wsX2_lowestBestRow (wsV RX2 38 RX2 yX2_fewestWith wsX2_fewestWith) := goodIn_app (goodIn_of _ (by decide +kernel)) ggX2_lowestBestRow_X2_fewestWith
theorem dX2_lowestBestRow_0 : decode cX2_lowestBestRow 0 = .ok (.iconst 0, 1) := by decide +kernel
theorem dX2_lowestBestRow_1 : decode cX2_lowestBestRow 1 = .ok (.istore_n 3, 1) := by decide +kernel
theorem dX2_lowestBestRow_2 : decode cX2_lowestBestRow 2 = .ok (.iload_n 3, 1) := by decide +kernel
theorem dX2_lowestBestRow_3 : decode cX2_lowestBestRow 3 = .ok (.bipush 7, 2) := by decide +kernel
theorem dX2_lowestBestRow_5 : decode cX2_lowestBestRow 5 = .ok (.if_icmp .ge 35, 3) := by decide +kernel
theorem dX2_lowestBestRow_8 : decode cX2_lowestBestRow 8 = .ok (.iload_n 2, 1) := by decide +kernel
theorem dX2_lowestBestRow_9 : decode cX2_lowestBestRow 9 = .ok (.iload_n 3, 1) := by decide +kernel
theorem dX2_lowestBestRow_10 : decode cX2_lowestBestRow 10 = .ok (.ishr, 1) := by decide +kernel
theorem dX2_lowestBestRow_11 : decode cX2_lowestBestRow 11 = .ok (.iconst 1, 1) := by decide +kernel
theorem dX2_lowestBestRow_12 : decode cX2_lowestBestRow 12 = .ok (.iand, 1) := by decide +kernel
theorem dX2_lowestBestRow_13 : decode cX2_lowestBestRow 13 = .ok (.ifCond .ne 21, 3) := by decide +kernel
theorem dX2_lowestBestRow_16 : decode cX2_lowestBestRow 16 = .ok (.aload_n 0, 1) := by decide +kernel
theorem dX2_lowestBestRow_17 : decode cX2_lowestBestRow 17 = .ok (.iload_n 1, 1) := by decide +kernel
theorem dX2_lowestBestRow_18 : decode cX2_lowestBestRow 18 = .ok (.iload_n 3, 1) := by decide +kernel
theorem dX2_lowestBestRow_19 : decode cX2_lowestBestRow 19 = .ok (.iload_n 2, 1) := by decide +kernel
theorem dX2_lowestBestRow_20 : decode cX2_lowestBestRow 20 = .ok (.invokevirtual 38, 3) := by decide +kernel
theorem dX2_lowestBestRow_23 : decode cX2_lowestBestRow 23 = .ok (.aload_n 0, 1) := by decide +kernel
theorem dX2_lowestBestRow_24 : decode cX2_lowestBestRow 24 = .ok (.getfield 15, 3) := by decide +kernel
theorem dX2_lowestBestRow_27 : decode cX2_lowestBestRow 27 = .ok (.iload_n 2, 1) := by decide +kernel
theorem dX2_lowestBestRow_28 : decode cX2_lowestBestRow 28 = .ok (.iaload, 1) := by decide +kernel
theorem dX2_lowestBestRow_29 : decode cX2_lowestBestRow 29 = .ok (.if_icmp .ne 5, 3) := by decide +kernel
theorem dX2_lowestBestRow_32 : decode cX2_lowestBestRow 32 = .ok (.iload_n 3, 1) := by decide +kernel
theorem dX2_lowestBestRow_33 : decode cX2_lowestBestRow 33 = .ok (.ireturn, 1) := by decide +kernel
theorem dX2_lowestBestRow_34 : decode cX2_lowestBestRow 34 = .ok (.iinc 3 1, 3) := by decide +kernel
theorem dX2_lowestBestRow_37 : decode cX2_lowestBestRow 37 = .ok (.goto (-35), 3) := by decide +kernel
theorem dX2_lowestBestRow_40 : decode cX2_lowestBestRow 40 = .ok (.bipush 7, 2) := by decide +kernel
theorem dX2_lowestBestRow_42 : decode cX2_lowestBestRow 42 = .ok (.ireturn, 1) := by decide +kernel
set_option maxRecDepth 20000 in
theorem ggX2_fewestOfAllWays_X2_misfitsOfWay : GoodIn wsX2_fewestOfAllWays wsX2_misfitsOfWay := goodIn_r _ [9, 10, 11, 12] (by decide +kernel) (by decide +kernel)
set_option maxRecDepth 20000 in
theorem gX2_fewestOfAllWays_X2_misfitsOfWay : GoodIn wsX2_fewestOfAllWays (wsV RX2 56 RX2 yX2_misfitsOfWay wsX2_misfitsOfWay) := goodIn_app (goodIn_of _ (by decide +kernel)) ggX2_fewestOfAllWays_X2_misfitsOfWay
theorem dX2_fewestOfAllWays_0 : decode cX2_fewestOfAllWays 0 = .ok (.sipush 128, 3) := by decide +kernel
theorem dX2_fewestOfAllWays_3 : decode cX2_fewestOfAllWays 3 = .ok (.istore_n 2, 1) := by decide +kernel
theorem dX2_fewestOfAllWays_4 : decode cX2_fewestOfAllWays 4 = .ok (.iconst 1, 1) := by decide +kernel
theorem dX2_fewestOfAllWays_5 : decode cX2_fewestOfAllWays 5 = .ok (.iconst 3, 1) := by decide +kernel
theorem dX2_fewestOfAllWays_6 : decode cX2_fewestOfAllWays 6 = .ok (.iload_n 1, 1) := by decide +kernel
theorem dX2_fewestOfAllWays_7 : decode cX2_fewestOfAllWays 7 = .ok (.imul, 1) := by decide +kernel
theorem dX2_fewestOfAllWays_8 : decode cX2_fewestOfAllWays 8 = .ok (.ishl, 1) := by decide +kernel
theorem dX2_fewestOfAllWays_9 : decode cX2_fewestOfAllWays 9 = .ok (.istore_n 3, 1) := by decide +kernel
theorem dX2_fewestOfAllWays_10 : decode cX2_fewestOfAllWays 10 = .ok (.iconst 0, 1) := by decide +kernel
theorem dX2_fewestOfAllWays_11 : decode cX2_fewestOfAllWays 11 = .ok (.istore 4, 2) := by decide +kernel
theorem dX2_fewestOfAllWays_13 : decode cX2_fewestOfAllWays 13 = .ok (.iload 4, 2) := by decide +kernel
theorem dX2_fewestOfAllWays_15 : decode cX2_fewestOfAllWays 15 = .ok (.iload_n 3, 1) := by decide +kernel
theorem dX2_fewestOfAllWays_16 : decode cX2_fewestOfAllWays 16 = .ok (.if_icmp .ge 21, 3) := by decide +kernel
theorem dX2_fewestOfAllWays_19 : decode cX2_fewestOfAllWays 19 = .ok (.iload_n 2, 1) := by decide +kernel
theorem dX2_fewestOfAllWays_20 : decode cX2_fewestOfAllWays 20 = .ok (.aload_n 0, 1) := by decide +kernel
theorem dX2_fewestOfAllWays_21 : decode cX2_fewestOfAllWays 21 = .ok (.iload 4, 2) := by decide +kernel
theorem dX2_fewestOfAllWays_23 : decode cX2_fewestOfAllWays 23 = .ok (.iload_n 1, 1) := by decide +kernel
theorem dX2_fewestOfAllWays_24 : decode cX2_fewestOfAllWays 24 = .ok (.invokevirtual 56, 3) := by decide +kernel
theorem dX2_fewestOfAllWays_27 : decode cX2_fewestOfAllWays 27 = .ok (.invokestatic 42, 3) := by decide +kernel
theorem dX2_fewestOfAllWays_30 : decode cX2_fewestOfAllWays 30 = .ok (.istore_n 2, 1) := by decide +kernel
theorem dX2_fewestOfAllWays_31 : decode cX2_fewestOfAllWays 31 = .ok (.iinc 4 1, 3) := by decide +kernel
theorem dX2_fewestOfAllWays_34 : decode cX2_fewestOfAllWays 34 = .ok (.goto (-21), 3) := by decide +kernel
theorem dX2_fewestOfAllWays_37 : decode cX2_fewestOfAllWays 37 = .ok (.iload_n 2, 1) := by decide +kernel
theorem dX2_fewestOfAllWays_38 : decode cX2_fewestOfAllWays 38 = .ok (.ireturn, 1) := by decide +kernel
theorem dX2_misfitsOfWay_0 : decode cX2_misfitsOfWay 0 = .ok (.iconst 0, 1) := by decide +kernel
theorem dX2_misfitsOfWay_1 : decode cX2_misfitsOfWay 1 = .ok (.istore_n 3, 1) := by decide +kernel
theorem dX2_misfitsOfWay_2 : decode cX2_misfitsOfWay 2 = .ok (.iconst 0, 1) := by decide +kernel
theorem dX2_misfitsOfWay_3 : decode cX2_misfitsOfWay 3 = .ok (.istore 4, 2) := by decide +kernel
theorem dX2_misfitsOfWay_5 : decode cX2_misfitsOfWay 5 = .ok (.iconst 0, 1) := by decide +kernel
theorem dX2_misfitsOfWay_6 : decode cX2_misfitsOfWay 6 = .ok (.istore 5, 2) := by decide +kernel
theorem dX2_misfitsOfWay_8 : decode cX2_misfitsOfWay 8 = .ok (.iload 5, 2) := by decide +kernel
theorem dX2_misfitsOfWay_10 : decode cX2_misfitsOfWay 10 = .ok (.iload_n 2, 1) := by decide +kernel
theorem dX2_misfitsOfWay_11 : decode cX2_misfitsOfWay 11 = .ok (.if_icmp .ge 60, 3) := by decide +kernel
theorem dX2_misfitsOfWay_14 : decode cX2_misfitsOfWay 14 = .ok (.iload_n 1, 1) := by decide +kernel
theorem dX2_misfitsOfWay_15 : decode cX2_misfitsOfWay 15 = .ok (.iconst 3, 1) := by decide +kernel
theorem dX2_misfitsOfWay_16 : decode cX2_misfitsOfWay 16 = .ok (.iload 5, 2) := by decide +kernel
theorem dX2_misfitsOfWay_18 : decode cX2_misfitsOfWay 18 = .ok (.imul, 1) := by decide +kernel
theorem dX2_misfitsOfWay_19 : decode cX2_misfitsOfWay 19 = .ok (.ishr, 1) := by decide +kernel
theorem dX2_misfitsOfWay_20 : decode cX2_misfitsOfWay 20 = .ok (.bipush 7, 2) := by decide +kernel
theorem dX2_misfitsOfWay_22 : decode cX2_misfitsOfWay 22 = .ok (.iand, 1) := by decide +kernel
theorem dX2_misfitsOfWay_23 : decode cX2_misfitsOfWay 23 = .ok (.istore 6, 2) := by decide +kernel
theorem dX2_misfitsOfWay_25 : decode cX2_misfitsOfWay 25 = .ok (.iload 4, 2) := by decide +kernel
theorem dX2_misfitsOfWay_27 : decode cX2_misfitsOfWay 27 = .ok (.iload 6, 2) := by decide +kernel
theorem dX2_misfitsOfWay_29 : decode cX2_misfitsOfWay 29 = .ok (.ishr, 1) := by decide +kernel
theorem dX2_misfitsOfWay_30 : decode cX2_misfitsOfWay 30 = .ok (.iconst 1, 1) := by decide +kernel
theorem dX2_misfitsOfWay_31 : decode cX2_misfitsOfWay 31 = .ok (.iand, 1) := by decide +kernel
theorem dX2_misfitsOfWay_32 : decode cX2_misfitsOfWay 32 = .ok (.iconst 1, 1) := by decide +kernel
theorem dX2_misfitsOfWay_33 : decode cX2_misfitsOfWay 33 = .ok (.if_icmp .ne 7, 3) := by decide +kernel
theorem dX2_misfitsOfWay_36 : decode cX2_misfitsOfWay 36 = .ok (.sipush 128, 3) := by decide +kernel
theorem dX2_misfitsOfWay_39 : decode cX2_misfitsOfWay 39 = .ok (.ireturn, 1) := by decide +kernel
theorem dX2_misfitsOfWay_40 : decode cX2_misfitsOfWay 40 = .ok (.iload 4, 2) := by decide +kernel
theorem dX2_misfitsOfWay_42 : decode cX2_misfitsOfWay 42 = .ok (.iconst 1, 1) := by decide +kernel
theorem dX2_misfitsOfWay_43 : decode cX2_misfitsOfWay 43 = .ok (.iload 6, 2) := by decide +kernel
theorem dX2_misfitsOfWay_45 : decode cX2_misfitsOfWay 45 = .ok (.ishl, 1) := by decide +kernel
theorem dX2_misfitsOfWay_46 : decode cX2_misfitsOfWay 46 = .ok (.ior, 1) := by decide +kernel
theorem dX2_misfitsOfWay_47 : decode cX2_misfitsOfWay 47 = .ok (.istore 4, 2) := by decide +kernel
theorem dX2_misfitsOfWay_49 : decode cX2_misfitsOfWay 49 = .ok (.iload_n 3, 1) := by decide +kernel
theorem dX2_misfitsOfWay_50 : decode cX2_misfitsOfWay 50 = .ok (.aload_n 0, 1) := by decide +kernel
theorem dX2_misfitsOfWay_51 : decode cX2_misfitsOfWay 51 = .ok (.getfield 9, 3) := by decide +kernel
theorem dX2_misfitsOfWay_54 : decode cX2_misfitsOfWay 54 = .ok (.iload 5, 2) := by decide +kernel
theorem dX2_misfitsOfWay_56 : decode cX2_misfitsOfWay 56 = .ok (.bipush 8, 2) := by decide +kernel
theorem dX2_misfitsOfWay_58 : decode cX2_misfitsOfWay 58 = .ok (.imul, 1) := by decide +kernel
theorem dX2_misfitsOfWay_59 : decode cX2_misfitsOfWay 59 = .ok (.iload 6, 2) := by decide +kernel
theorem dX2_misfitsOfWay_61 : decode cX2_misfitsOfWay 61 = .ok (.iadd, 1) := by decide +kernel
theorem dX2_misfitsOfWay_62 : decode cX2_misfitsOfWay 62 = .ok (.iaload, 1) := by decide +kernel
theorem dX2_misfitsOfWay_63 : decode cX2_misfitsOfWay 63 = .ok (.iadd, 1) := by decide +kernel
theorem dX2_misfitsOfWay_64 : decode cX2_misfitsOfWay 64 = .ok (.istore_n 3, 1) := by decide +kernel
theorem dX2_misfitsOfWay_65 : decode cX2_misfitsOfWay 65 = .ok (.iinc 5 1, 3) := by decide +kernel
theorem dX2_misfitsOfWay_68 : decode cX2_misfitsOfWay 68 = .ok (.goto (-60), 3) := by decide +kernel
theorem dX2_misfitsOfWay_71 : decode cX2_misfitsOfWay 71 = .ok (.iload_n 3, 1) := by decide +kernel
theorem dX2_misfitsOfWay_72 : decode cX2_misfitsOfWay 72 = .ok (.ireturn, 1) := by decide +kernel
theorem dX3_init_0 : decode cX3_init 0 = .ok (.aload_n 0, 1) := by decide +kernel
theorem dX3_init_1 : decode cX3_init 1 = .ok (.invokespecial 1, 3) := by decide +kernel
theorem dX3_init_4 : decode cX3_init 4 = .ok (.aload_n 0, 1) := by decide +kernel
theorem dX3_init_5 : decode cX3_init 5 = .ok (.iconst 0, 1) := by decide +kernel
theorem dX3_init_6 : decode cX3_init 6 = .ok (.putfield 7, 3) := by decide +kernel
theorem dX3_init_9 : decode cX3_init 9 = .ok (.aload_n 0, 1) := by decide +kernel
theorem dX3_init_10 : decode cX3_init 10 = .ok (.iconst 0, 1) := by decide +kernel
theorem dX3_init_11 : decode cX3_init 11 = .ok (.putfield 13, 3) := by decide +kernel
theorem dX3_init_14 : decode cX3_init 14 = .ok (.aload_n 0, 1) := by decide +kernel
theorem dX3_init_15 : decode cX3_init 15 = .ok (.sipush 1000, 3) := by decide +kernel
theorem dX3_init_18 : decode cX3_init 18 = .ok (.putfield 16, 3) := by decide +kernel
theorem dX3_init_21 : decode cX3_init 21 = .ok (.return_, 1) := by decide +kernel
theorem dX4_init_0 : decode cX4_init 0 = .ok (.aload_n 0, 1) := by decide +kernel
theorem dX4_init_1 : decode cX4_init 1 = .ok (.invokespecial 3, 3) := by decide +kernel
theorem dX4_init_4 : decode cX4_init 4 = .ok (.aload_n 0, 1) := by decide +kernel
theorem dX4_init_5 : decode cX4_init 5 = .ok (.sipush 128, 3) := by decide +kernel
theorem dX4_init_8 : decode cX4_init 8 = .ok (.newarray .int, 2) := by decide +kernel
theorem dX4_init_10 : decode cX4_init 10 = .ok (.putfield 9, 3) := by decide +kernel
theorem dX4_init_13 : decode cX4_init 13 = .ok (.aload_n 0, 1) := by decide +kernel
theorem dX4_init_14 : decode cX4_init 14 = .ok (.sipush 128, 3) := by decide +kernel
theorem dX4_init_17 : decode cX4_init 17 = .ok (.newarray .int, 2) := by decide +kernel
theorem dX4_init_19 : decode cX4_init 19 = .ok (.putfield 15, 3) := by decide +kernel
theorem dX4_init_22 : decode cX4_init 22 = .ok (.aload_n 0, 1) := by decide +kernel
theorem dX4_init_23 : decode cX4_init 23 = .ok (.sipush 128, 3) := by decide +kernel
theorem dX4_init_26 : decode cX4_init 26 = .ok (.newarray .int, 2) := by decide +kernel
theorem dX4_init_28 : decode cX4_init 28 = .ok (.putfield 18, 3) := by decide +kernel
theorem dX4_init_31 : decode cX4_init 31 = .ok (.aload_n 0, 1) := by decide +kernel
theorem dX4_init_32 : decode cX4_init 32 = .ok (.sipush 128, 3) := by decide +kernel
theorem dX4_init_35 : decode cX4_init 35 = .ok (.newarray .boolean, 2) := by decide +kernel
theorem dX4_init_37 : decode cX4_init 37 = .ok (.putfield 21, 3) := by decide +kernel
theorem dX4_init_40 : decode cX4_init 40 = .ok (.aload_n 0, 1) := by decide +kernel
theorem dX4_init_41 : decode cX4_init 41 = .ok (.sipush 128, 3) := by decide +kernel
theorem dX4_init_44 : decode cX4_init 44 = .ok (.newarray .boolean, 2) := by decide +kernel
theorem dX4_init_46 : decode cX4_init 46 = .ok (.putfield 25, 3) := by decide +kernel
theorem dX4_init_49 : decode cX4_init 49 = .ok (.aload_n 0, 1) := by decide +kernel
theorem dX4_init_50 : decode cX4_init 50 = .ok (.bipush 16, 2) := by decide +kernel
theorem dX4_init_52 : decode cX4_init 52 = .ok (.newarray .int, 2) := by decide +kernel
theorem dX4_init_54 : decode cX4_init 54 = .ok (.putfield 28, 3) := by decide +kernel
theorem dX4_init_57 : decode cX4_init 57 = .ok (.aload_n 0, 1) := by decide +kernel
theorem dX4_init_58 : decode cX4_init 58 = .ok (.iconst 1, 1) := by decide +kernel
theorem dX4_init_59 : decode cX4_init 59 = .ok (.putfield 31, 3) := by decide +kernel
theorem dX4_init_62 : decode cX4_init 62 = .ok (.aload_n 0, 1) := by decide +kernel
theorem dX4_init_63 : decode cX4_init 63 = .ok (.bipush 127, 2) := by decide +kernel
theorem dX4_init_65 : decode cX4_init 65 = .ok (.putfield 35, 3) := by decide +kernel
theorem dX4_init_68 : decode cX4_init 68 = .ok (.aload_n 0, 1) := by decide +kernel
theorem dX4_init_69 : decode cX4_init 69 = .ok (.iconst 0, 1) := by decide +kernel
theorem dX4_init_70 : decode cX4_init 70 = .ok (.putfield 38, 3) := by decide +kernel
theorem dX4_init_73 : decode cX4_init 73 = .ok (.aload_n 0, 1) := by decide +kernel
theorem dX4_init_74 : decode cX4_init 74 = .ok (.iconst 4, 1) := by decide +kernel
theorem dX4_init_75 : decode cX4_init 75 = .ok (.putfield 42, 3) := by decide +kernel
theorem dX4_init_78 : decode cX4_init 78 = .ok (.aload_n 0, 1) := by decide +kernel
theorem dX4_init_79 : decode cX4_init 79 = .ok (.iconst 0, 1) := by decide +kernel
theorem dX4_init_80 : decode cX4_init 80 = .ok (.putfield 45, 3) := by decide +kernel
theorem dX4_init_83 : decode cX4_init 83 = .ok (.aload_n 0, 1) := by decide +kernel
theorem dX4_init_84 : decode cX4_init 84 = .ok (.iload_n 1, 1) := by decide +kernel
theorem dX4_init_85 : decode cX4_init 85 = .ok (.putfield 48, 3) := by decide +kernel
theorem dX4_init_88 : decode cX4_init 88 = .ok (.return_, 1) := by decide +kernel
set_option maxRecDepth 20000 in
theorem ggX4_conducted_X5_indexOf : GoodIn wsX4_conducted wsX5_indexOf := goodIn_r _ [12] (by decide +kernel) (by decide +kernel)
set_option maxRecDepth 20000 in
theorem gX4_conducted_X5_indexOf_n51 : GoodIn wsX4_conducted (wsX5_indexOf) := ggX4_conducted_X5_indexOf
set_option maxRecDepth 20000 in
theorem ggX4_conducted_X5_quotient : GoodIn wsX4_conducted wsX5_quotient := goodIn_r _ [14] (by decide +kernel) (by decide +kernel)
set_option maxRecDepth 20000 in
theorem gX4_conducted_X5_quotient_n63 : GoodIn wsX4_conducted (wsX5_quotient) := ggX4_conducted_X5_quotient
theorem dX4_conducted_0 : decode cX4_conducted 0 = .ok (.iload_n 1, 1) := by decide +kernel
theorem dX4_conducted_1 : decode cX4_conducted 1 = .ok (.iload_n 2, 1) := by decide +kernel
theorem dX4_conducted_2 : decode cX4_conducted 2 = .ok (.invokestatic 51, 3) := by decide +kernel
theorem dX4_conducted_5 : decode cX4_conducted 5 = .ok (.istore 4, 2) := by decide +kernel
theorem dX4_conducted_7 : decode cX4_conducted 7 = .ok (.aload_n 3, 1) := by decide +kernel
theorem dX4_conducted_8 : decode cX4_conducted 8 = .ok (.getfield 55, 3) := by decide +kernel
theorem dX4_conducted_11 : decode cX4_conducted 11 = .ok (.ifCond .eq 13, 3) := by decide +kernel
theorem dX4_conducted_14 : decode cX4_conducted 14 = .ok (.aload_n 0, 1) := by decide +kernel
theorem dX4_conducted_15 : decode cX4_conducted 15 = .ok (.getfield 21, 3) := by decide +kernel
theorem dX4_conducted_18 : decode cX4_conducted 18 = .ok (.iload 4, 2) := by decide +kernel
theorem dX4_conducted_20 : decode cX4_conducted 20 = .ok (.baload, 1) := by decide +kernel
theorem dX4_conducted_21 : decode cX4_conducted 21 = .ok (.ifCond .eq 11, 3) := by decide +kernel
theorem dX4_conducted_24 : decode cX4_conducted 24 = .ok (.aload_n 0, 1) := by decide +kernel
theorem dX4_conducted_25 : decode cX4_conducted 25 = .ok (.getfield 9, 3) := by decide +kernel
theorem dX4_conducted_28 : decode cX4_conducted 28 = .ok (.iload 4, 2) := by decide +kernel
theorem dX4_conducted_30 : decode cX4_conducted 30 = .ok (.iaload, 1) := by decide +kernel
theorem dX4_conducted_31 : decode cX4_conducted 31 = .ok (.ireturn, 1) := by decide +kernel
theorem dX4_conducted_32 : decode cX4_conducted 32 = .ok (.aload_n 3, 1) := by decide +kernel
theorem dX4_conducted_33 : decode cX4_conducted 33 = .ok (.getfield 60, 3) := by decide +kernel
theorem dX4_conducted_36 : decode cX4_conducted 36 = .ok (.aload_n 0, 1) := by decide +kernel
theorem dX4_conducted_37 : decode cX4_conducted 37 = .ok (.getfield 18, 3) := by decide +kernel
theorem dX4_conducted_40 : decode cX4_conducted 40 = .ok (.iload 4, 2) := by decide +kernel
theorem dX4_conducted_42 : decode cX4_conducted 42 = .ok (.iaload, 1) := by decide +kernel
theorem dX4_conducted_43 : decode cX4_conducted 43 = .ok (.isub, 1) := by decide +kernel
theorem dX4_conducted_44 : decode cX4_conducted 44 = .ok (.aload_n 3, 1) := by decide +kernel
theorem dX4_conducted_45 : decode cX4_conducted 45 = .ok (.getfield 55, 3) := by decide +kernel
theorem dX4_conducted_48 : decode cX4_conducted 48 = .ok (.invokestatic 63, 3) := by decide +kernel
theorem dX4_conducted_51 : decode cX4_conducted 51 = .ok (.istore 5, 2) := by decide +kernel
theorem dX4_conducted_53 : decode cX4_conducted 53 = .ok (.iconst 0, 1) := by decide +kernel
theorem dX4_conducted_54 : decode cX4_conducted 54 = .ok (.aload_n 0, 1) := by decide +kernel
theorem dX4_conducted_55 : decode cX4_conducted 55 = .ok (.getfield 9, 3) := by decide +kernel
theorem dX4_conducted_58 : decode cX4_conducted 58 = .ok (.iload 4, 2) := by decide +kernel
theorem dX4_conducted_60 : decode cX4_conducted 60 = .ok (.iaload, 1) := by decide +kernel
theorem dX4_conducted_61 : decode cX4_conducted 61 = .ok (.iload 5, 2) := by decide +kernel
theorem dX4_conducted_63 : decode cX4_conducted 63 = .ok (.isub, 1) := by decide +kernel
theorem dX4_conducted_64 : decode cX4_conducted 64 = .ok (.invokestatic 66, 3) := by decide +kernel
theorem dX4_conducted_67 : decode cX4_conducted 67 = .ok (.ireturn, 1) := by decide +kernel
set_option maxRecDepth 20000 in
theorem ggX4_becomesStuck_X5_indexOf : GoodIn wsX4_becomesStuck wsX5_indexOf := goodIn_r _ [5] (by decide +kernel) (by decide +kernel)
set_option maxRecDepth 20000 in
theorem gX4_becomesStuck_X5_indexOf_n51 : GoodIn wsX4_becomesStuck (wsX5_indexOf) := ggX4_becomesStuck_X5_indexOf
theorem dX4_becomesStuck_0 : decode cX4_becomesStuck 0 = .ok (.iload_n 1, 1) := by decide +kernel
theorem dX4_becomesStuck_1 : decode cX4_becomesStuck 1 = .ok (.iload_n 2, 1) := by decide +kernel
theorem dX4_becomesStuck_2 : decode cX4_becomesStuck 2 = .ok (.invokestatic 51, 3) := by decide +kernel
theorem dX4_becomesStuck_5 : decode cX4_becomesStuck 5 = .ok (.istore 4, 2) := by decide +kernel
theorem dX4_becomesStuck_7 : decode cX4_becomesStuck 7 = .ok (.aload_n 0, 1) := by decide +kernel
theorem dX4_becomesStuck_8 : decode cX4_becomesStuck 8 = .ok (.getfield 21, 3) := by decide +kernel
theorem dX4_becomesStuck_11 : decode cX4_becomesStuck 11 = .ok (.iload 4, 2) := by decide +kernel
theorem dX4_becomesStuck_13 : decode cX4_becomesStuck 13 = .ok (.baload, 1) := by decide +kernel
theorem dX4_becomesStuck_14 : decode cX4_becomesStuck 14 = .ok (.ifCond .eq 5, 3) := by decide +kernel
theorem dX4_becomesStuck_17 : decode cX4_becomesStuck 17 = .ok (.iconst 0, 1) := by decide +kernel
theorem dX4_becomesStuck_18 : decode cX4_becomesStuck 18 = .ok (.ireturn, 1) := by decide +kernel
theorem dX4_becomesStuck_19 : decode cX4_becomesStuck 19 = .ok (.aload_n 0, 1) := by decide +kernel
theorem dX4_becomesStuck_20 : decode cX4_becomesStuck 20 = .ok (.getfield 21, 3) := by decide +kernel
theorem dX4_becomesStuck_23 : decode cX4_becomesStuck 23 = .ok (.iload 4, 2) := by decide +kernel
theorem dX4_becomesStuck_25 : decode cX4_becomesStuck 25 = .ok (.iconst 1, 1) := by decide +kernel
theorem dX4_becomesStuck_26 : decode cX4_becomesStuck 26 = .ok (.bastore, 1) := by decide +kernel
theorem dX4_becomesStuck_27 : decode cX4_becomesStuck 27 = .ok (.aload_n 0, 1) := by decide +kernel
theorem dX4_becomesStuck_28 : decode cX4_becomesStuck 28 = .ok (.getfield 9, 3) := by decide +kernel
theorem dX4_becomesStuck_31 : decode cX4_becomesStuck 31 = .ok (.iload 4, 2) := by decide +kernel
theorem dX4_becomesStuck_33 : decode cX4_becomesStuck 33 = .ok (.iload_n 3, 1) := by decide +kernel
theorem dX4_becomesStuck_34 : decode cX4_becomesStuck 34 = .ok (.iastore, 1) := by decide +kernel
theorem dX4_becomesStuck_35 : decode cX4_becomesStuck 35 = .ok (.iconst 1, 1) := by decide +kernel
theorem dX4_becomesStuck_36 : decode cX4_becomesStuck 36 = .ok (.ireturn, 1) := by decide +kernel
set_option maxRecDepth 20000 in
theorem ggX4_failsToWrite_X5_indexOf : GoodIn wsX4_failsToWrite wsX5_indexOf := goodIn_r _ [9] (by decide +kernel) (by decide +kernel)
set_option maxRecDepth 20000 in
theorem gX4_failsToWrite_X5_indexOf_n51 : GoodIn wsX4_failsToWrite (wsX5_indexOf) := ggX4_failsToWrite_X5_indexOf
set_option maxRecDepth 20000 in
theorem ggX4_failsToWrite_X4_conducted : GoodIn wsX4_failsToWrite wsX4_conducted := goodIn_r _ [14, 15, 1, 2, 4, 3, 16, 17, 18, 19, 7, 8, 9, 20, 21, 39, 40, 41, 27, 28, 29, 30, 31, 32, 33, 34, 35, 36, 37, 38] (by decide +kernel) (by decide +kernel)
set_option maxRecDepth 20000 in
theorem gX4_failsToWrite_X4_conducted : GoodIn wsX4_failsToWrite (wsV RX4 71 RX4 yX4_conducted wsX4_conducted) := goodIn_app (goodIn_of _ (by decide +kernel)) ggX4_failsToWrite_X4_conducted
set_option maxRecDepth 20000 in
theorem ggX4_failsToWrite_X4_givePulse : GoodIn wsX4_failsToWrite wsX4_givePulse := goodIn_r _ [25, 26, 1, 2, 16, 17, 18, 19, 27, 28, 29, 30, 31, 32, 33, 34, 35, 36, 37, 38] (by decide +kernel) (by decide +kernel)
set_option maxRecDepth 20000 in
theorem gX4_failsToWrite_X4_givePulse : GoodIn wsX4_failsToWrite (wsV RX4 78 RX4 yX4_givePulse wsX4_givePulse) := goodIn_app (goodIn_of _ (by decide +kernel)) ggX4_failsToWrite_X4_givePulse
theorem dX4_failsToWrite_0 : decode cX4_failsToWrite 0 = .ok (.iload_n 1, 1) := by decide +kernel
theorem dX4_failsToWrite_1 : decode cX4_failsToWrite 1 = .ok (.iload_n 2, 1) := by decide +kernel
theorem dX4_failsToWrite_2 : decode cX4_failsToWrite 2 = .ok (.invokestatic 51, 3) := by decide +kernel
theorem dX4_failsToWrite_5 : decode cX4_failsToWrite 5 = .ok (.istore 5, 2) := by decide +kernel
theorem dX4_failsToWrite_7 : decode cX4_failsToWrite 7 = .ok (.aload_n 0, 1) := by decide +kernel
theorem dX4_failsToWrite_8 : decode cX4_failsToWrite 8 = .ok (.getfield 21, 3) := by decide +kernel
theorem dX4_failsToWrite_11 : decode cX4_failsToWrite 11 = .ok (.iload 5, 2) := by decide +kernel
theorem dX4_failsToWrite_13 : decode cX4_failsToWrite 13 = .ok (.baload, 1) := by decide +kernel
theorem dX4_failsToWrite_14 : decode cX4_failsToWrite 14 = .ok (.ifCond .ne 30, 3) := by decide +kernel
theorem dX4_failsToWrite_17 : decode cX4_failsToWrite 17 = .ok (.aload_n 0, 1) := by decide +kernel
theorem dX4_failsToWrite_18 : decode cX4_failsToWrite 18 = .ok (.getfield 9, 3) := by decide +kernel
theorem dX4_failsToWrite_21 : decode cX4_failsToWrite 21 = .ok (.iload 5, 2) := by decide +kernel
theorem dX4_failsToWrite_23 : decode cX4_failsToWrite 23 = .ok (.aload_n 0, 1) := by decide +kernel
theorem dX4_failsToWrite_24 : decode cX4_failsToWrite 24 = .ok (.iload_n 1, 1) := by decide +kernel
theorem dX4_failsToWrite_25 : decode cX4_failsToWrite 25 = .ok (.iload_n 2, 1) := by decide +kernel
theorem dX4_failsToWrite_26 : decode cX4_failsToWrite 26 = .ok (.aload 4, 2) := by decide +kernel
theorem dX4_failsToWrite_28 : decode cX4_failsToWrite 28 = .ok (.invokevirtual 71, 3) := by decide +kernel
theorem dX4_failsToWrite_31 : decode cX4_failsToWrite 31 = .ok (.iastore, 1) := by decide +kernel
theorem dX4_failsToWrite_32 : decode cX4_failsToWrite 32 = .ok (.aload_n 0, 1) := by decide +kernel
theorem dX4_failsToWrite_33 : decode cX4_failsToWrite 33 = .ok (.getfield 18, 3) := by decide +kernel
theorem dX4_failsToWrite_36 : decode cX4_failsToWrite 36 = .ok (.iload 5, 2) := by decide +kernel
theorem dX4_failsToWrite_38 : decode cX4_failsToWrite 38 = .ok (.aload 4, 2) := by decide +kernel
theorem dX4_failsToWrite_40 : decode cX4_failsToWrite 40 = .ok (.getfield 60, 3) := by decide +kernel
theorem dX4_failsToWrite_43 : decode cX4_failsToWrite 43 = .ok (.iastore, 1) := by decide +kernel
theorem dX4_failsToWrite_44 : decode cX4_failsToWrite 44 = .ok (.iconst 0, 1) := by decide +kernel
theorem dX4_failsToWrite_45 : decode cX4_failsToWrite 45 = .ok (.istore 6, 2) := by decide +kernel
theorem dX4_failsToWrite_47 : decode cX4_failsToWrite 47 = .ok (.iload 6, 2) := by decide +kernel
theorem dX4_failsToWrite_49 : decode cX4_failsToWrite 49 = .ok (.bipush 16, 2) := by decide +kernel
theorem dX4_failsToWrite_51 : decode cX4_failsToWrite 51 = .ok (.if_icmp .ge 32, 3) := by decide +kernel
theorem dX4_failsToWrite_54 : decode cX4_failsToWrite 54 = .ok (.aload_n 0, 1) := by decide +kernel
theorem dX4_failsToWrite_55 : decode cX4_failsToWrite 55 = .ok (.getfield 9, 3) := by decide +kernel
theorem dX4_failsToWrite_58 : decode cX4_failsToWrite 58 = .ok (.iload 5, 2) := by decide +kernel
theorem dX4_failsToWrite_60 : decode cX4_failsToWrite 60 = .ok (.iaload, 1) := by decide +kernel
theorem dX4_failsToWrite_61 : decode cX4_failsToWrite 61 = .ok (.iload_n 3, 1) := by decide +kernel
theorem dX4_failsToWrite_62 : decode cX4_failsToWrite 62 = .ok (.if_icmp .eq 21, 3) := by decide +kernel
theorem dX4_failsToWrite_65 : decode cX4_failsToWrite 65 = .ok (.aload_n 0, 1) := by decide +kernel
theorem dX4_failsToWrite_66 : decode cX4_failsToWrite 66 = .ok (.iload 5, 2) := by decide +kernel
theorem dX4_failsToWrite_68 : decode cX4_failsToWrite 68 = .ok (.iload_n 3, 1) := by decide +kernel
theorem dX4_failsToWrite_69 : decode cX4_failsToWrite 69 = .ok (.aload 4, 2) := by decide +kernel
theorem dX4_failsToWrite_71 : decode cX4_failsToWrite 71 = .ok (.getfield 75, 3) := by decide +kernel
theorem dX4_failsToWrite_74 : decode cX4_failsToWrite 74 = .ok (.invokevirtual 78, 3) := by decide +kernel
theorem dX4_failsToWrite_77 : decode cX4_failsToWrite 77 = .ok (.iinc 6 1, 3) := by decide +kernel
theorem dX4_failsToWrite_80 : decode cX4_failsToWrite 80 = .ok (.goto (-33), 3) := by decide +kernel
theorem dX4_failsToWrite_83 : decode cX4_failsToWrite 83 = .ok (.aload_n 0, 1) := by decide +kernel
theorem dX4_failsToWrite_84 : decode cX4_failsToWrite 84 = .ok (.getfield 9, 3) := by decide +kernel
theorem dX4_failsToWrite_87 : decode cX4_failsToWrite 87 = .ok (.iload 5, 2) := by decide +kernel
theorem dX4_failsToWrite_89 : decode cX4_failsToWrite 89 = .ok (.iaload, 1) := by decide +kernel
theorem dX4_failsToWrite_90 : decode cX4_failsToWrite 90 = .ok (.iload_n 3, 1) := by decide +kernel
theorem dX4_failsToWrite_91 : decode cX4_failsToWrite 91 = .ok (.if_icmp .ne 5, 3) := by decide +kernel
theorem dX4_failsToWrite_94 : decode cX4_failsToWrite 94 = .ok (.iconst 0, 1) := by decide +kernel
theorem dX4_failsToWrite_95 : decode cX4_failsToWrite 95 = .ok (.ireturn, 1) := by decide +kernel
theorem dX4_failsToWrite_96 : decode cX4_failsToWrite 96 = .ok (.aload_n 0, 1) := by decide +kernel
theorem dX4_failsToWrite_97 : decode cX4_failsToWrite 97 = .ok (.getfield 25, 3) := by decide +kernel
theorem dX4_failsToWrite_100 : decode cX4_failsToWrite 100 = .ok (.iload 5, 2) := by decide +kernel
theorem dX4_failsToWrite_102 : decode cX4_failsToWrite 102 = .ok (.iconst 1, 1) := by decide +kernel
theorem dX4_failsToWrite_103 : decode cX4_failsToWrite 103 = .ok (.bastore, 1) := by decide +kernel
theorem dX4_failsToWrite_104 : decode cX4_failsToWrite 104 = .ok (.iconst 1, 1) := by decide +kernel
theorem dX4_failsToWrite_105 : decode cX4_failsToWrite 105 = .ok (.ireturn, 1) := by decide +kernel
theorem dX4_givePulse_0 : decode cX4_givePulse 0 = .ok (.aload_n 0, 1) := by decide +kernel
theorem dX4_givePulse_1 : decode cX4_givePulse 1 = .ok (.getfield 15, 3) := by decide +kernel
theorem dX4_givePulse_4 : decode cX4_givePulse 4 = .ok (.iload_n 1, 1) := by decide +kernel
theorem dX4_givePulse_5 : decode cX4_givePulse 5 = .ok (.dup2, 1) := by decide +kernel
theorem dX4_givePulse_6 : decode cX4_givePulse 6 = .ok (.iaload, 1) := by decide +kernel
theorem dX4_givePulse_7 : decode cX4_givePulse 7 = .ok (.iconst 1, 1) := by decide +kernel
theorem dX4_givePulse_8 : decode cX4_givePulse 8 = .ok (.iadd, 1) := by decide +kernel
theorem dX4_givePulse_9 : decode cX4_givePulse 9 = .ok (.iastore, 1) := by decide +kernel
theorem dX4_givePulse_10 : decode cX4_givePulse 10 = .ok (.aload_n 0, 1) := by decide +kernel
theorem dX4_givePulse_11 : decode cX4_givePulse 11 = .ok (.getfield 21, 3) := by decide +kernel
theorem dX4_givePulse_14 : decode cX4_givePulse 14 = .ok (.iload_n 1, 1) := by decide +kernel
theorem dX4_givePulse_15 : decode cX4_givePulse 15 = .ok (.baload, 1) := by decide +kernel
theorem dX4_givePulse_16 : decode cX4_givePulse 16 = .ok (.ifCond .eq 4, 3) := by decide +kernel
theorem dX4_givePulse_19 : decode cX4_givePulse 19 = .ok (.return_, 1) := by decide +kernel
theorem dX4_givePulse_20 : decode cX4_givePulse 20 = .ok (.aload_n 0, 1) := by decide +kernel
theorem dX4_givePulse_21 : decode cX4_givePulse 21 = .ok (.getfield 9, 3) := by decide +kernel
theorem dX4_givePulse_24 : decode cX4_givePulse 24 = .ok (.iload_n 1, 1) := by decide +kernel
theorem dX4_givePulse_25 : decode cX4_givePulse 25 = .ok (.aload_n 0, 1) := by decide +kernel
theorem dX4_givePulse_26 : decode cX4_givePulse 26 = .ok (.getfield 9, 3) := by decide +kernel
theorem dX4_givePulse_29 : decode cX4_givePulse 29 = .ok (.iload_n 1, 1) := by decide +kernel
theorem dX4_givePulse_30 : decode cX4_givePulse 30 = .ok (.iaload, 1) := by decide +kernel
theorem dX4_givePulse_31 : decode cX4_givePulse 31 = .ok (.iload_n 2, 1) := by decide +kernel
theorem dX4_givePulse_32 : decode cX4_givePulse 32 = .ok (.if_icmp .ge 14, 3) := by decide +kernel
theorem dX4_givePulse_35 : decode cX4_givePulse 35 = .ok (.aload_n 0, 1) := by decide +kernel
theorem dX4_givePulse_36 : decode cX4_givePulse 36 = .ok (.getfield 9, 3) := by decide +kernel
theorem dX4_givePulse_39 : decode cX4_givePulse 39 = .ok (.iload_n 1, 1) := by decide +kernel
theorem dX4_givePulse_40 : decode cX4_givePulse 40 = .ok (.iaload, 1) := by decide +kernel
theorem dX4_givePulse_41 : decode cX4_givePulse 41 = .ok (.iconst 1, 1) := by decide +kernel
theorem dX4_givePulse_42 : decode cX4_givePulse 42 = .ok (.iadd, 1) := by decide +kernel
theorem dX4_givePulse_43 : decode cX4_givePulse 43 = .ok (.goto 15, 3) := by decide +kernel
theorem dX4_givePulse_46 : decode cX4_givePulse 46 = .ok (.iconst 0, 1) := by decide +kernel
theorem dX4_givePulse_47 : decode cX4_givePulse 47 = .ok (.aload_n 0, 1) := by decide +kernel
theorem dX4_givePulse_48 : decode cX4_givePulse 48 = .ok (.getfield 9, 3) := by decide +kernel
theorem dX4_givePulse_51 : decode cX4_givePulse 51 = .ok (.iload_n 1, 1) := by decide +kernel
theorem dX4_givePulse_52 : decode cX4_givePulse 52 = .ok (.iaload, 1) := by decide +kernel
theorem dX4_givePulse_53 : decode cX4_givePulse 53 = .ok (.iconst 2, 1) := by decide +kernel
theorem dX4_givePulse_54 : decode cX4_givePulse 54 = .ok (.isub, 1) := by decide +kernel
theorem dX4_givePulse_55 : decode cX4_givePulse 55 = .ok (.invokestatic 66, 3) := by decide +kernel
theorem dX4_givePulse_58 : decode cX4_givePulse 58 = .ok (.iastore, 1) := by decide +kernel
theorem dX4_givePulse_59 : decode cX4_givePulse 59 = .ok (.aload_n 0, 1) := by decide +kernel
theorem dX4_givePulse_60 : decode cX4_givePulse 60 = .ok (.getfield 21, 3) := by decide +kernel
theorem dX4_givePulse_63 : decode cX4_givePulse 63 = .ok (.iload_n 1, 1) := by decide +kernel
theorem dX4_givePulse_64 : decode cX4_givePulse 64 = .ok (.aload_n 0, 1) := by decide +kernel
theorem dX4_givePulse_65 : decode cX4_givePulse 65 = .ok (.getfield 15, 3) := by decide +kernel
theorem dX4_givePulse_68 : decode cX4_givePulse 68 = .ok (.iload_n 1, 1) := by decide +kernel
theorem dX4_givePulse_69 : decode cX4_givePulse 69 = .ok (.iaload, 1) := by decide +kernel
theorem dX4_givePulse_70 : decode cX4_givePulse 70 = .ok (.iload_n 3, 1) := by decide +kernel
theorem dX4_givePulse_71 : decode cX4_givePulse 71 = .ok (.if_icmp .lt 7, 3) := by decide +kernel
theorem dX4_givePulse_74 : decode cX4_givePulse 74 = .ok (.iconst 1, 1) := by decide +kernel
theorem dX4_givePulse_75 : decode cX4_givePulse 75 = .ok (.goto 4, 3) := by decide +kernel
theorem dX4_givePulse_78 : decode cX4_givePulse 78 = .ok (.iconst 0, 1) := by decide +kernel
theorem dX4_givePulse_79 : decode cX4_givePulse 79 = .ok (.bastore, 1) := by decide +kernel
theorem dX4_givePulse_80 : decode cX4_givePulse 80 = .ok (.return_, 1) := by decide +kernel
set_option maxRecDepth 20000 in
theorem ggX4_isMisfit_X5_indexOf : GoodIn wsX4_isMisfit wsX5_indexOf := goodIn_r _ [5] (by decide +kernel) (by decide +kernel)
set_option maxRecDepth 20000 in
theorem gX4_isMisfit_X5_indexOf_n51 : GoodIn wsX4_isMisfit (wsX5_indexOf) := ggX4_isMisfit_X5_indexOf
theorem dX4_isMisfit_0 : decode cX4_isMisfit 0 = .ok (.iload_n 1, 1) := by decide +kernel
theorem dX4_isMisfit_1 : decode cX4_isMisfit 1 = .ok (.iload_n 2, 1) := by decide +kernel
theorem dX4_isMisfit_2 : decode cX4_isMisfit 2 = .ok (.invokestatic 51, 3) := by decide +kernel
theorem dX4_isMisfit_5 : decode cX4_isMisfit 5 = .ok (.istore 4, 2) := by decide +kernel
theorem dX4_isMisfit_7 : decode cX4_isMisfit 7 = .ok (.aload_n 0, 1) := by decide +kernel
theorem dX4_isMisfit_8 : decode cX4_isMisfit 8 = .ok (.getfield 25, 3) := by decide +kernel
theorem dX4_isMisfit_11 : decode cX4_isMisfit 11 = .ok (.iload 4, 2) := by decide +kernel
theorem dX4_isMisfit_13 : decode cX4_isMisfit 13 = .ok (.baload, 1) := by decide +kernel
theorem dX4_isMisfit_14 : decode cX4_isMisfit 14 = .ok (.ifCond .eq 18, 3) := by decide +kernel
theorem dX4_isMisfit_17 : decode cX4_isMisfit 17 = .ok (.aload_n 0, 1) := by decide +kernel
theorem dX4_isMisfit_18 : decode cX4_isMisfit 18 = .ok (.getfield 9, 3) := by decide +kernel
theorem dX4_isMisfit_21 : decode cX4_isMisfit 21 = .ok (.iload 4, 2) := by decide +kernel
theorem dX4_isMisfit_23 : decode cX4_isMisfit 23 = .ok (.iaload, 1) := by decide +kernel
theorem dX4_isMisfit_24 : decode cX4_isMisfit 24 = .ok (.iload_n 3, 1) := by decide +kernel
theorem dX4_isMisfit_25 : decode cX4_isMisfit 25 = .ok (.if_icmp .eq 7, 3) := by decide +kernel
theorem dX4_isMisfit_28 : decode cX4_isMisfit 28 = .ok (.iconst 1, 1) := by decide +kernel
theorem dX4_isMisfit_29 : decode cX4_isMisfit 29 = .ok (.goto 4, 3) := by decide +kernel
theorem dX4_isMisfit_32 : decode cX4_isMisfit 32 = .ok (.iconst 0, 1) := by decide +kernel
theorem dX4_isMisfit_33 : decode cX4_isMisfit 33 = .ok (.ireturn, 1) := by decide +kernel
set_option maxRecDepth 20000 in
theorem ggX4_read_X5_quotient : GoodIn wsX4_read wsX5_quotient := goodIn_r _ [14] (by decide +kernel) (by decide +kernel)
set_option maxRecDepth 20000 in
theorem gX4_read_X5_quotient_n63 : GoodIn wsX4_read (wsX5_quotient) := ggX4_read_X5_quotient
theorem dX4_read_0 : decode cX4_read 0 = .ok (.aload_n 0, 1) := by decide +kernel
theorem dX4_read_1 : decode cX4_read 1 = .ok (.getfield 38, 3) := by decide +kernel
theorem dX4_read_4 : decode cX4_read 4 = .ok (.ifCond .eq 7, 3) := by decide +kernel
theorem dX4_read_7 : decode cX4_read 7 = .ok (.iload_n 2, 1) := by decide +kernel
theorem dX4_read_8 : decode cX4_read 8 = .ok (.goto 15, 3) := by decide +kernel
theorem dX4_read_11 : decode cX4_read 11 = .ok (.iconst 0, 1) := by decide +kernel
theorem dX4_read_12 : decode cX4_read 12 = .ok (.iload_n 2, 1) := by decide +kernel
theorem dX4_read_13 : decode cX4_read 13 = .ok (.aload_n 0, 1) := by decide +kernel
theorem dX4_read_14 : decode cX4_read 14 = .ok (.getfield 28, 3) := by decide +kernel
theorem dX4_read_17 : decode cX4_read 17 = .ok (.iload_n 1, 1) := by decide +kernel
theorem dX4_read_18 : decode cX4_read 18 = .ok (.iaload, 1) := by decide +kernel
theorem dX4_read_19 : decode cX4_read 19 = .ok (.iadd, 1) := by decide +kernel
theorem dX4_read_20 : decode cX4_read 20 = .ok (.invokestatic 66, 3) := by decide +kernel
theorem dX4_read_23 : decode cX4_read 23 = .ok (.istore_n 3, 1) := by decide +kernel
theorem dX4_read_24 : decode cX4_read 24 = .ok (.aload_n 0, 1) := by decide +kernel
theorem dX4_read_25 : decode cX4_read 25 = .ok (.getfield 35, 3) := by decide +kernel
theorem dX4_read_28 : decode cX4_read 28 = .ok (.iload_n 3, 1) := by decide +kernel
theorem dX4_read_29 : decode cX4_read 29 = .ok (.aload_n 0, 1) := by decide +kernel
theorem dX4_read_30 : decode cX4_read 30 = .ok (.getfield 31, 3) := by decide +kernel
theorem dX4_read_33 : decode cX4_read 33 = .ok (.invokestatic 63, 3) := by decide +kernel
theorem dX4_read_36 : decode cX4_read 36 = .ok (.invokestatic 82, 3) := by decide +kernel
theorem dX4_read_39 : decode cX4_read 39 = .ok (.aload_n 0, 1) := by decide +kernel
theorem dX4_read_40 : decode cX4_read 40 = .ok (.getfield 31, 3) := by decide +kernel
theorem dX4_read_43 : decode cX4_read 43 = .ok (.imul, 1) := by decide +kernel
theorem dX4_read_44 : decode cX4_read 44 = .ok (.ireturn, 1) := by decide +kernel
set_option maxRecDepth 20000 in
theorem ggX4_leastError_X4_read : GoodIn wsX4_leastError wsX4_read := goodIn_r _ [9, 10, 11, 12, 13, 3, 14, 15, 16, 1, 2, 4, 17, 18, 19, 20, 21, 22, 23, 24, 25, 26, 27, 28, 29, 30, 31] (by decide +kernel) (by decide +kernel)
set_option maxRecDepth 20000 in
theorem gX4_leastError_X4_read : GoodIn wsX4_leastError (wsV RX4 85 RX4 yX4_read wsX4_read) := goodIn_app (goodIn_of _ (by decide +kernel)) ggX4_leastError_X4_read
theorem dX4_leastError_0 : decode cX4_leastError 0 = .ok (.aload_n 0, 1) := by decide +kernel
theorem dX4_leastError_1 : decode cX4_leastError 1 = .ok (.iload_n 1, 1) := by decide +kernel
theorem dX4_leastError_2 : decode cX4_leastError 2 = .ok (.iconst 0, 1) := by decide +kernel
theorem dX4_leastError_3 : decode cX4_leastError 3 = .ok (.invokevirtual 85, 3) := by decide +kernel
theorem dX4_leastError_6 : decode cX4_leastError 6 = .ok (.istore_n 3, 1) := by decide +kernel
theorem dX4_leastError_7 : decode cX4_leastError 7 = .ok (.iconst 1, 1) := by decide +kernel
theorem dX4_leastError_8 : decode cX4_leastError 8 = .ok (.istore 4, 2) := by decide +kernel
theorem dX4_leastError_10 : decode cX4_leastError 10 = .ok (.iload 4, 2) := by decide +kernel
theorem dX4_leastError_12 : decode cX4_leastError 12 = .ok (.iload_n 2, 1) := by decide +kernel
theorem dX4_leastError_13 : decode cX4_leastError 13 = .ok (.if_icmp .gt 24, 3) := by decide +kernel
theorem dX4_leastError_16 : decode cX4_leastError 16 = .ok (.iload_n 3, 1) := by decide +kernel
theorem dX4_leastError_17 : decode cX4_leastError 17 = .ok (.aload_n 0, 1) := by decide +kernel
theorem dX4_leastError_18 : decode cX4_leastError 18 = .ok (.iload_n 1, 1) := by decide +kernel
theorem dX4_leastError_19 : decode cX4_leastError 19 = .ok (.iload 4, 2) := by decide +kernel
theorem dX4_leastError_21 : decode cX4_leastError 21 = .ok (.invokevirtual 85, 3) := by decide +kernel
theorem dX4_leastError_24 : decode cX4_leastError 24 = .ok (.iload 4, 2) := by decide +kernel
theorem dX4_leastError_26 : decode cX4_leastError 26 = .ok (.isub, 1) := by decide +kernel
theorem dX4_leastError_27 : decode cX4_leastError 27 = .ok (.invokestatic 82, 3) := by decide +kernel
theorem dX4_leastError_30 : decode cX4_leastError 30 = .ok (.istore_n 3, 1) := by decide +kernel
theorem dX4_leastError_31 : decode cX4_leastError 31 = .ok (.iinc 4 1, 3) := by decide +kernel
theorem dX4_leastError_34 : decode cX4_leastError 34 = .ok (.goto (-24), 3) := by decide +kernel
theorem dX4_leastError_37 : decode cX4_leastError 37 = .ok (.iload_n 3, 1) := by decide +kernel
theorem dX4_leastError_38 : decode cX4_leastError 38 = .ok (.ireturn, 1) := by decide +kernel
set_option maxRecDepth 20000 in
theorem ggX4_greatestError_X4_read : GoodIn wsX4_greatestError wsX4_read := goodIn_r _ [9, 10, 11, 1, 2, 3, 4, 12, 13, 14, 15, 16, 17, 18, 19, 20, 21, 22, 23, 24, 25, 26, 27, 28, 29, 30, 31] (by decide +kernel) (by decide +kernel)
set_option maxRecDepth 20000 in
theorem gX4_greatestError_X4_read : GoodIn wsX4_greatestError (wsV RX4 85 RX4 yX4_read wsX4_read) := goodIn_app (goodIn_of _ (by decide +kernel)) ggX4_greatestError_X4_read
theorem dX4_greatestError_0 : decode cX4_greatestError 0 = .ok (.aload_n 0, 1) := by decide +kernel
theorem dX4_greatestError_1 : decode cX4_greatestError 1 = .ok (.iload_n 1, 1) := by decide +kernel
theorem dX4_greatestError_2 : decode cX4_greatestError 2 = .ok (.iconst 0, 1) := by decide +kernel
theorem dX4_greatestError_3 : decode cX4_greatestError 3 = .ok (.invokevirtual 85, 3) := by decide +kernel
theorem dX4_greatestError_6 : decode cX4_greatestError 6 = .ok (.istore_n 3, 1) := by decide +kernel
theorem dX4_greatestError_7 : decode cX4_greatestError 7 = .ok (.iconst 1, 1) := by decide +kernel
theorem dX4_greatestError_8 : decode cX4_greatestError 8 = .ok (.istore 4, 2) := by decide +kernel
theorem dX4_greatestError_10 : decode cX4_greatestError 10 = .ok (.iload 4, 2) := by decide +kernel
theorem dX4_greatestError_12 : decode cX4_greatestError 12 = .ok (.iload_n 2, 1) := by decide +kernel
theorem dX4_greatestError_13 : decode cX4_greatestError 13 = .ok (.if_icmp .gt 24, 3) := by decide +kernel
theorem dX4_greatestError_16 : decode cX4_greatestError 16 = .ok (.iload_n 3, 1) := by decide +kernel
theorem dX4_greatestError_17 : decode cX4_greatestError 17 = .ok (.aload_n 0, 1) := by decide +kernel
theorem dX4_greatestError_18 : decode cX4_greatestError 18 = .ok (.iload_n 1, 1) := by decide +kernel
theorem dX4_greatestError_19 : decode cX4_greatestError 19 = .ok (.iload 4, 2) := by decide +kernel
theorem dX4_greatestError_21 : decode cX4_greatestError 21 = .ok (.invokevirtual 85, 3) := by decide +kernel
theorem dX4_greatestError_24 : decode cX4_greatestError 24 = .ok (.iload 4, 2) := by decide +kernel
theorem dX4_greatestError_26 : decode cX4_greatestError 26 = .ok (.isub, 1) := by decide +kernel
theorem dX4_greatestError_27 : decode cX4_greatestError 27 = .ok (.invokestatic 66, 3) := by decide +kernel
theorem dX4_greatestError_30 : decode cX4_greatestError 30 = .ok (.istore_n 3, 1) := by decide +kernel
theorem dX4_greatestError_31 : decode cX4_greatestError 31 = .ok (.iinc 4 1, 3) := by decide +kernel
theorem dX4_greatestError_34 : decode cX4_greatestError 34 = .ok (.goto (-24), 3) := by decide +kernel
theorem dX4_greatestError_37 : decode cX4_greatestError 37 = .ok (.iload_n 3, 1) := by decide +kernel
theorem dX4_greatestError_38 : decode cX4_greatestError 38 = .ok (.ireturn, 1) := by decide +kernel
set_option maxRecDepth 20000 in
theorem ggX5_init_X3_init : GoodIn wsX5_init wsX3_init := goodIn_r _ [24, 25, 2, 3, 26, 27, 28, 58, 59, 60] (by decide +kernel) (by decide +kernel)
set_option maxRecDepth 20000 in
theorem gX5_init_X3_init_n11 : GoodIn wsX5_init (wsX3_init) := ggX5_init_X3_init
set_option maxRecDepth 20000 in
theorem ggX5_init_X2_init : GoodIn wsX5_init wsX2_init := goodIn_r _ [30, 31, 2, 3, 32, 33, 34, 67, 68] (by decide +kernel) (by decide +kernel)
set_option maxRecDepth 20000 in
theorem gX5_init_X2_init_n30 : GoodIn wsX5_init (wsX2_init) := ggX5_init_X2_init
set_option maxRecDepth 20000 in
theorem ggX5_init_X1_init : GoodIn wsX5_init wsX1_init := goodIn_r _ [36, 37, 2, 3, 32, 38, 39, 40, 69, 70, 71] (by decide +kernel) (by decide +kernel)
set_option maxRecDepth 20000 in
theorem gX5_init_X1_init_n37 : GoodIn wsX5_init (wsX1_init) := ggX5_init_X1_init
set_option maxRecDepth 20000 in
theorem ggX5_init_X4_init : GoodIn wsX5_init wsX4_init := goodIn_r _ [43, 44, 2, 3, 32, 45, 46, 47, 48, 49, 50, 51, 52, 53, 54, 55, 56, 57, 72, 73, 74, 75, 76, 77, 78, 79, 80, 81, 82, 83] (by decide +kernel) (by decide +kernel)
set_option maxRecDepth 20000 in
theorem gX5_init_X4_init : GoodIn wsX5_init (wsX4_init) := ggX5_init_X4_init
theorem dX5_init_0 : decode cX5_init 0 = .ok (.aload_n 0, 1) := by decide +kernel
theorem dX5_init_1 : decode cX5_init 1 = .ok (.invokespecial 3, 3) := by decide +kernel
theorem dX5_init_4 : decode cX5_init 4 = .ok (.aload_n 0, 1) := by decide +kernel
theorem dX5_init_5 : decode cX5_init 5 = .ok (.new 9, 3) := by decide +kernel
theorem dX5_init_8 : decode cX5_init 8 = .ok (.dup, 1) := by decide +kernel
theorem dX5_init_9 : decode cX5_init 9 = .ok (.invokespecial 11, 3) := by decide +kernel
theorem dX5_init_12 : decode cX5_init 12 = .ok (.putfield 12, 3) := by decide +kernel
theorem dX5_init_15 : decode cX5_init 15 = .ok (.aload_n 0, 1) := by decide +kernel
theorem dX5_init_16 : decode cX5_init 16 = .ok (.bipush 6, 2) := by decide +kernel
theorem dX5_init_18 : decode cX5_init 18 = .ok (.anewarray 16, 3) := by decide +kernel
theorem dX5_init_21 : decode cX5_init 21 = .ok (.putfield 18, 3) := by decide +kernel
theorem dX5_init_24 : decode cX5_init 24 = .ok (.aload_n 0, 1) := by decide +kernel
theorem dX5_init_25 : decode cX5_init 25 = .ok (.bipush 6, 2) := by decide +kernel
theorem dX5_init_27 : decode cX5_init 27 = .ok (.anewarray 22, 3) := by decide +kernel
theorem dX5_init_30 : decode cX5_init 30 = .ok (.putfield 24, 3) := by decide +kernel
theorem dX5_init_33 : decode cX5_init 33 = .ok (.aload_n 0, 1) := by decide +kernel
theorem dX5_init_34 : decode cX5_init 34 = .ok (.new 28, 3) := by decide +kernel
theorem dX5_init_37 : decode cX5_init 37 = .ok (.dup, 1) := by decide +kernel
theorem dX5_init_38 : decode cX5_init 38 = .ok (.invokespecial 30, 3) := by decide +kernel
theorem dX5_init_41 : decode cX5_init 41 = .ok (.putfield 31, 3) := by decide +kernel
theorem dX5_init_44 : decode cX5_init 44 = .ok (.aload_n 0, 1) := by decide +kernel
theorem dX5_init_45 : decode cX5_init 45 = .ok (.new 35, 3) := by decide +kernel
theorem dX5_init_48 : decode cX5_init 48 = .ok (.dup, 1) := by decide +kernel
theorem dX5_init_49 : decode cX5_init 49 = .ok (.invokespecial 37, 3) := by decide +kernel
theorem dX5_init_52 : decode cX5_init 52 = .ok (.putfield 38, 3) := by decide +kernel
theorem dX5_init_55 : decode cX5_init 55 = .ok (.aload_n 0, 1) := by decide +kernel
theorem dX5_init_56 : decode cX5_init 56 = .ok (.iconst 0, 1) := by decide +kernel
theorem dX5_init_57 : decode cX5_init 57 = .ok (.putfield 42, 3) := by decide +kernel
theorem dX5_init_60 : decode cX5_init 60 = .ok (.iconst 0, 1) := by decide +kernel
theorem dX5_init_61 : decode cX5_init 61 = .ok (.istore_n 1, 1) := by decide +kernel
theorem dX5_init_62 : decode cX5_init 62 = .ok (.iload_n 1, 1) := by decide +kernel
theorem dX5_init_63 : decode cX5_init 63 = .ok (.bipush 6, 2) := by decide +kernel
theorem dX5_init_65 : decode cX5_init 65 = .ok (.if_icmp .ge 23, 3) := by decide +kernel
theorem dX5_init_68 : decode cX5_init 68 = .ok (.aload_n 0, 1) := by decide +kernel
theorem dX5_init_69 : decode cX5_init 69 = .ok (.getfield 18, 3) := by decide +kernel
theorem dX5_init_72 : decode cX5_init 72 = .ok (.iload_n 1, 1) := by decide +kernel
theorem dX5_init_73 : decode cX5_init 73 = .ok (.new 16, 3) := by decide +kernel
theorem dX5_init_76 : decode cX5_init 76 = .ok (.dup, 1) := by decide +kernel
theorem dX5_init_77 : decode cX5_init 77 = .ok (.iload_n 1, 1) := by decide +kernel
theorem dX5_init_78 : decode cX5_init 78 = .ok (.invokespecial 46, 3) := by decide +kernel
theorem dX5_init_81 : decode cX5_init 81 = .ok (.aastore, 1) := by decide +kernel
theorem dX5_init_82 : decode cX5_init 82 = .ok (.iinc 1 1, 3) := by decide +kernel
theorem dX5_init_85 : decode cX5_init 85 = .ok (.goto (-23), 3) := by decide +kernel
theorem dX5_init_88 : decode cX5_init 88 = .ok (.return_, 1) := by decide +kernel
set_option maxRecDepth 20000 in
theorem ggX5_layer_X5_checkArgument : GoodIn wsX5_layer wsX5_checkArgument := goodIn_ca (goodIn_r _ [11, 12, 13] (by decide +kernel) (by decide +kernel)) (goodIn_sub (fun _ h => List.mem_cons_of_mem _ (List.mem_append_right _ h)) (by decide +kernel))
set_option maxRecDepth 20000 in
theorem gX5_layer_X5_checkArgument : GoodIn wsX5_layer (va_wsS RX5 49 yX5_checkArgument wsX5_checkArgument) := goodIn_app (goodIn_of _ (by decide +kernel)) ggX5_layer_X5_checkArgument
set_option maxRecDepth 20000 in
theorem ggX5_layer_X0_init : GoodIn wsX5_layer wsX0_init := goodIn_r _ [16, 17, 18, 19, 20, 21, 22, 23, 24, 25, 26, 27, 28, 35, 36, 37, 38, 39, 40, 41, 42] (by decide +kernel) (by decide +kernel)
set_option maxRecDepth 20000 in
theorem gX5_layer_X0_init : GoodIn wsX5_layer (wsX0_init) := ggX5_layer_X0_init
theorem dX5_layer_0 : decode cX5_layer 0 = .ok (.iload_n 1, 1) := by decide +kernel
theorem dX5_layer_1 : decode cX5_layer 1 = .ok (.iconst 1, 1) := by decide +kernel
theorem dX5_layer_2 : decode cX5_layer 2 = .ok (.bipush 8, 2) := by decide +kernel
theorem dX5_layer_4 : decode cX5_layer 4 = .ok (.invokestatic 49, 3) := by decide +kernel
theorem dX5_layer_7 : decode cX5_layer 7 = .ok (.iload_n 2, 1) := by decide +kernel
theorem dX5_layer_8 : decode cX5_layer 8 = .ok (.iconst 1, 1) := by decide +kernel
theorem dX5_layer_9 : decode cX5_layer 9 = .ok (.iconst 4, 1) := by decide +kernel
theorem dX5_layer_10 : decode cX5_layer 10 = .ok (.invokestatic 49, 3) := by decide +kernel
theorem dX5_layer_13 : decode cX5_layer 13 = .ok (.aload_n 0, 1) := by decide +kernel
theorem dX5_layer_14 : decode cX5_layer 14 = .ok (.getfield 42, 3) := by decide +kernel
theorem dX5_layer_17 : decode cX5_layer 17 = .ok (.bipush 6, 2) := by decide +kernel
theorem dX5_layer_19 : decode cX5_layer 19 = .ok (.if_icmp .lt 13, 3) := by decide +kernel
theorem dX5_layer_22 : decode cX5_layer 22 = .ok (.new 53, 3) := by decide +kernel
theorem dX5_layer_25 : decode cX5_layer 25 = .ok (.dup, 1) := by decide +kernel
theorem dX5_layer_26 : decode cX5_layer 26 = .ok (.ldc 55, 2) := by decide +kernel
theorem dX5_layer_28 : decode cX5_layer 28 = .ok (.invokespecial 57, 3) := by decide +kernel
theorem dX5_layer_31 : decode cX5_layer 31 = .ok (.athrow, 1) := by decide +kernel
theorem dX5_layer_32 : decode cX5_layer 32 = .ok (.aload_n 0, 1) := by decide +kernel
theorem dX5_layer_33 : decode cX5_layer 33 = .ok (.getfield 24, 3) := by decide +kernel
theorem dX5_layer_36 : decode cX5_layer 36 = .ok (.aload_n 0, 1) := by decide +kernel
theorem dX5_layer_37 : decode cX5_layer 37 = .ok (.getfield 42, 3) := by decide +kernel
theorem dX5_layer_40 : decode cX5_layer 40 = .ok (.new 22, 3) := by decide +kernel
theorem dX5_layer_43 : decode cX5_layer 43 = .ok (.dup, 1) := by decide +kernel
theorem dX5_layer_44 : decode cX5_layer 44 = .ok (.aload_n 0, 1) := by decide +kernel
theorem dX5_layer_45 : decode cX5_layer 45 = .ok (.getfield 42, 3) := by decide +kernel
theorem dX5_layer_48 : decode cX5_layer 48 = .ok (.iload_n 1, 1) := by decide +kernel
theorem dX5_layer_49 : decode cX5_layer 49 = .ok (.iload_n 2, 1) := by decide +kernel
theorem dX5_layer_50 : decode cX5_layer 50 = .ok (.invokespecial 60, 3) := by decide +kernel
theorem dX5_layer_53 : decode cX5_layer 53 = .ok (.aastore, 1) := by decide +kernel
theorem dX5_layer_54 : decode cX5_layer 54 = .ok (.aload_n 0, 1) := by decide +kernel
theorem dX5_layer_55 : decode cX5_layer 55 = .ok (.dup, 1) := by decide +kernel
theorem dX5_layer_56 : decode cX5_layer 56 = .ok (.getfield 42, 3) := by decide +kernel
theorem dX5_layer_59 : decode cX5_layer 59 = .ok (.iconst 1, 1) := by decide +kernel
theorem dX5_layer_60 : decode cX5_layer 60 = .ok (.iadd, 1) := by decide +kernel
theorem dX5_layer_61 : decode cX5_layer 61 = .ok (.putfield 42, 3) := by decide +kernel
theorem dX5_layer_64 : decode cX5_layer 64 = .ok (.aload_n 0, 1) := by decide +kernel
theorem dX5_layer_65 : decode cX5_layer 65 = .ok (.getfield 42, 3) := by decide +kernel
theorem dX5_layer_68 : decode cX5_layer 68 = .ok (.iconst 1, 1) := by decide +kernel
theorem dX5_layer_69 : decode cX5_layer 69 = .ok (.isub, 1) := by decide +kernel
theorem dX5_layer_70 : decode cX5_layer 70 = .ok (.ireturn, 1) := by decide +kernel
set_option maxRecDepth 20000 in
theorem ggX5_weight_X5_layerAt : GoodIn wsX5_weight wsX5_layerAt := goodIn_ca (goodIn_r _ [7, 8, 9, 10, 37, 38, 39, 40, 41, 42] (by decide +kernel) (by decide +kernel)) (goodIn_sub (fun _ h => List.mem_cons_of_mem _ (List.mem_append_left _ (List.mem_append_right _ h))) (by decide +kernel))
set_option maxRecDepth 20000 in
theorem gX5_weight_X5_layerAt : GoodIn wsX5_weight (wsV RX5 62 RX5 yX5_layerAt wsX5_layerAt) := goodIn_app (goodIn_of _ (by decide +kernel)) ggX5_weight_X5_layerAt
set_option maxRecDepth 20000 in
theorem ggX5_weight_X5_checkIndex : GoodIn wsX5_weight wsX5_checkIndex := goodIn_ca (goodIn_r _ [13, 8, 9] (by decide +kernel) (by decide +kernel)) (goodIn_sub (fun _ h => List.mem_cons_of_mem _ (List.mem_append_left _ (List.mem_append_right _ h))) (by decide +kernel))
set_option maxRecDepth 20000 in
theorem gX5_weight_X5_checkIndex : GoodIn wsX5_weight (va_wsS RX5 69 yX5_checkIndex wsX5_checkIndex) := goodIn_app (goodIn_of _ (by decide +kernel)) ggX5_weight_X5_checkIndex
set_option maxRecDepth 20000 in
theorem ggX5_weight_X5_checkArgument : GoodIn wsX5_weight wsX5_checkArgument := goodIn_ca (goodIn_r _ [16, 17, 18] (by decide +kernel) (by decide +kernel)) (goodIn_sub (fun _ h => List.mem_cons_of_mem _ (List.mem_append_right _ h)) (by decide +kernel))
set_option maxRecDepth 20000 in
theorem gX5_weight_X5_checkArgument : GoodIn wsX5_weight (va_wsS RX5 49 yX5_checkArgument wsX5_checkArgument) := goodIn_app (goodIn_of _ (by decide +kernel)) ggX5_weight_X5_checkArgument
set_option maxRecDepth 20000 in
theorem ggX5_weight_X0_weightOf : GoodIn wsX5_weight wsX0_weightOf := goodIn_r _ [23, 24, 29, 30, 31, 32, 33, 34, 35, 36] (by decide +kernel) (by decide +kernel)
set_option maxRecDepth 20000 in
theorem gX5_weight_X0_weightOf : GoodIn wsX5_weight (wsV RX5 76 RX0 yX0_weightOf wsX0_weightOf) := goodIn_app (goodIn_of _ (by decide +kernel)) ggX5_weight_X0_weightOf
set_option maxRecDepth 20000 in
theorem ggX5_weight_X0_tellWeight : GoodIn wsX5_weight wsX0_tellWeight := goodIn_r _ [28, 24, 29, 30, 31, 32, 33, 34, 35, 36] (by decide +kernel) (by decide +kernel)
set_option maxRecDepth 20000 in
theorem gX5_weight_X0_tellWeight : GoodIn wsX5_weight (wsV RX5 80 RX0 yX0_tellWeight wsX0_tellWeight) := goodIn_app (goodIn_of _ (by decide +kernel)) ggX5_weight_X0_tellWeight
theorem dX5_weight_0 : decode cX5_weight 0 = .ok (.aload_n 0, 1) := by decide +kernel
theorem dX5_weight_1 : decode cX5_weight 1 = .ok (.iload_n 1, 1) := by decide +kernel
theorem dX5_weight_2 : decode cX5_weight 2 = .ok (.invokevirtual 62, 3) := by decide +kernel
theorem dX5_weight_5 : decode cX5_weight 5 = .ok (.astore 5, 2) := by decide +kernel
theorem dX5_weight_7 : decode cX5_weight 7 = .ok (.iload_n 2, 1) := by decide +kernel
theorem dX5_weight_8 : decode cX5_weight 8 = .ok (.aload 5, 2) := by decide +kernel
theorem dX5_weight_10 : decode cX5_weight 10 = .ok (.getfield 66, 3) := by decide +kernel
theorem dX5_weight_13 : decode cX5_weight 13 = .ok (.invokestatic 69, 3) := by decide +kernel
theorem dX5_weight_16 : decode cX5_weight 16 = .ok (.iload_n 3, 1) := by decide +kernel
theorem dX5_weight_17 : decode cX5_weight 17 = .ok (.aload 5, 2) := by decide +kernel
theorem dX5_weight_19 : decode cX5_weight 19 = .ok (.getfield 73, 3) := by decide +kernel
theorem dX5_weight_22 : decode cX5_weight 22 = .ok (.invokestatic 69, 3) := by decide +kernel
theorem dX5_weight_25 : decode cX5_weight 25 = .ok (.iload 4, 2) := by decide +kernel
theorem dX5_weight_27 : decode cX5_weight 27 = .ok (.sipush (-255), 3) := by decide +kernel
theorem dX5_weight_30 : decode cX5_weight 30 = .ok (.sipush 255, 3) := by decide +kernel
theorem dX5_weight_33 : decode cX5_weight 33 = .ok (.invokestatic 49, 3) := by decide +kernel
theorem dX5_weight_36 : decode cX5_weight 36 = .ok (.aload 5, 2) := by decide +kernel
theorem dX5_weight_38 : decode cX5_weight 38 = .ok (.iload_n 2, 1) := by decide +kernel
theorem dX5_weight_39 : decode cX5_weight 39 = .ok (.iload_n 3, 1) := by decide +kernel
theorem dX5_weight_40 : decode cX5_weight 40 = .ok (.invokevirtual 76, 3) := by decide +kernel
theorem dX5_weight_43 : decode cX5_weight 43 = .ok (.istore 6, 2) := by decide +kernel
theorem dX5_weight_45 : decode cX5_weight 45 = .ok (.aload 5, 2) := by decide +kernel
theorem dX5_weight_47 : decode cX5_weight 47 = .ok (.iload_n 2, 1) := by decide +kernel
theorem dX5_weight_48 : decode cX5_weight 48 = .ok (.iload_n 3, 1) := by decide +kernel
theorem dX5_weight_49 : decode cX5_weight 49 = .ok (.iload 4, 2) := by decide +kernel
theorem dX5_weight_51 : decode cX5_weight 51 = .ok (.invokevirtual 80, 3) := by decide +kernel
theorem dX5_weight_54 : decode cX5_weight 54 = .ok (.iload 6, 2) := by decide +kernel
theorem dX5_weight_56 : decode cX5_weight 56 = .ok (.ireturn, 1) := by decide +kernel
set_option maxRecDepth 20000 in
theorem ggX5_shift_X5_layerAt : GoodIn wsX5_shift wsX5_layerAt := goodIn_ca (goodIn_r _ [6, 7, 8, 9, 23, 24, 25, 26, 27, 28] (by decide +kernel) (by decide +kernel)) (goodIn_sub (fun _ h => List.mem_cons_of_mem _ (List.mem_append_left _ (List.mem_append_right _ h))) (by decide +kernel))
set_option maxRecDepth 20000 in
theorem gX5_shift_X5_layerAt : GoodIn wsX5_shift (wsV RX5 62 RX5 yX5_layerAt wsX5_layerAt) := goodIn_app (goodIn_of _ (by decide +kernel)) ggX5_shift_X5_layerAt
set_option maxRecDepth 20000 in
theorem ggX5_shift_X5_checkArgument : GoodIn wsX5_shift wsX5_checkArgument := goodIn_ca (goodIn_r _ [12, 13, 14] (by decide +kernel) (by decide +kernel)) (goodIn_sub (fun _ h => List.mem_cons_of_mem _ (List.mem_append_right _ h)) (by decide +kernel))
set_option maxRecDepth 20000 in
theorem gX5_shift_X5_checkArgument : GoodIn wsX5_shift (va_wsS RX5 49 yX5_checkArgument wsX5_checkArgument) := goodIn_app (goodIn_of _ (by decide +kernel)) ggX5_shift_X5_checkArgument
theorem dX5_shift_0 : decode cX5_shift 0 = .ok (.aload_n 0, 1) := by decide +kernel
theorem dX5_shift_1 : decode cX5_shift 1 = .ok (.iload_n 1, 1) := by decide +kernel
theorem dX5_shift_2 : decode cX5_shift 2 = .ok (.invokevirtual 62, 3) := by decide +kernel
theorem dX5_shift_5 : decode cX5_shift 5 = .ok (.astore_n 3, 1) := by decide +kernel
theorem dX5_shift_6 : decode cX5_shift 6 = .ok (.iload_n 2, 1) := by decide +kernel
theorem dX5_shift_7 : decode cX5_shift 7 = .ok (.iconst 0, 1) := by decide +kernel
theorem dX5_shift_8 : decode cX5_shift 8 = .ok (.bipush 20, 2) := by decide +kernel
theorem dX5_shift_10 : decode cX5_shift 10 = .ok (.invokestatic 49, 3) := by decide +kernel
theorem dX5_shift_13 : decode cX5_shift 13 = .ok (.aload_n 3, 1) := by decide +kernel
theorem dX5_shift_14 : decode cX5_shift 14 = .ok (.getfield 83, 3) := by decide +kernel
theorem dX5_shift_17 : decode cX5_shift 17 = .ok (.istore 4, 2) := by decide +kernel
theorem dX5_shift_19 : decode cX5_shift 19 = .ok (.aload_n 3, 1) := by decide +kernel
theorem dX5_shift_20 : decode cX5_shift 20 = .ok (.iload_n 2, 1) := by decide +kernel
theorem dX5_shift_21 : decode cX5_shift 21 = .ok (.putfield 83, 3) := by decide +kernel
theorem dX5_shift_24 : decode cX5_shift 24 = .ok (.iload 4, 2) := by decide +kernel
theorem dX5_shift_26 : decode cX5_shift 26 = .ok (.ireturn, 1) := by decide +kernel
set_option maxRecDepth 20000 in
theorem ggX5_next_X5_layerAt : GoodIn wsX5_next wsX5_layerAt := goodIn_ca (goodIn_r _ [9, 10, 11, 12, 29, 30, 31, 32, 33, 34] (by decide +kernel) (by decide +kernel)) (goodIn_sub (fun _ h => List.mem_cons_of_mem _ (List.mem_append_right _ h)) (by decide +kernel))
set_option maxRecDepth 20000 in
theorem gX5_next_X5_layerAt : GoodIn wsX5_next (wsV RX5 62 RX5 yX5_layerAt wsX5_layerAt) := goodIn_app (goodIn_of _ (by decide +kernel)) ggX5_next_X5_layerAt
set_option maxRecDepth 20000 in
theorem ggX5_next_X0_canGoOnTo : GoodIn wsX5_next wsX0_canGoOnTo := goodIn_r _ [17, 18, 19, 20, 21, 22, 23, 24, 25, 26, 27, 28] (by decide +kernel) (by decide +kernel)
set_option maxRecDepth 20000 in
theorem gX5_next_X0_canGoOnTo : GoodIn wsX5_next (wsV RX5 86 RX0 yX0_canGoOnTo wsX0_canGoOnTo) := goodIn_app (goodIn_of _ (by decide +kernel)) ggX5_next_X0_canGoOnTo
theorem dX5_next_0 : decode cX5_next 0 = .ok (.aload_n 0, 1) := by decide +kernel
theorem dX5_next_1 : decode cX5_next 1 = .ok (.iload_n 1, 1) := by decide +kernel
theorem dX5_next_2 : decode cX5_next 2 = .ok (.invokevirtual 62, 3) := by decide +kernel
theorem dX5_next_5 : decode cX5_next 5 = .ok (.astore_n 3, 1) := by decide +kernel
theorem dX5_next_6 : decode cX5_next 6 = .ok (.iload_n 2, 1) := by decide +kernel
theorem dX5_next_7 : decode cX5_next 7 = .ok (.iconst (-1), 1) := by decide +kernel
theorem dX5_next_8 : decode cX5_next 8 = .ok (.if_icmp .ne 7, 3) := by decide +kernel
theorem dX5_next_11 : decode cX5_next 11 = .ok (.aconst_null, 1) := by decide +kernel
theorem dX5_next_12 : decode cX5_next 12 = .ok (.goto 8, 3) := by decide +kernel
theorem dX5_next_15 : decode cX5_next 15 = .ok (.aload_n 0, 1) := by decide +kernel
theorem dX5_next_16 : decode cX5_next 16 = .ok (.iload_n 2, 1) := by decide +kernel
theorem dX5_next_17 : decode cX5_next 17 = .ok (.invokevirtual 62, 3) := by decide +kernel
theorem dX5_next_20 : decode cX5_next 20 = .ok (.astore 4, 2) := by decide +kernel
theorem dX5_next_22 : decode cX5_next 22 = .ok (.aload 4, 2) := by decide +kernel
theorem dX5_next_24 : decode cX5_next 24 = .ok (.ifnull 22, 3) := by decide +kernel
theorem dX5_next_27 : decode cX5_next 27 = .ok (.aload_n 3, 1) := by decide +kernel
theorem dX5_next_28 : decode cX5_next 28 = .ok (.aload 4, 2) := by decide +kernel
theorem dX5_next_30 : decode cX5_next 30 = .ok (.invokevirtual 86, 3) := by decide +kernel
theorem dX5_next_33 : decode cX5_next 33 = .ok (.ifCond .ne 13, 3) := by decide +kernel
theorem dX5_next_36 : decode cX5_next 36 = .ok (.new 90, 3) := by decide +kernel
theorem dX5_next_39 : decode cX5_next 39 = .ok (.dup, 1) := by decide +kernel
theorem dX5_next_40 : decode cX5_next 40 = .ok (.ldc 92, 2) := by decide +kernel
theorem dX5_next_42 : decode cX5_next 42 = .ok (.invokespecial 94, 3) := by decide +kernel
theorem dX5_next_45 : decode cX5_next 45 = .ok (.athrow, 1) := by decide +kernel
theorem dX5_next_46 : decode cX5_next 46 = .ok (.aload_n 3, 1) := by decide +kernel
theorem dX5_next_47 : decode cX5_next 47 = .ok (.getfield 95, 3) := by decide +kernel
theorem dX5_next_50 : decode cX5_next 50 = .ok (.ifnonnull 7, 3) := by decide +kernel
theorem dX5_next_53 : decode cX5_next 53 = .ok (.iconst (-1), 1) := by decide +kernel
theorem dX5_next_54 : decode cX5_next 54 = .ok (.goto 10, 3) := by decide +kernel
theorem dX5_next_57 : decode cX5_next 57 = .ok (.aload_n 3, 1) := by decide +kernel
theorem dX5_next_58 : decode cX5_next 58 = .ok (.getfield 95, 3) := by decide +kernel
theorem dX5_next_61 : decode cX5_next 61 = .ok (.getfield 99, 3) := by decide +kernel
theorem dX5_next_64 : decode cX5_next 64 = .ok (.istore 5, 2) := by decide +kernel
theorem dX5_next_66 : decode cX5_next 66 = .ok (.aload_n 3, 1) := by decide +kernel
theorem dX5_next_67 : decode cX5_next 67 = .ok (.aload 4, 2) := by decide +kernel
theorem dX5_next_69 : decode cX5_next 69 = .ok (.putfield 95, 3) := by decide +kernel
theorem dX5_next_72 : decode cX5_next 72 = .ok (.iload 5, 2) := by decide +kernel
theorem dX5_next_74 : decode cX5_next 74 = .ok (.ireturn, 1) := by decide +kernel
set_option maxRecDepth 20000 in
theorem ggX5_place_X5_layerAt : GoodIn wsX5_place wsX5_layerAt := goodIn_ca (goodIn_r _ [11, 12, 13, 14, 137, 138, 139, 140, 141, 142] (by decide +kernel) (by decide +kernel)) (goodIn_sub (fun _ h => List.mem_cons_of_mem _ (List.mem_append_right _ h)) (by decide +kernel))
set_option maxRecDepth 20000 in
theorem gX5_place_X5_layerAt : GoodIn wsX5_place (wsV RX5 62 RX5 yX5_layerAt wsX5_layerAt) := goodIn_app (goodIn_of _ (by decide +kernel)) ggX5_place_X5_layerAt
set_option maxRecDepth 20000 in
theorem ggX5_place_X5_tileAt : GoodIn wsX5_place wsX5_tileAt := goodIn_ca (goodIn_r _ [18, 12, 13, 19, 137, 138, 139, 140, 141, 142] (by decide +kernel) (by decide +kernel)) (goodIn_sub (fun _ h => List.mem_cons_of_mem _ (List.mem_append_right _ h)) (by decide +kernel))
set_option maxRecDepth 20000 in
theorem gX5_place_X5_tileAt : GoodIn wsX5_place (wsV RX5 102 RX5 yX5_tileAt wsX5_tileAt) := goodIn_app (goodIn_of _ (by decide +kernel)) ggX5_place_X5_tileAt
set_option maxRecDepth 20000 in
theorem ggX5_place_X2_weigh : GoodIn wsX5_place wsX2_weigh := goodIn_r _ [24, 25, 26, 27, 28, 29, 30, 31, 32, 33, 34, 35, 36, 37, 38, 39, 40, 41, 42, 43, 44, 45, 46, 47, 48, 49, 50, 51, 52, 53, 10, 54, 117, 118, 119, 120, 121, 122, 123, 124, 143, 144, 125, 126, 127, 128, 129, 130, 131, 132, 133, 134, 135, 136] (by decide +kernel) (by decide +kernel)
set_option maxRecDepth 20000 in
theorem gX5_place_X2_weigh : GoodIn wsX5_place (wsV RX5 116 RX2 yX2_weigh wsX2_weigh) := goodIn_app (goodIn_of _ (by decide +kernel)) ggX5_place_X2_weigh
set_option maxRecDepth 20000 in
theorem ggX5_place_X2_seat : GoodIn wsX5_place wsX2_seat := goodIn_r _ [58, 25, 59, 60, 61, 62, 23, 63, 64, 65, 66, 67, 68, 69, 70, 71, 72, 73, 74, 75, 76, 77, 78, 79, 80, 81, 82, 83, 26, 84, 85, 86, 87, 117, 118, 119, 120, 121, 122, 123, 124, 143, 144] (by decide +kernel) (by decide +kernel)
set_option maxRecDepth 20000 in
theorem gX5_place_X2_seat : GoodIn wsX5_place (wsV RX5 120 RX2 yX2_seat wsX2_seat) := goodIn_app (goodIn_of _ (by decide +kernel)) ggX5_place_X2_seat
set_option maxRecDepth 20000 in
theorem ggX5_place_X0_writeOn : GoodIn wsX5_place wsX0_writeOn := goodIn_r _ [91, 92, 93, 32, 33, 34, 30, 35, 36, 37, 38, 39, 40, 41, 42, 43, 44, 45, 94, 95, 96, 49, 97, 98, 52, 99, 100, 101, 51, 53, 10, 54, 102, 103, 104, 105, 106, 107, 108, 78, 109, 110, 111, 112, 113, 114, 115, 116, 117, 118, 119, 120, 121, 122, 123, 124, 125, 126, 127, 128, 129, 130, 131, 132, 133, 134, 135, 136, 145, 146, 147] (by decide +kernel) (by decide +kernel)
set_option maxRecDepth 20000 in
theorem gX5_place_X0_writeOn : GoodIn wsX5_place (wsV RX5 124 RX0 yX0_writeOn wsX0_writeOn) := goodIn_app (goodIn_of _ (by decide +kernel)) ggX5_place_X0_writeOn
theorem dX5_place_0 : decode cX5_place 0 = .ok (.aload_n 0, 1) := by decide +kernel
theorem dX5_place_1 : decode cX5_place 1 = .ok (.iload_n 1, 1) := by decide +kernel
theorem dX5_place_2 : decode cX5_place 2 = .ok (.invokevirtual 62, 3) := by decide +kernel
theorem dX5_place_5 : decode cX5_place 5 = .ok (.astore_n 3, 1) := by decide +kernel
theorem dX5_place_6 : decode cX5_place 6 = .ok (.aload_n 0, 1) := by decide +kernel
theorem dX5_place_7 : decode cX5_place 7 = .ok (.iload_n 2, 1) := by decide +kernel
theorem dX5_place_8 : decode cX5_place 8 = .ok (.invokevirtual 102, 3) := by decide +kernel
theorem dX5_place_11 : decode cX5_place 11 = .ok (.astore 4, 2) := by decide +kernel
theorem dX5_place_13 : decode cX5_place 13 = .ok (.aload_n 3, 1) := by decide +kernel
theorem dX5_place_14 : decode cX5_place 14 = .ok (.getfield 106, 3) := by decide +kernel
theorem dX5_place_17 : decode cX5_place 17 = .ok (.ifnonnull 11, 3) := by decide +kernel
theorem dX5_place_20 : decode cX5_place 20 = .ok (.aload 4, 2) := by decide +kernel
theorem dX5_place_22 : decode cX5_place 22 = .ok (.getfield 110, 3) := by decide +kernel
theorem dX5_place_25 : decode cX5_place 25 = .ok (.ifCond .eq 13, 3) := by decide +kernel
theorem dX5_place_28 : decode cX5_place 28 = .ok (.new 53, 3) := by decide +kernel
theorem dX5_place_31 : decode cX5_place 31 = .ok (.dup, 1) := by decide +kernel
theorem dX5_place_32 : decode cX5_place 32 = .ok (.ldc 114, 2) := by decide +kernel
theorem dX5_place_34 : decode cX5_place 34 = .ok (.invokespecial 57, 3) := by decide +kernel
theorem dX5_place_37 : decode cX5_place 37 = .ok (.athrow, 1) := by decide +kernel
theorem dX5_place_38 : decode cX5_place 38 = .ok (.aload_n 0, 1) := by decide +kernel
theorem dX5_place_39 : decode cX5_place 39 = .ok (.getfield 31, 3) := by decide +kernel
theorem dX5_place_42 : decode cX5_place 42 = .ok (.aload_n 3, 1) := by decide +kernel
theorem dX5_place_43 : decode cX5_place 43 = .ok (.aload 4, 2) := by decide +kernel
theorem dX5_place_45 : decode cX5_place 45 = .ok (.invokevirtual 116, 3) := by decide +kernel
theorem dX5_place_48 : decode cX5_place 48 = .ok (.aload_n 0, 1) := by decide +kernel
theorem dX5_place_49 : decode cX5_place 49 = .ok (.getfield 31, 3) := by decide +kernel
theorem dX5_place_52 : decode cX5_place 52 = .ok (.aload_n 3, 1) := by decide +kernel
theorem dX5_place_53 : decode cX5_place 53 = .ok (.invokevirtual 120, 3) := by decide +kernel
theorem dX5_place_56 : decode cX5_place 56 = .ok (.aload_n 3, 1) := by decide +kernel
theorem dX5_place_57 : decode cX5_place 57 = .ok (.aload 4, 2) := by decide +kernel
theorem dX5_place_59 : decode cX5_place 59 = .ok (.putfield 106, 3) := by decide +kernel
theorem dX5_place_62 : decode cX5_place 62 = .ok (.aload 4, 2) := by decide +kernel
theorem dX5_place_64 : decode cX5_place 64 = .ok (.iconst 1, 1) := by decide +kernel
theorem dX5_place_65 : decode cX5_place 65 = .ok (.putfield 110, 3) := by decide +kernel
theorem dX5_place_68 : decode cX5_place 68 = .ok (.aload_n 3, 1) := by decide +kernel
theorem dX5_place_69 : decode cX5_place 69 = .ok (.aload 4, 2) := by decide +kernel
theorem dX5_place_71 : decode cX5_place 71 = .ok (.aload_n 0, 1) := by decide +kernel
theorem dX5_place_72 : decode cX5_place 72 = .ok (.getfield 12, 3) := by decide +kernel
theorem dX5_place_75 : decode cX5_place 75 = .ok (.invokevirtual 124, 3) := by decide +kernel
theorem dX5_place_78 : decode cX5_place 78 = .ok (.ireturn, 1) := by decide +kernel
set_option maxRecDepth 20000 in
theorem ggX5_load_X5_layerAt : GoodIn wsX5_load wsX5_layerAt := goodIn_ca (goodIn_r _ [6, 7, 8, 9, 66, 67, 68, 69, 70, 71] (by decide +kernel) (by decide +kernel)) (goodIn_sub (fun _ h => List.mem_cons_of_mem _ (List.mem_append_left _ (List.mem_append_right _ h))) (by decide +kernel))
set_option maxRecDepth 20000 in
theorem gX5_load_X5_layerAt : GoodIn wsX5_load (wsV RX5 62 RX5 yX5_layerAt wsX5_layerAt) := goodIn_app (goodIn_of _ (by decide +kernel)) ggX5_load_X5_layerAt
set_option maxRecDepth 20000 in
theorem ggX5_load_X5_groundOf : GoodIn wsX5_load wsX5_groundOf := goodIn_ca (goodIn_r _ [12, 13, 14, 15, 72, 73, 74, 75, 76, 77, 78, 79] (by decide +kernel) (by decide +kernel)) (goodIn_sub (fun _ h => List.mem_cons_of_mem _ (List.mem_append_right _ h)) (by decide +kernel))
set_option maxRecDepth 20000 in
theorem gX5_load_X5_groundOf : GoodIn wsX5_load (va_wsS RX5 128 yX5_groundOf wsX5_groundOf) := goodIn_app (goodIn_of _ (by decide +kernel)) ggX5_load_X5_groundOf
set_option maxRecDepth 20000 in
theorem ggX5_load_X0_writeOn : GoodIn wsX5_load wsX0_writeOn := goodIn_r _ [20, 21, 22, 23, 24, 25, 19, 26, 27, 28, 29, 30, 31, 32, 33, 34, 35, 36, 37, 38, 39, 40, 41, 42, 43, 44, 45, 46, 47, 48, 5, 49, 50, 51, 52, 53, 54, 55, 56, 57, 58, 59, 60, 61, 62, 63, 64, 65, 72, 73, 74, 75, 76, 77, 78, 79, 80, 81, 82, 83, 84, 85, 86, 87, 88, 89, 90, 91, 92, 93, 94] (by decide +kernel) (by decide +kernel)
set_option maxRecDepth 20000 in
theorem gX5_load_X0_writeOn : GoodIn wsX5_load (wsV RX5 124 RX0 yX0_writeOn wsX0_writeOn) := goodIn_app (goodIn_of _ (by decide +kernel)) ggX5_load_X0_writeOn
theorem dX5_load_0 : decode cX5_load 0 = .ok (.aload_n 0, 1) := by decide +kernel
theorem dX5_load_1 : decode cX5_load 1 = .ok (.iload_n 1, 1) := by decide +kernel
theorem dX5_load_2 : decode cX5_load 2 = .ok (.invokevirtual 62, 3) := by decide +kernel
theorem dX5_load_5 : decode cX5_load 5 = .ok (.astore_n 2, 1) := by decide +kernel
theorem dX5_load_6 : decode cX5_load 6 = .ok (.aload_n 2, 1) := by decide +kernel
theorem dX5_load_7 : decode cX5_load 7 = .ok (.aload_n 2, 1) := by decide +kernel
theorem dX5_load_8 : decode cX5_load 8 = .ok (.invokestatic 128, 3) := by decide +kernel
theorem dX5_load_11 : decode cX5_load 11 = .ok (.aload_n 0, 1) := by decide +kernel
theorem dX5_load_12 : decode cX5_load 12 = .ok (.getfield 12, 3) := by decide +kernel
theorem dX5_load_15 : decode cX5_load 15 = .ok (.invokevirtual 124, 3) := by decide +kernel
theorem dX5_load_18 : decode cX5_load 18 = .ok (.ireturn, 1) := by decide +kernel
set_option maxRecDepth 20000 in
theorem ggX5_lift_X5_layerAt : GoodIn wsX5_lift wsX5_layerAt := goodIn_ca (goodIn_r _ [8, 9, 10, 11, 37, 38, 39, 40, 41, 42] (by decide +kernel) (by decide +kernel)) (goodIn_sub (fun _ h => List.mem_cons_of_mem _ (List.mem_append_left _ (List.mem_append_right _ h))) (by decide +kernel))
set_option maxRecDepth 20000 in
theorem gX5_lift_X5_layerAt : GoodIn wsX5_lift (wsV RX5 62 RX5 yX5_layerAt wsX5_layerAt) := goodIn_app (goodIn_of _ (by decide +kernel)) ggX5_lift_X5_layerAt
set_option maxRecDepth 20000 in
theorem ggX5_lift_X5_groundOf : GoodIn wsX5_lift wsX5_groundOf := goodIn_ca (goodIn_r _ [14, 15, 16, 1, 17, 18, 19, 20, 21, 22, 23, 24] (by decide +kernel) (by decide +kernel)) (goodIn_sub (fun _ h => List.mem_cons_of_mem _ (List.mem_append_right _ h)) (by decide +kernel))
set_option maxRecDepth 20000 in
theorem gX5_lift_X5_groundOf : GoodIn wsX5_lift (va_wsS RX5 128 yX5_groundOf wsX5_groundOf) := goodIn_app (goodIn_of _ (by decide +kernel)) ggX5_lift_X5_groundOf
theorem dX5_lift_0 : decode cX5_lift 0 = .ok (.aload_n 0, 1) := by decide +kernel
theorem dX5_lift_1 : decode cX5_lift 1 = .ok (.iload_n 1, 1) := by decide +kernel
theorem dX5_lift_2 : decode cX5_lift 2 = .ok (.invokevirtual 62, 3) := by decide +kernel
theorem dX5_lift_5 : decode cX5_lift 5 = .ok (.astore_n 2, 1) := by decide +kernel
theorem dX5_lift_6 : decode cX5_lift 6 = .ok (.aload_n 2, 1) := by decide +kernel
theorem dX5_lift_7 : decode cX5_lift 7 = .ok (.invokestatic 128, 3) := by decide +kernel
theorem dX5_lift_10 : decode cX5_lift 10 = .ok (.astore_n 3, 1) := by decide +kernel
theorem dX5_lift_11 : decode cX5_lift 11 = .ok (.aload_n 2, 1) := by decide +kernel
theorem dX5_lift_12 : decode cX5_lift 12 = .ok (.aconst_null, 1) := by decide +kernel
theorem dX5_lift_13 : decode cX5_lift 13 = .ok (.putfield 106, 3) := by decide +kernel
theorem dX5_lift_16 : decode cX5_lift 16 = .ok (.aload_n 3, 1) := by decide +kernel
theorem dX5_lift_17 : decode cX5_lift 17 = .ok (.iconst 0, 1) := by decide +kernel
theorem dX5_lift_18 : decode cX5_lift 18 = .ok (.putfield 110, 3) := by decide +kernel
theorem dX5_lift_21 : decode cX5_lift 21 = .ok (.aload_n 3, 1) := by decide +kernel
theorem dX5_lift_22 : decode cX5_lift 22 = .ok (.getfield 132, 3) := by decide +kernel
theorem dX5_lift_25 : decode cX5_lift 25 = .ok (.ireturn, 1) := by decide +kernel
set_option maxRecDepth 20000 in
theorem ggX5_stick_X5_tileAt : GoodIn wsX5_stick wsX5_tileAt := goodIn_ca (goodIn_r _ [7, 8, 9, 10, 28, 29, 30, 31, 32, 33] (by decide +kernel) (by decide +kernel)) (goodIn_sub (fun _ h => List.mem_cons_of_mem _ (List.mem_append_left _ (List.mem_append_right _ h))) (by decide +kernel))
set_option maxRecDepth 20000 in
theorem gX5_stick_X5_tileAt : GoodIn wsX5_stick (wsV RX5 102 RX5 yX5_tileAt wsX5_tileAt) := goodIn_app (goodIn_of _ (by decide +kernel)) ggX5_stick_X5_tileAt
set_option maxRecDepth 20000 in
theorem ggX5_stick_X5_checkIndex : GoodIn wsX5_stick wsX5_checkIndex := goodIn_ca (goodIn_r _ [13, 8, 9] (by decide +kernel) (by decide +kernel)) (goodIn_sub (fun _ h => List.mem_cons_of_mem _ (List.mem_append_left _ (List.mem_append_right _ h))) (by decide +kernel))
set_option maxRecDepth 20000 in
theorem gX5_stick_X5_checkIndex : GoodIn wsX5_stick (va_wsS RX5 69 yX5_checkIndex wsX5_checkIndex) := goodIn_app (goodIn_of _ (by decide +kernel)) ggX5_stick_X5_checkIndex
set_option maxRecDepth 20000 in
theorem ggX5_stick_X5_checkArgument : GoodIn wsX5_stick wsX5_checkArgument := goodIn_ca (goodIn_r _ [16, 17, 18] (by decide +kernel) (by decide +kernel)) (goodIn_sub (fun _ h => List.mem_cons_of_mem _ (List.mem_append_right _ h)) (by decide +kernel))
set_option maxRecDepth 20000 in
theorem gX5_stick_X5_checkArgument : GoodIn wsX5_stick (va_wsS RX5 49 yX5_checkArgument wsX5_checkArgument) := goodIn_app (goodIn_of _ (by decide +kernel)) ggX5_stick_X5_checkArgument
set_option maxRecDepth 20000 in
theorem ggX5_stick_X4_becomesStuck : GoodIn wsX5_stick wsX4_becomesStuck := goodIn_r _ [23, 24, 25, 26, 6, 27, 34, 35, 36, 37, 38, 39, 40, 41, 42, 43, 44, 45] (by decide +kernel) (by decide +kernel)
set_option maxRecDepth 20000 in
theorem gX5_stick_X4_becomesStuck : GoodIn wsX5_stick (wsV RX5 133 RX4 yX4_becomesStuck wsX4_becomesStuck) := goodIn_app (goodIn_of _ (by decide +kernel)) ggX5_stick_X4_becomesStuck
theorem dX5_stick_0 : decode cX5_stick 0 = .ok (.aload_n 0, 1) := by decide +kernel
theorem dX5_stick_1 : decode cX5_stick 1 = .ok (.iload_n 1, 1) := by decide +kernel
theorem dX5_stick_2 : decode cX5_stick 2 = .ok (.invokevirtual 102, 3) := by decide +kernel
theorem dX5_stick_5 : decode cX5_stick 5 = .ok (.astore 5, 2) := by decide +kernel
theorem dX5_stick_7 : decode cX5_stick 7 = .ok (.iload_n 2, 1) := by decide +kernel
theorem dX5_stick_8 : decode cX5_stick 8 = .ok (.bipush 8, 2) := by decide +kernel
theorem dX5_stick_10 : decode cX5_stick 10 = .ok (.invokestatic 69, 3) := by decide +kernel
theorem dX5_stick_13 : decode cX5_stick 13 = .ok (.iload_n 3, 1) := by decide +kernel
theorem dX5_stick_14 : decode cX5_stick 14 = .ok (.bipush 16, 2) := by decide +kernel
theorem dX5_stick_16 : decode cX5_stick 16 = .ok (.invokestatic 69, 3) := by decide +kernel
theorem dX5_stick_19 : decode cX5_stick 19 = .ok (.iload 4, 2) := by decide +kernel
theorem dX5_stick_21 : decode cX5_stick 21 = .ok (.iconst 0, 1) := by decide +kernel
theorem dX5_stick_22 : decode cX5_stick 22 = .ok (.bipush 15, 2) := by decide +kernel
theorem dX5_stick_24 : decode cX5_stick 24 = .ok (.invokestatic 49, 3) := by decide +kernel
theorem dX5_stick_27 : decode cX5_stick 27 = .ok (.aload 5, 2) := by decide +kernel
theorem dX5_stick_29 : decode cX5_stick 29 = .ok (.iload_n 2, 1) := by decide +kernel
theorem dX5_stick_30 : decode cX5_stick 30 = .ok (.iload_n 3, 1) := by decide +kernel
theorem dX5_stick_31 : decode cX5_stick 31 = .ok (.iload 4, 2) := by decide +kernel
theorem dX5_stick_33 : decode cX5_stick 33 = .ok (.invokevirtual 133, 3) := by decide +kernel
theorem dX5_stick_36 : decode cX5_stick 36 = .ok (.ifCond .ne 13, 3) := by decide +kernel
theorem dX5_stick_39 : decode cX5_stick 39 = .ok (.new 53, 3) := by decide +kernel
theorem dX5_stick_42 : decode cX5_stick 42 = .ok (.dup, 1) := by decide +kernel
theorem dX5_stick_43 : decode cX5_stick 43 = .ok (.ldc 137, 2) := by decide +kernel
theorem dX5_stick_45 : decode cX5_stick 45 = .ok (.invokespecial 57, 3) := by decide +kernel
theorem dX5_stick_48 : decode cX5_stick 48 = .ok (.athrow, 1) := by decide +kernel
theorem dX5_stick_49 : decode cX5_stick 49 = .ok (.return_, 1) := by decide +kernel
set_option maxRecDepth 20000 in
theorem ggX5_spoil_X5_tileAt : GoodIn wsX5_spoil wsX5_tileAt := goodIn_ca (goodIn_r _ [6, 7, 8, 9, 28, 29, 30, 31, 32, 33] (by decide +kernel) (by decide +kernel)) (goodIn_sub (fun _ h => List.mem_cons_of_mem _ (List.mem_append_left _ (List.mem_append_right _ h))) (by decide +kernel))
set_option maxRecDepth 20000 in
theorem gX5_spoil_X5_tileAt : GoodIn wsX5_spoil (wsV RX5 102 RX5 yX5_tileAt wsX5_tileAt) := goodIn_app (goodIn_of _ (by decide +kernel)) ggX5_spoil_X5_tileAt
set_option maxRecDepth 20000 in
theorem ggX5_spoil_X5_checkArgument : GoodIn wsX5_spoil wsX5_checkArgument := goodIn_ca (goodIn_r _ [12, 13, 14] (by decide +kernel) (by decide +kernel)) (goodIn_sub (fun _ h => List.mem_cons_of_mem _ (List.mem_append_right _ h)) (by decide +kernel))
set_option maxRecDepth 20000 in
theorem gX5_spoil_X5_checkArgument : GoodIn wsX5_spoil (va_wsS RX5 49 yX5_checkArgument wsX5_checkArgument) := goodIn_app (goodIn_of _ (by decide +kernel)) ggX5_spoil_X5_checkArgument
set_option maxRecDepth 20000 in
theorem ggX5_spoil_X5_drawBehind : GoodIn wsX5_spoil wsX5_drawBehind := goodIn_r _ [17, 18] (by decide +kernel) (by decide +kernel)
set_option maxRecDepth 20000 in
theorem gX5_spoil_X5_drawBehind : GoodIn wsX5_spoil (va_wsS RX5 140 yX5_drawBehind wsX5_drawBehind) := goodIn_app (goodIn_of _ (by decide +kernel)) ggX5_spoil_X5_drawBehind
set_option maxRecDepth 20000 in
theorem ggX5_spoil_X4_becomesStuck : GoodIn wsX5_spoil wsX4_becomesStuck := goodIn_r _ [23, 24, 25, 26, 5, 27, 34, 35, 36, 37, 38, 39, 40, 41, 42, 43, 44, 45] (by decide +kernel) (by decide +kernel)
set_option maxRecDepth 20000 in
theorem gX5_spoil_X4_becomesStuck : GoodIn wsX5_spoil (wsV RX5 133 RX4 yX4_becomesStuck wsX4_becomesStuck) := goodIn_app (goodIn_of _ (by decide +kernel)) ggX5_spoil_X4_becomesStuck
theorem dX5_spoil_0 : decode cX5_spoil 0 = .ok (.aload_n 0, 1) := by decide +kernel
theorem dX5_spoil_1 : decode cX5_spoil 1 = .ok (.iload_n 1, 1) := by decide +kernel
theorem dX5_spoil_2 : decode cX5_spoil 2 = .ok (.invokevirtual 102, 3) := by decide +kernel
theorem dX5_spoil_5 : decode cX5_spoil 5 = .ok (.astore 4, 2) := by decide +kernel
theorem dX5_spoil_7 : decode cX5_spoil 7 = .ok (.iload_n 2, 1) := by decide +kernel
theorem dX5_spoil_8 : decode cX5_spoil 8 = .ok (.iconst 0, 1) := by decide +kernel
theorem dX5_spoil_9 : decode cX5_spoil 9 = .ok (.ldc 139, 2) := by decide +kernel
theorem dX5_spoil_11 : decode cX5_spoil 11 = .ok (.invokestatic 49, 3) := by decide +kernel
theorem dX5_spoil_14 : decode cX5_spoil 14 = .ok (.iload_n 3, 1) := by decide +kernel
theorem dX5_spoil_15 : decode cX5_spoil 15 = .ok (.iconst 1, 1) := by decide +kernel
theorem dX5_spoil_16 : decode cX5_spoil 16 = .ok (.bipush 20, 2) := by decide +kernel
theorem dX5_spoil_18 : decode cX5_spoil 18 = .ok (.invokestatic 49, 3) := by decide +kernel
theorem dX5_spoil_21 : decode cX5_spoil 21 = .ok (.iconst 0, 1) := by decide +kernel
theorem dX5_spoil_22 : decode cX5_spoil 22 = .ok (.istore 5, 2) := by decide +kernel
theorem dX5_spoil_24 : decode cX5_spoil 24 = .ok (.iload_n 2, 1) := by decide +kernel
theorem dX5_spoil_25 : decode cX5_spoil 25 = .ok (.istore 6, 2) := by decide +kernel
theorem dX5_spoil_27 : decode cX5_spoil 27 = .ok (.iconst 0, 1) := by decide +kernel
theorem dX5_spoil_28 : decode cX5_spoil 28 = .ok (.istore 7, 2) := by decide +kernel
theorem dX5_spoil_30 : decode cX5_spoil 30 = .ok (.iload 7, 2) := by decide +kernel
theorem dX5_spoil_32 : decode cX5_spoil 32 = .ok (.iload_n 3, 1) := by decide +kernel
theorem dX5_spoil_33 : decode cX5_spoil 33 = .ok (.if_icmp .ge 57, 3) := by decide +kernel
theorem dX5_spoil_36 : decode cX5_spoil 36 = .ok (.iload 6, 2) := by decide +kernel
theorem dX5_spoil_38 : decode cX5_spoil 38 = .ok (.invokestatic 140, 3) := by decide +kernel
theorem dX5_spoil_41 : decode cX5_spoil 41 = .ok (.istore 6, 2) := by decide +kernel
theorem dX5_spoil_43 : decode cX5_spoil 43 = .ok (.iload 6, 2) := by decide +kernel
theorem dX5_spoil_45 : decode cX5_spoil 45 = .ok (.sipush 128, 3) := by decide +kernel
theorem dX5_spoil_48 : decode cX5_spoil 48 = .ok (.irem, 1) := by decide +kernel
theorem dX5_spoil_49 : decode cX5_spoil 49 = .ok (.istore 8, 2) := by decide +kernel
theorem dX5_spoil_51 : decode cX5_spoil 51 = .ok (.iload 6, 2) := by decide +kernel
theorem dX5_spoil_53 : decode cX5_spoil 53 = .ok (.invokestatic 140, 3) := by decide +kernel
theorem dX5_spoil_56 : decode cX5_spoil 56 = .ok (.istore 6, 2) := by decide +kernel
theorem dX5_spoil_58 : decode cX5_spoil 58 = .ok (.aload 4, 2) := by decide +kernel
theorem dX5_spoil_60 : decode cX5_spoil 60 = .ok (.iload 8, 2) := by decide +kernel
theorem dX5_spoil_62 : decode cX5_spoil 62 = .ok (.bipush 16, 2) := by decide +kernel
theorem dX5_spoil_64 : decode cX5_spoil 64 = .ok (.idiv, 1) := by decide +kernel
theorem dX5_spoil_65 : decode cX5_spoil 65 = .ok (.iload 8, 2) := by decide +kernel
theorem dX5_spoil_67 : decode cX5_spoil 67 = .ok (.bipush 16, 2) := by decide +kernel
theorem dX5_spoil_69 : decode cX5_spoil 69 = .ok (.irem, 1) := by decide +kernel
theorem dX5_spoil_70 : decode cX5_spoil 70 = .ok (.iload 6, 2) := by decide +kernel
theorem dX5_spoil_72 : decode cX5_spoil 72 = .ok (.bipush 16, 2) := by decide +kernel
theorem dX5_spoil_74 : decode cX5_spoil 74 = .ok (.irem, 1) := by decide +kernel
theorem dX5_spoil_75 : decode cX5_spoil 75 = .ok (.invokevirtual 133, 3) := by decide +kernel
theorem dX5_spoil_78 : decode cX5_spoil 78 = .ok (.ifCond .eq 6, 3) := by decide +kernel
theorem dX5_spoil_81 : decode cX5_spoil 81 = .ok (.iinc 5 1, 3) := by decide +kernel
theorem dX5_spoil_84 : decode cX5_spoil 84 = .ok (.iinc 7 1, 3) := by decide +kernel
theorem dX5_spoil_87 : decode cX5_spoil 87 = .ok (.goto (-57), 3) := by decide +kernel
theorem dX5_spoil_90 : decode cX5_spoil 90 = .ok (.iload 5, 2) := by decide +kernel
theorem dX5_spoil_92 : decode cX5_spoil 92 = .ok (.ireturn, 1) := by decide +kernel
set_option maxRecDepth 20000 in
theorem ggX5_drift_X5_checkArgument : GoodIn wsX5_drift wsX5_checkArgument := goodIn_ca (goodIn_r _ [6, 7, 8] (by decide +kernel) (by decide +kernel)) (goodIn_sub (fun _ h => List.mem_cons_of_mem _ (List.mem_append_right _ h)) (by decide +kernel))
set_option maxRecDepth 20000 in
theorem gX5_drift_X5_checkArgument : GoodIn wsX5_drift (va_wsS RX5 49 yX5_checkArgument wsX5_checkArgument) := goodIn_app (goodIn_of _ (by decide +kernel)) ggX5_drift_X5_checkArgument
theorem dX5_drift_0 : decode cX5_drift 0 = .ok (.iload_n 1, 1) := by decide +kernel
theorem dX5_drift_1 : decode cX5_drift 1 = .ok (.iconst 0, 1) := by decide +kernel
theorem dX5_drift_2 : decode cX5_drift 2 = .ok (.sipush 1000, 3) := by decide +kernel
theorem dX5_drift_5 : decode cX5_drift 5 = .ok (.invokestatic 49, 3) := by decide +kernel
theorem dX5_drift_8 : decode cX5_drift 8 = .ok (.aload_n 0, 1) := by decide +kernel
theorem dX5_drift_9 : decode cX5_drift 9 = .ok (.getfield 12, 3) := by decide +kernel
theorem dX5_drift_12 : decode cX5_drift 12 = .ok (.getfield 144, 3) := by decide +kernel
theorem dX5_drift_15 : decode cX5_drift 15 = .ok (.istore_n 2, 1) := by decide +kernel
theorem dX5_drift_16 : decode cX5_drift 16 = .ok (.aload_n 0, 1) := by decide +kernel
theorem dX5_drift_17 : decode cX5_drift 17 = .ok (.getfield 12, 3) := by decide +kernel
theorem dX5_drift_20 : decode cX5_drift 20 = .ok (.iload_n 1, 1) := by decide +kernel
theorem dX5_drift_21 : decode cX5_drift 21 = .ok (.putfield 144, 3) := by decide +kernel
theorem dX5_drift_24 : decode cX5_drift 24 = .ok (.iload_n 2, 1) := by decide +kernel
theorem dX5_drift_25 : decode cX5_drift 25 = .ok (.ireturn, 1) := by decide +kernel
set_option maxRecDepth 20000 in
theorem ggX5_endurance_X5_checkArgument : GoodIn wsX5_endurance wsX5_checkArgument := goodIn_ca (goodIn_r _ [7, 8, 9] (by decide +kernel) (by decide +kernel)) (goodIn_sub (fun _ h => List.mem_cons_of_mem _ (List.mem_append_right _ h)) (by decide +kernel))
set_option maxRecDepth 20000 in
theorem gX5_endurance_X5_checkArgument : GoodIn wsX5_endurance (va_wsS RX5 49 yX5_checkArgument wsX5_checkArgument) := goodIn_app (goodIn_of _ (by decide +kernel)) ggX5_endurance_X5_checkArgument
theorem dX5_endurance_0 : decode cX5_endurance 0 = .ok (.iload_n 1, 1) := by decide +kernel
theorem dX5_endurance_1 : decode cX5_endurance 1 = .ok (.iconst 1, 1) := by decide +kernel
theorem dX5_endurance_2 : decode cX5_endurance 2 = .ok (.ldc 147, 2) := by decide +kernel
theorem dX5_endurance_4 : decode cX5_endurance 4 = .ok (.invokestatic 49, 3) := by decide +kernel
theorem dX5_endurance_7 : decode cX5_endurance 7 = .ok (.aload_n 0, 1) := by decide +kernel
theorem dX5_endurance_8 : decode cX5_endurance 8 = .ok (.getfield 12, 3) := by decide +kernel
theorem dX5_endurance_11 : decode cX5_endurance 11 = .ok (.getfield 148, 3) := by decide +kernel
theorem dX5_endurance_14 : decode cX5_endurance 14 = .ok (.istore_n 2, 1) := by decide +kernel
theorem dX5_endurance_15 : decode cX5_endurance 15 = .ok (.aload_n 0, 1) := by decide +kernel
theorem dX5_endurance_16 : decode cX5_endurance 16 = .ok (.getfield 12, 3) := by decide +kernel
theorem dX5_endurance_19 : decode cX5_endurance 19 = .ok (.iload_n 1, 1) := by decide +kernel
theorem dX5_endurance_20 : decode cX5_endurance 20 = .ok (.putfield 148, 3) := by decide +kernel
theorem dX5_endurance_23 : decode cX5_endurance 23 = .ok (.iload_n 2, 1) := by decide +kernel
theorem dX5_endurance_24 : decode cX5_endurance 24 = .ok (.ireturn, 1) := by decide +kernel
set_option maxRecDepth 20000 in
theorem ggX5_pass_X5_checkArgument : GoodIn wsX5_pass wsX5_checkArgument := goodIn_ca (goodIn_r _ [9, 10, 11] (by decide +kernel) (by decide +kernel)) (goodIn_sub (fun _ h => List.mem_cons_of_mem _ (List.mem_append_right _ h)) (by decide +kernel))
set_option maxRecDepth 20000 in
theorem gX5_pass_X5_checkArgument : GoodIn wsX5_pass (va_wsS RX5 49 yX5_checkArgument wsX5_checkArgument) := goodIn_app (goodIn_of _ (by decide +kernel)) ggX5_pass_X5_checkArgument
theorem dX5_pass_0 : decode cX5_pass 0 = .ok (.iload_n 1, 1) := by decide +kernel
theorem dX5_pass_1 : decode cX5_pass 1 = .ok (.iconst 1, 1) := by decide +kernel
theorem dX5_pass_2 : decode cX5_pass 2 = .ok (.sipush 10000, 3) := by decide +kernel
theorem dX5_pass_5 : decode cX5_pass 5 = .ok (.invokestatic 49, 3) := by decide +kernel
theorem dX5_pass_8 : decode cX5_pass 8 = .ok (.aload_n 0, 1) := by decide +kernel
theorem dX5_pass_9 : decode cX5_pass 9 = .ok (.getfield 12, 3) := by decide +kernel
theorem dX5_pass_12 : decode cX5_pass 12 = .ok (.getfield 151, 3) := by decide +kernel
theorem dX5_pass_15 : decode cX5_pass 15 = .ok (.iload_n 1, 1) := by decide +kernel
theorem dX5_pass_16 : decode cX5_pass 16 = .ok (.iadd, 1) := by decide +kernel
theorem dX5_pass_17 : decode cX5_pass 17 = .ok (.ldc 154, 2) := by decide +kernel
theorem dX5_pass_19 : decode cX5_pass 19 = .ok (.if_icmp .le 13, 3) := by decide +kernel
theorem dX5_pass_22 : decode cX5_pass 22 = .ok (.new 53, 3) := by decide +kernel
theorem dX5_pass_25 : decode cX5_pass 25 = .ok (.dup, 1) := by decide +kernel
theorem dX5_pass_26 : decode cX5_pass 26 = .ok (.ldc 155, 2) := by decide +kernel
theorem dX5_pass_28 : decode cX5_pass 28 = .ok (.invokespecial 57, 3) := by decide +kernel
theorem dX5_pass_31 : decode cX5_pass 31 = .ok (.athrow, 1) := by decide +kernel
theorem dX5_pass_32 : decode cX5_pass 32 = .ok (.aload_n 0, 1) := by decide +kernel
theorem dX5_pass_33 : decode cX5_pass 33 = .ok (.getfield 12, 3) := by decide +kernel
theorem dX5_pass_36 : decode cX5_pass 36 = .ok (.dup, 1) := by decide +kernel
theorem dX5_pass_37 : decode cX5_pass 37 = .ok (.getfield 151, 3) := by decide +kernel
theorem dX5_pass_40 : decode cX5_pass 40 = .ok (.iload_n 1, 1) := by decide +kernel
theorem dX5_pass_41 : decode cX5_pass 41 = .ok (.iadd, 1) := by decide +kernel
theorem dX5_pass_42 : decode cX5_pass 42 = .ok (.putfield 151, 3) := by decide +kernel
theorem dX5_pass_45 : decode cX5_pass 45 = .ok (.aload_n 0, 1) := by decide +kernel
theorem dX5_pass_46 : decode cX5_pass 46 = .ok (.getfield 12, 3) := by decide +kernel
theorem dX5_pass_49 : decode cX5_pass 49 = .ok (.getfield 151, 3) := by decide +kernel
theorem dX5_pass_52 : decode cX5_pass 52 = .ok (.ireturn, 1) := by decide +kernel
set_option maxRecDepth 20000 in
theorem ggX5_converter_X5_tileAt : GoodIn wsX5_converter wsX5_tileAt := goodIn_ca (goodIn_r _ [7, 8, 9, 10, 28, 29, 30, 31, 32, 33] (by decide +kernel) (by decide +kernel)) (goodIn_sub (fun _ h => List.mem_cons_of_mem _ (List.mem_append_left _ (List.mem_append_right _ h))) (by decide +kernel))
set_option maxRecDepth 20000 in
theorem gX5_converter_X5_tileAt : GoodIn wsX5_converter (wsV RX5 102 RX5 yX5_tileAt wsX5_tileAt) := goodIn_app (goodIn_of _ (by decide +kernel)) ggX5_converter_X5_tileAt
set_option maxRecDepth 20000 in
theorem ggX5_converter_X5_checkArgument : GoodIn wsX5_converter wsX5_checkArgument := goodIn_ca (goodIn_r _ [13, 14, 15] (by decide +kernel) (by decide +kernel)) (goodIn_sub (fun _ h => List.mem_cons_of_mem _ (List.mem_append_right _ h)) (by decide +kernel))
set_option maxRecDepth 20000 in
theorem gX5_converter_X5_checkArgument : GoodIn wsX5_converter (va_wsS RX5 49 yX5_checkArgument wsX5_checkArgument) := goodIn_app (goodIn_of _ (by decide +kernel)) ggX5_converter_X5_checkArgument
theorem dX5_converter_0 : decode cX5_converter 0 = .ok (.aload_n 0, 1) := by decide +kernel
theorem dX5_converter_1 : decode cX5_converter 1 = .ok (.iload_n 1, 1) := by decide +kernel
theorem dX5_converter_2 : decode cX5_converter 2 = .ok (.invokevirtual 102, 3) := by decide +kernel
theorem dX5_converter_5 : decode cX5_converter 5 = .ok (.astore 4, 2) := by decide +kernel
theorem dX5_converter_7 : decode cX5_converter 7 = .ok (.iload_n 2, 1) := by decide +kernel
theorem dX5_converter_8 : decode cX5_converter 8 = .ok (.iconst 1, 1) := by decide +kernel
theorem dX5_converter_9 : decode cX5_converter 9 = .ok (.bipush 16, 2) := by decide +kernel
theorem dX5_converter_11 : decode cX5_converter 11 = .ok (.invokestatic 49, 3) := by decide +kernel
theorem dX5_converter_14 : decode cX5_converter 14 = .ok (.iload_n 3, 1) := by decide +kernel
theorem dX5_converter_15 : decode cX5_converter 15 = .ok (.iconst 1, 1) := by decide +kernel
theorem dX5_converter_16 : decode cX5_converter 16 = .ok (.bipush 127, 2) := by decide +kernel
theorem dX5_converter_18 : decode cX5_converter 18 = .ok (.invokestatic 49, 3) := by decide +kernel
theorem dX5_converter_21 : decode cX5_converter 21 = .ok (.sipush 1000, 3) := by decide +kernel
theorem dX5_converter_24 : decode cX5_converter 24 = .ok (.aload 4, 2) := by decide +kernel
theorem dX5_converter_26 : decode cX5_converter 26 = .ok (.getfield 157, 3) := by decide +kernel
theorem dX5_converter_29 : decode cX5_converter 29 = .ok (.imul, 1) := by decide +kernel
theorem dX5_converter_30 : decode cX5_converter 30 = .ok (.aload 4, 2) := by decide +kernel
theorem dX5_converter_32 : decode cX5_converter 32 = .ok (.getfield 160, 3) := by decide +kernel
theorem dX5_converter_35 : decode cX5_converter 35 = .ok (.iadd, 1) := by decide +kernel
theorem dX5_converter_36 : decode cX5_converter 36 = .ok (.istore 5, 2) := by decide +kernel
theorem dX5_converter_38 : decode cX5_converter 38 = .ok (.aload 4, 2) := by decide +kernel
theorem dX5_converter_40 : decode cX5_converter 40 = .ok (.iload_n 2, 1) := by decide +kernel
theorem dX5_converter_41 : decode cX5_converter 41 = .ok (.putfield 157, 3) := by decide +kernel
theorem dX5_converter_44 : decode cX5_converter 44 = .ok (.aload 4, 2) := by decide +kernel
theorem dX5_converter_46 : decode cX5_converter 46 = .ok (.iload_n 3, 1) := by decide +kernel
theorem dX5_converter_47 : decode cX5_converter 47 = .ok (.putfield 160, 3) := by decide +kernel
theorem dX5_converter_50 : decode cX5_converter 50 = .ok (.iload 5, 2) := by decide +kernel
theorem dX5_converter_52 : decode cX5_converter 52 = .ok (.ireturn, 1) := by decide +kernel
set_option maxRecDepth 20000 in
theorem ggX5_offset_X5_tileAt : GoodIn wsX5_offset wsX5_tileAt := goodIn_ca (goodIn_r _ [6, 7, 8, 9, 30, 31, 32, 33, 34, 35] (by decide +kernel) (by decide +kernel)) (goodIn_sub (fun _ h => List.mem_cons_of_mem _ (List.mem_append_left _ (List.mem_append_right _ h))) (by decide +kernel))
set_option maxRecDepth 20000 in
theorem gX5_offset_X5_tileAt : GoodIn wsX5_offset (wsV RX5 102 RX5 yX5_tileAt wsX5_tileAt) := goodIn_app (goodIn_of _ (by decide +kernel)) ggX5_offset_X5_tileAt
set_option maxRecDepth 20000 in
theorem ggX5_offset_X5_checkIndex : GoodIn wsX5_offset wsX5_checkIndex := goodIn_ca (goodIn_r _ [12, 7, 8] (by decide +kernel) (by decide +kernel)) (goodIn_sub (fun _ h => List.mem_cons_of_mem _ (List.mem_append_left _ (List.mem_append_right _ h))) (by decide +kernel))
set_option maxRecDepth 20000 in
theorem gX5_offset_X5_checkIndex : GoodIn wsX5_offset (va_wsS RX5 69 yX5_checkIndex wsX5_checkIndex) := goodIn_app (goodIn_of _ (by decide +kernel)) ggX5_offset_X5_checkIndex
set_option maxRecDepth 20000 in
theorem ggX5_offset_X5_checkArgument : GoodIn wsX5_offset wsX5_checkArgument := goodIn_ca (goodIn_r _ [15, 16, 17] (by decide +kernel) (by decide +kernel)) (goodIn_sub (fun _ h => List.mem_cons_of_mem _ (List.mem_append_right _ h)) (by decide +kernel))
set_option maxRecDepth 20000 in
theorem gX5_offset_X5_checkArgument : GoodIn wsX5_offset (va_wsS RX5 49 yX5_checkArgument wsX5_checkArgument) := goodIn_app (goodIn_of _ (by decide +kernel)) ggX5_offset_X5_checkArgument
theorem dX5_offset_0 : decode cX5_offset 0 = .ok (.aload_n 0, 1) := by decide +kernel
theorem dX5_offset_1 : decode cX5_offset 1 = .ok (.iload_n 1, 1) := by decide +kernel
theorem dX5_offset_2 : decode cX5_offset 2 = .ok (.invokevirtual 102, 3) := by decide +kernel
theorem dX5_offset_5 : decode cX5_offset 5 = .ok (.astore 4, 2) := by decide +kernel
theorem dX5_offset_7 : decode cX5_offset 7 = .ok (.iload_n 2, 1) := by decide +kernel
theorem dX5_offset_8 : decode cX5_offset 8 = .ok (.bipush 16, 2) := by decide +kernel
theorem dX5_offset_10 : decode cX5_offset 10 = .ok (.invokestatic 69, 3) := by decide +kernel
theorem dX5_offset_13 : decode cX5_offset 13 = .ok (.iload_n 3, 1) := by decide +kernel
theorem dX5_offset_14 : decode cX5_offset 14 = .ok (.bipush (-3), 2) := by decide +kernel
theorem dX5_offset_16 : decode cX5_offset 16 = .ok (.iconst 3, 1) := by decide +kernel
theorem dX5_offset_17 : decode cX5_offset 17 = .ok (.invokestatic 49, 3) := by decide +kernel
theorem dX5_offset_20 : decode cX5_offset 20 = .ok (.aload 4, 2) := by decide +kernel
theorem dX5_offset_22 : decode cX5_offset 22 = .ok (.getfield 163, 3) := by decide +kernel
theorem dX5_offset_25 : decode cX5_offset 25 = .ok (.iload_n 2, 1) := by decide +kernel
theorem dX5_offset_26 : decode cX5_offset 26 = .ok (.iaload, 1) := by decide +kernel
theorem dX5_offset_27 : decode cX5_offset 27 = .ok (.istore 5, 2) := by decide +kernel
theorem dX5_offset_29 : decode cX5_offset 29 = .ok (.aload 4, 2) := by decide +kernel
theorem dX5_offset_31 : decode cX5_offset 31 = .ok (.getfield 163, 3) := by decide +kernel
theorem dX5_offset_34 : decode cX5_offset 34 = .ok (.iload_n 2, 1) := by decide +kernel
theorem dX5_offset_35 : decode cX5_offset 35 = .ok (.iload_n 3, 1) := by decide +kernel
theorem dX5_offset_36 : decode cX5_offset 36 = .ok (.iastore, 1) := by decide +kernel
theorem dX5_offset_37 : decode cX5_offset 37 = .ok (.iload 5, 2) := by decide +kernel
theorem dX5_offset_39 : decode cX5_offset 39 = .ok (.ireturn, 1) := by decide +kernel
set_option maxRecDepth 20000 in
theorem ggX5_calibrate_X5_tileAt : GoodIn wsX5_calibrate wsX5_tileAt := goodIn_ca (goodIn_r _ [6, 7, 8, 9, 22, 23, 24, 25, 26, 27] (by decide +kernel) (by decide +kernel)) (goodIn_sub (fun _ h => List.mem_cons_of_mem _ (List.mem_append_right _ h)) (by decide +kernel))
set_option maxRecDepth 20000 in
theorem gX5_calibrate_X5_tileAt : GoodIn wsX5_calibrate (wsV RX5 102 RX5 yX5_tileAt wsX5_tileAt) := goodIn_app (goodIn_of _ (by decide +kernel)) ggX5_calibrate_X5_tileAt
theorem dX5_calibrate_0 : decode cX5_calibrate 0 = .ok (.aload_n 0, 1) := by decide +kernel
theorem dX5_calibrate_1 : decode cX5_calibrate 1 = .ok (.iload_n 1, 1) := by decide +kernel
theorem dX5_calibrate_2 : decode cX5_calibrate 2 = .ok (.invokevirtual 102, 3) := by decide +kernel
theorem dX5_calibrate_5 : decode cX5_calibrate 5 = .ok (.astore_n 3, 1) := by decide +kernel
theorem dX5_calibrate_6 : decode cX5_calibrate 6 = .ok (.aload_n 3, 1) := by decide +kernel
theorem dX5_calibrate_7 : decode cX5_calibrate 7 = .ok (.getfield 167, 3) := by decide +kernel
theorem dX5_calibrate_10 : decode cX5_calibrate 10 = .ok (.istore 4, 2) := by decide +kernel
theorem dX5_calibrate_12 : decode cX5_calibrate 12 = .ok (.aload_n 3, 1) := by decide +kernel
theorem dX5_calibrate_13 : decode cX5_calibrate 13 = .ok (.iload_n 2, 1) := by decide +kernel
theorem dX5_calibrate_14 : decode cX5_calibrate 14 = .ok (.putfield 167, 3) := by decide +kernel
theorem dX5_calibrate_17 : decode cX5_calibrate 17 = .ok (.iload 4, 2) := by decide +kernel
theorem dX5_calibrate_19 : decode cX5_calibrate 19 = .ok (.ireturn, 1) := by decide +kernel
set_option maxRecDepth 20000 in
theorem ggX5_converters_X5_tileAt : GoodIn wsX5_converters wsX5_tileAt := goodIn_ca (goodIn_r _ [8, 9, 10, 11, 34, 35, 36, 37, 38, 39] (by decide +kernel) (by decide +kernel)) (goodIn_sub (fun _ h => List.mem_cons_of_mem _ (List.mem_append_right _ h)) (by decide +kernel))
set_option maxRecDepth 20000 in
theorem gX5_converters_X5_tileAt : GoodIn wsX5_converters (wsV RX5 102 RX5 yX5_tileAt wsX5_tileAt) := goodIn_app (goodIn_of _ (by decide +kernel)) ggX5_converters_X5_tileAt
set_option maxRecDepth 20000 in
theorem ggX5_converters_X5_checkArgument : GoodIn wsX5_converters wsX5_checkArgument := goodIn_ca (goodIn_r _ [14, 1, 2] (by decide +kernel) (by decide +kernel)) (goodIn_sub (fun _ h => List.mem_cons_of_mem _ (List.mem_append_left _ (List.mem_append_right _ h))) (by decide +kernel))
set_option maxRecDepth 20000 in
theorem gX5_converters_X5_checkArgument : GoodIn wsX5_converters (va_wsS RX5 49 yX5_checkArgument wsX5_checkArgument) := goodIn_app (goodIn_of _ (by decide +kernel)) ggX5_converters_X5_checkArgument
set_option maxRecDepth 20000 in
theorem ggX5_converters_J6_bitCount_0f7a4 : GoodIn wsX5_converters wsJ6_bitCount_0f7a4 := goodIn_r _ [18, 19, 20, 21] (by decide +kernel) (by decide +kernel)
set_option maxRecDepth 20000 in
theorem gX5_converters_J6_bitCount_0f7a4 : GoodIn wsX5_converters (va_wsS RX5 170 yJ6_bitCount_0f7a4 wsJ6_bitCount_0f7a4) := goodIn_app (goodIn_of _ (by decide +kernel)) ggX5_converters_J6_bitCount_0f7a4
theorem dX5_converters_0 : decode cX5_converters 0 = .ok (.aload_n 0, 1) := by decide +kernel
theorem dX5_converters_1 : decode cX5_converters 1 = .ok (.iload_n 1, 1) := by decide +kernel
theorem dX5_converters_2 : decode cX5_converters 2 = .ok (.invokevirtual 102, 3) := by decide +kernel
theorem dX5_converters_5 : decode cX5_converters 5 = .ok (.astore_n 3, 1) := by decide +kernel
theorem dX5_converters_6 : decode cX5_converters 6 = .ok (.iload_n 2, 1) := by decide +kernel
theorem dX5_converters_7 : decode cX5_converters 7 = .ok (.iconst 1, 1) := by decide +kernel
theorem dX5_converters_8 : decode cX5_converters 8 = .ok (.bipush 16, 2) := by decide +kernel
theorem dX5_converters_10 : decode cX5_converters 10 = .ok (.invokestatic 49, 3) := by decide +kernel
theorem dX5_converters_13 : decode cX5_converters 13 = .ok (.iload_n 2, 1) := by decide +kernel
theorem dX5_converters_14 : decode cX5_converters 14 = .ok (.invokestatic 170, 3) := by decide +kernel
theorem dX5_converters_17 : decode cX5_converters 17 = .ok (.iconst 1, 1) := by decide +kernel
theorem dX5_converters_18 : decode cX5_converters 18 = .ok (.if_icmp .eq 13, 3) := by decide +kernel
theorem dX5_converters_21 : decode cX5_converters 21 = .ok (.new 90, 3) := by decide +kernel
theorem dX5_converters_24 : decode cX5_converters 24 = .ok (.dup, 1) := by decide +kernel
theorem dX5_converters_25 : decode cX5_converters 25 = .ok (.ldc 175, 2) := by decide +kernel
theorem dX5_converters_27 : decode cX5_converters 27 = .ok (.invokespecial 94, 3) := by decide +kernel
theorem dX5_converters_30 : decode cX5_converters 30 = .ok (.athrow, 1) := by decide +kernel
theorem dX5_converters_31 : decode cX5_converters 31 = .ok (.aload_n 3, 1) := by decide +kernel
theorem dX5_converters_32 : decode cX5_converters 32 = .ok (.getfield 177, 3) := by decide +kernel
theorem dX5_converters_35 : decode cX5_converters 35 = .ok (.istore 4, 2) := by decide +kernel
theorem dX5_converters_37 : decode cX5_converters 37 = .ok (.aload_n 3, 1) := by decide +kernel
theorem dX5_converters_38 : decode cX5_converters 38 = .ok (.iload_n 2, 1) := by decide +kernel
theorem dX5_converters_39 : decode cX5_converters 39 = .ok (.putfield 177, 3) := by decide +kernel
theorem dX5_converters_42 : decode cX5_converters 42 = .ok (.iload 4, 2) := by decide +kernel
theorem dX5_converters_44 : decode cX5_converters 44 = .ok (.ireturn, 1) := by decide +kernel
set_option maxRecDepth 20000 in
theorem ggX5_cell_X5_tileAt : GoodIn wsX5_cell wsX5_tileAt := goodIn_ca (goodIn_r _ [10, 11, 12, 13, 48, 49, 50, 51, 52, 53] (by decide +kernel) (by decide +kernel)) (goodIn_sub (fun _ h => List.mem_cons_of_mem _ (List.mem_append_right _ h)) (by decide +kernel))
set_option maxRecDepth 20000 in
theorem gX5_cell_X5_tileAt : GoodIn wsX5_cell (wsV RX5 102 RX5 yX5_tileAt wsX5_tileAt) := goodIn_app (goodIn_of _ (by decide +kernel)) ggX5_cell_X5_tileAt
set_option maxRecDepth 20000 in
theorem ggX5_cell_X5_checkIndex : GoodIn wsX5_cell wsX5_checkIndex := goodIn_ca (goodIn_r _ [16, 11, 12] (by decide +kernel) (by decide +kernel)) (goodIn_sub (fun _ h => List.mem_cons_of_mem _ (List.mem_append_right _ h)) (by decide +kernel))
set_option maxRecDepth 20000 in
theorem gX5_cell_X5_checkIndex : GoodIn wsX5_cell (va_wsS RX5 69 yX5_checkIndex wsX5_checkIndex) := goodIn_app (goodIn_of _ (by decide +kernel)) ggX5_cell_X5_checkIndex
set_option maxRecDepth 20000 in
theorem ggX5_cell_X5_indexOf : GoodIn wsX5_cell wsX5_indexOf := goodIn_r _ [19] (by decide +kernel) (by decide +kernel)
set_option maxRecDepth 20000 in
theorem gX5_cell_X5_indexOf : GoodIn wsX5_cell (va_wsS RX5 180 yX5_indexOf wsX5_indexOf) := goodIn_app (goodIn_of _ (by decide +kernel)) ggX5_cell_X5_indexOf
set_option maxRecDepth 20000 in
theorem ggX5_cell_X4_conducted : GoodIn wsX5_cell wsX4_conducted := goodIn_r _ [24, 25, 26, 27, 28, 29, 30, 31, 32, 33, 18, 9, 19, 34, 35, 54, 55, 56, 36, 37, 38, 39, 40, 41, 42, 43, 44, 45, 46, 47] (by decide +kernel) (by decide +kernel)
set_option maxRecDepth 20000 in
theorem gX5_cell_X4_conducted : GoodIn wsX5_cell (wsV RX5 186 RX4 yX4_conducted wsX4_conducted) := goodIn_app (goodIn_of _ (by decide +kernel)) ggX5_cell_X4_conducted
theorem dX5_cell_0 : decode cX5_cell 0 = .ok (.aload_n 0, 1) := by decide +kernel
theorem dX5_cell_1 : decode cX5_cell 1 = .ok (.iload_n 1, 1) := by decide +kernel
theorem dX5_cell_2 : decode cX5_cell 2 = .ok (.invokevirtual 102, 3) := by decide +kernel
theorem dX5_cell_5 : decode cX5_cell 5 = .ok (.astore 5, 2) := by decide +kernel
theorem dX5_cell_7 : decode cX5_cell 7 = .ok (.iload_n 2, 1) := by decide +kernel
theorem dX5_cell_8 : decode cX5_cell 8 = .ok (.bipush 8, 2) := by decide +kernel
theorem dX5_cell_10 : decode cX5_cell 10 = .ok (.invokestatic 69, 3) := by decide +kernel
theorem dX5_cell_13 : decode cX5_cell 13 = .ok (.iload_n 3, 1) := by decide +kernel
theorem dX5_cell_14 : decode cX5_cell 14 = .ok (.bipush 16, 2) := by decide +kernel
theorem dX5_cell_16 : decode cX5_cell 16 = .ok (.invokestatic 69, 3) := by decide +kernel
theorem dX5_cell_19 : decode cX5_cell 19 = .ok (.iload 4, 2) := by decide +kernel
theorem dX5_cell_21 : decode cX5_cell 21 = .ok (.iconst 5, 1) := by decide +kernel
theorem dX5_cell_22 : decode cX5_cell 22 = .ok (.invokestatic 69, 3) := by decide +kernel
theorem dX5_cell_25 : decode cX5_cell 25 = .ok (.iload_n 2, 1) := by decide +kernel
theorem dX5_cell_26 : decode cX5_cell 26 = .ok (.iload_n 3, 1) := by decide +kernel
theorem dX5_cell_27 : decode cX5_cell 27 = .ok (.invokestatic 180, 3) := by decide +kernel
theorem dX5_cell_30 : decode cX5_cell 30 = .ok (.istore 6, 2) := by decide +kernel
theorem dX5_cell_32 : decode cX5_cell 32 = .ok (.iload 4, 2) := by decide +kernel
theorem dX5_cell_34 : decode cX5_cell 34 = .ok (.tableswitch 77 0 3 #[30, 39, 51, 60], 30) := by decide +kernel
theorem dX5_cell_64 : decode cX5_cell 64 = .ok (.aload 5, 2) := by decide +kernel
theorem dX5_cell_66 : decode cX5_cell 66 = .ok (.getfield 183, 3) := by decide +kernel
theorem dX5_cell_69 : decode cX5_cell 69 = .ok (.iload 6, 2) := by decide +kernel
theorem dX5_cell_71 : decode cX5_cell 71 = .ok (.iaload, 1) := by decide +kernel
theorem dX5_cell_72 : decode cX5_cell 72 = .ok (.ireturn, 1) := by decide +kernel
theorem dX5_cell_73 : decode cX5_cell 73 = .ok (.aload 5, 2) := by decide +kernel
theorem dX5_cell_75 : decode cX5_cell 75 = .ok (.iload_n 2, 1) := by decide +kernel
theorem dX5_cell_76 : decode cX5_cell 76 = .ok (.iload_n 3, 1) := by decide +kernel
theorem dX5_cell_77 : decode cX5_cell 77 = .ok (.aload_n 0, 1) := by decide +kernel
theorem dX5_cell_78 : decode cX5_cell 78 = .ok (.getfield 12, 3) := by decide +kernel
theorem dX5_cell_81 : decode cX5_cell 81 = .ok (.invokevirtual 186, 3) := by decide +kernel
theorem dX5_cell_84 : decode cX5_cell 84 = .ok (.ireturn, 1) := by decide +kernel
theorem dX5_cell_85 : decode cX5_cell 85 = .ok (.aload 5, 2) := by decide +kernel
theorem dX5_cell_87 : decode cX5_cell 87 = .ok (.getfield 190, 3) := by decide +kernel
theorem dX5_cell_90 : decode cX5_cell 90 = .ok (.iload 6, 2) := by decide +kernel
theorem dX5_cell_92 : decode cX5_cell 92 = .ok (.iaload, 1) := by decide +kernel
theorem dX5_cell_93 : decode cX5_cell 93 = .ok (.ireturn, 1) := by decide +kernel
theorem dX5_cell_94 : decode cX5_cell 94 = .ok (.aload 5, 2) := by decide +kernel
theorem dX5_cell_96 : decode cX5_cell 96 = .ok (.getfield 193, 3) := by decide +kernel
theorem dX5_cell_99 : decode cX5_cell 99 = .ok (.iload 6, 2) := by decide +kernel
theorem dX5_cell_101 : decode cX5_cell 101 = .ok (.baload, 1) := by decide +kernel
theorem dX5_cell_102 : decode cX5_cell 102 = .ok (.ifCond .eq 7, 3) := by decide +kernel
theorem dX5_cell_105 : decode cX5_cell 105 = .ok (.iconst 1, 1) := by decide +kernel
theorem dX5_cell_106 : decode cX5_cell 106 = .ok (.goto 4, 3) := by decide +kernel
theorem dX5_cell_109 : decode cX5_cell 109 = .ok (.iconst 0, 1) := by decide +kernel
theorem dX5_cell_110 : decode cX5_cell 110 = .ok (.ireturn, 1) := by decide +kernel
theorem dX5_cell_111 : decode cX5_cell 111 = .ok (.aload 5, 2) := by decide +kernel
theorem dX5_cell_113 : decode cX5_cell 113 = .ok (.getfield 197, 3) := by decide +kernel
theorem dX5_cell_116 : decode cX5_cell 116 = .ok (.iload 6, 2) := by decide +kernel
theorem dX5_cell_118 : decode cX5_cell 118 = .ok (.baload, 1) := by decide +kernel
theorem dX5_cell_119 : decode cX5_cell 119 = .ok (.ifCond .eq 7, 3) := by decide +kernel
theorem dX5_cell_122 : decode cX5_cell 122 = .ok (.iconst 1, 1) := by decide +kernel
theorem dX5_cell_123 : decode cX5_cell 123 = .ok (.goto 4, 3) := by decide +kernel
theorem dX5_cell_126 : decode cX5_cell 126 = .ok (.iconst 0, 1) := by decide +kernel
theorem dX5_cell_127 : decode cX5_cell 127 = .ok (.ireturn, 1) := by decide +kernel
set_option maxRecDepth 20000 in
theorem ggX5_rowOf_X5_layerAt : GoodIn wsX5_rowOf wsX5_layerAt := goodIn_ca (goodIn_r _ [8, 9, 10, 11, 23, 24, 25, 26, 27, 28] (by decide +kernel) (by decide +kernel)) (goodIn_sub (fun _ h => List.mem_cons_of_mem _ (List.mem_append_right _ h)) (by decide +kernel))
set_option maxRecDepth 20000 in
theorem gX5_rowOf_X5_layerAt : GoodIn wsX5_rowOf (wsV RX5 62 RX5 yX5_layerAt wsX5_layerAt) := goodIn_app (goodIn_of _ (by decide +kernel)) ggX5_rowOf_X5_layerAt
set_option maxRecDepth 20000 in
theorem ggX5_rowOf_X5_checkIndex : GoodIn wsX5_rowOf wsX5_checkIndex := goodIn_ca (goodIn_r _ [14, 9, 10] (by decide +kernel) (by decide +kernel)) (goodIn_sub (fun _ h => List.mem_cons_of_mem _ (List.mem_append_right _ h)) (by decide +kernel))
set_option maxRecDepth 20000 in
theorem gX5_rowOf_X5_checkIndex : GoodIn wsX5_rowOf (va_wsS RX5 69 yX5_checkIndex wsX5_checkIndex) := goodIn_app (goodIn_of _ (by decide +kernel)) ggX5_rowOf_X5_checkIndex
theorem dX5_rowOf_0 : decode cX5_rowOf 0 = .ok (.aload_n 0, 1) := by decide +kernel
theorem dX5_rowOf_1 : decode cX5_rowOf 1 = .ok (.iload_n 1, 1) := by decide +kernel
theorem dX5_rowOf_2 : decode cX5_rowOf 2 = .ok (.invokevirtual 62, 3) := by decide +kernel
theorem dX5_rowOf_5 : decode cX5_rowOf 5 = .ok (.astore_n 3, 1) := by decide +kernel
theorem dX5_rowOf_6 : decode cX5_rowOf 6 = .ok (.iload_n 2, 1) := by decide +kernel
theorem dX5_rowOf_7 : decode cX5_rowOf 7 = .ok (.aload_n 3, 1) := by decide +kernel
theorem dX5_rowOf_8 : decode cX5_rowOf 8 = .ok (.getfield 66, 3) := by decide +kernel
theorem dX5_rowOf_11 : decode cX5_rowOf 11 = .ok (.invokestatic 69, 3) := by decide +kernel
theorem dX5_rowOf_14 : decode cX5_rowOf 14 = .ok (.aload_n 3, 1) := by decide +kernel
theorem dX5_rowOf_15 : decode cX5_rowOf 15 = .ok (.getfield 106, 3) := by decide +kernel
theorem dX5_rowOf_18 : decode cX5_rowOf 18 = .ok (.ifnonnull 7, 3) := by decide +kernel
theorem dX5_rowOf_21 : decode cX5_rowOf 21 = .ok (.iconst (-1), 1) := by decide +kernel
theorem dX5_rowOf_22 : decode cX5_rowOf 22 = .ok (.goto 9, 3) := by decide +kernel
theorem dX5_rowOf_25 : decode cX5_rowOf 25 = .ok (.aload_n 3, 1) := by decide +kernel
theorem dX5_rowOf_26 : decode cX5_rowOf 26 = .ok (.getfield 200, 3) := by decide +kernel
theorem dX5_rowOf_29 : decode cX5_rowOf 29 = .ok (.iload_n 2, 1) := by decide +kernel
theorem dX5_rowOf_30 : decode cX5_rowOf 30 = .ok (.iaload, 1) := by decide +kernel
theorem dX5_rowOf_31 : decode cX5_rowOf 31 = .ok (.ireturn, 1) := by decide +kernel
set_option maxRecDepth 20000 in
theorem ggX5_tileOf_X5_layerAt : GoodIn wsX5_tileOf wsX5_layerAt := goodIn_ca (goodIn_r _ [7, 8, 9, 10, 31, 32, 33, 34, 35, 36] (by decide +kernel) (by decide +kernel)) (goodIn_sub (fun _ h => List.mem_cons_of_mem _ (List.mem_append_right _ h)) (by decide +kernel))
set_option maxRecDepth 20000 in
theorem gX5_tileOf_X5_layerAt : GoodIn wsX5_tileOf (wsV RX5 62 RX5 yX5_layerAt wsX5_layerAt) := goodIn_app (goodIn_of _ (by decide +kernel)) ggX5_tileOf_X5_layerAt
theorem dX5_tileOf_0 : decode cX5_tileOf 0 = .ok (.aload_n 0, 1) := by decide +kernel
theorem dX5_tileOf_1 : decode cX5_tileOf 1 = .ok (.iload_n 1, 1) := by decide +kernel
theorem dX5_tileOf_2 : decode cX5_tileOf 2 = .ok (.invokevirtual 62, 3) := by decide +kernel
theorem dX5_tileOf_5 : decode cX5_tileOf 5 = .ok (.astore_n 2, 1) := by decide +kernel
theorem dX5_tileOf_6 : decode cX5_tileOf 6 = .ok (.aload_n 2, 1) := by decide +kernel
theorem dX5_tileOf_7 : decode cX5_tileOf 7 = .ok (.getfield 106, 3) := by decide +kernel
theorem dX5_tileOf_10 : decode cX5_tileOf 10 = .ok (.ifnonnull 7, 3) := by decide +kernel
theorem dX5_tileOf_13 : decode cX5_tileOf 13 = .ok (.iconst (-1), 1) := by decide +kernel
theorem dX5_tileOf_14 : decode cX5_tileOf 14 = .ok (.goto 10, 3) := by decide +kernel
theorem dX5_tileOf_17 : decode cX5_tileOf 17 = .ok (.aload_n 2, 1) := by decide +kernel
theorem dX5_tileOf_18 : decode cX5_tileOf 18 = .ok (.getfield 106, 3) := by decide +kernel
theorem dX5_tileOf_21 : decode cX5_tileOf 21 = .ok (.getfield 132, 3) := by decide +kernel
theorem dX5_tileOf_24 : decode cX5_tileOf 24 = .ok (.ireturn, 1) := by decide +kernel
set_option maxRecDepth 20000 in
theorem ggX5_misfits_X5_layerAt : GoodIn wsX5_misfits wsX5_layerAt := goodIn_ca (goodIn_r _ [7, 8, 9, 10, 75, 76, 77, 78, 79, 80] (by decide +kernel) (by decide +kernel)) (goodIn_sub (fun _ h => List.mem_cons_of_mem _ (List.mem_append_right _ h)) (by decide +kernel))
set_option maxRecDepth 20000 in
theorem gX5_misfits_X5_layerAt : GoodIn wsX5_misfits (wsV RX5 62 RX5 yX5_layerAt wsX5_layerAt) := goodIn_app (goodIn_of _ (by decide +kernel)) ggX5_misfits_X5_layerAt
set_option maxRecDepth 20000 in
theorem ggX5_misfits_X5_tileAt : GoodIn wsX5_misfits wsX5_tileAt := goodIn_ca (goodIn_r _ [14, 8, 9, 15, 75, 76, 77, 78, 79, 80] (by decide +kernel) (by decide +kernel)) (goodIn_sub (fun _ h => List.mem_cons_of_mem _ (List.mem_append_right _ h)) (by decide +kernel))
set_option maxRecDepth 20000 in
theorem gX5_misfits_X5_tileAt : GoodIn wsX5_misfits (wsV RX5 102 RX5 yX5_tileAt wsX5_tileAt) := goodIn_app (goodIn_of _ (by decide +kernel)) ggX5_misfits_X5_tileAt
set_option maxRecDepth 20000 in
theorem ggX5_misfits_X2_weigh : GoodIn wsX5_misfits wsX2_weigh := goodIn_r _ [20, 21, 22, 23, 24, 25, 26, 27, 28, 29, 30, 31, 32, 33, 34, 35, 36, 37, 38, 39, 40, 41, 42, 43, 44, 45, 46, 47, 48, 49, 6, 50, 81, 82, 83, 84, 85, 86, 87, 88, 89, 90, 91, 92, 93, 94, 95, 96, 97, 98, 99, 100, 101, 102] (by decide +kernel) (by decide +kernel)
set_option maxRecDepth 20000 in
theorem gX5_misfits_X2_weigh : GoodIn wsX5_misfits (wsV RX5 116 RX2 yX2_weigh wsX2_weigh) := goodIn_app (goodIn_of _ (by decide +kernel)) ggX5_misfits_X2_weigh
set_option maxRecDepth 20000 in
theorem ggX5_misfits_X2_fewestMisfits : GoodIn wsX5_misfits wsX2_fewestMisfits := goodIn_r _ [54, 55, 56, 57, 58, 59, 60, 61, 62, 63, 64, 65, 19, 66, 67, 68, 69, 70, 71, 72, 73, 74, 22, 89, 90] (by decide +kernel) (by decide +kernel)
set_option maxRecDepth 20000 in
theorem gX5_misfits_X2_fewestMisfits : GoodIn wsX5_misfits (wsV RX5 203 RX2 yX2_fewestMisfits wsX2_fewestMisfits) := goodIn_app (goodIn_of _ (by decide +kernel)) ggX5_misfits_X2_fewestMisfits
theorem dX5_misfits_0 : decode cX5_misfits 0 = .ok (.aload_n 0, 1) := by decide +kernel
theorem dX5_misfits_1 : decode cX5_misfits 1 = .ok (.iload_n 1, 1) := by decide +kernel
theorem dX5_misfits_2 : decode cX5_misfits 2 = .ok (.invokevirtual 62, 3) := by decide +kernel
theorem dX5_misfits_5 : decode cX5_misfits 5 = .ok (.astore_n 3, 1) := by decide +kernel
theorem dX5_misfits_6 : decode cX5_misfits 6 = .ok (.aload_n 0, 1) := by decide +kernel
theorem dX5_misfits_7 : decode cX5_misfits 7 = .ok (.getfield 31, 3) := by decide +kernel
theorem dX5_misfits_10 : decode cX5_misfits 10 = .ok (.aload_n 3, 1) := by decide +kernel
theorem dX5_misfits_11 : decode cX5_misfits 11 = .ok (.aload_n 0, 1) := by decide +kernel
theorem dX5_misfits_12 : decode cX5_misfits 12 = .ok (.iload_n 2, 1) := by decide +kernel
theorem dX5_misfits_13 : decode cX5_misfits 13 = .ok (.invokevirtual 102, 3) := by decide +kernel
theorem dX5_misfits_16 : decode cX5_misfits 16 = .ok (.invokevirtual 116, 3) := by decide +kernel
theorem dX5_misfits_19 : decode cX5_misfits 19 = .ok (.aload_n 0, 1) := by decide +kernel
theorem dX5_misfits_20 : decode cX5_misfits 20 = .ok (.getfield 31, 3) := by decide +kernel
theorem dX5_misfits_23 : decode cX5_misfits 23 = .ok (.aload_n 3, 1) := by decide +kernel
theorem dX5_misfits_24 : decode cX5_misfits 24 = .ok (.getfield 66, 3) := by decide +kernel
theorem dX5_misfits_27 : decode cX5_misfits 27 = .ok (.invokevirtual 203, 3) := by decide +kernel
theorem dX5_misfits_30 : decode cX5_misfits 30 = .ok (.ireturn, 1) := by decide +kernel
set_option maxRecDepth 20000 in
theorem ggX5_misfitsAnew_X5_layerAt : GoodIn wsX5_misfitsAnew wsX5_layerAt := goodIn_ca (goodIn_r _ [9, 10, 11, 12, 73, 74, 75, 76, 77, 78] (by decide +kernel) (by decide +kernel)) (goodIn_sub (fun _ h => List.mem_cons_of_mem _ (List.mem_append_right _ h)) (by decide +kernel))
set_option maxRecDepth 20000 in
theorem gX5_misfitsAnew_X5_layerAt : GoodIn wsX5_misfitsAnew (wsV RX5 62 RX5 yX5_layerAt wsX5_layerAt) := goodIn_app (goodIn_of _ (by decide +kernel)) ggX5_misfitsAnew_X5_layerAt
set_option maxRecDepth 20000 in
theorem ggX5_misfitsAnew_X5_tileAt : GoodIn wsX5_misfitsAnew wsX5_tileAt := goodIn_ca (goodIn_r _ [16, 10, 11, 17, 73, 74, 75, 76, 77, 78] (by decide +kernel) (by decide +kernel)) (goodIn_sub (fun _ h => List.mem_cons_of_mem _ (List.mem_append_right _ h)) (by decide +kernel))
set_option maxRecDepth 20000 in
theorem gX5_misfitsAnew_X5_tileAt : GoodIn wsX5_misfitsAnew (wsV RX5 102 RX5 yX5_tileAt wsX5_tileAt) := goodIn_app (goodIn_of _ (by decide +kernel)) ggX5_misfitsAnew_X5_tileAt
set_option maxRecDepth 20000 in
theorem ggX5_misfitsAnew_X2_weigh : GoodIn wsX5_misfitsAnew wsX2_weigh := goodIn_r _ [22, 23, 24, 25, 26, 27, 28, 29, 30, 31, 32, 33, 34, 35, 36, 37, 38, 39, 40, 41, 42, 43, 44, 45, 46, 47, 48, 49, 50, 51, 8, 52, 65, 66, 67, 68, 69, 70, 71, 72, 79, 80, 81, 82, 83, 84, 85, 86, 87, 88, 89, 90, 91, 92] (by decide +kernel) (by decide +kernel)
set_option maxRecDepth 20000 in
theorem gX5_misfitsAnew_X2_weigh : GoodIn wsX5_misfitsAnew (wsV RX5 116 RX2 yX2_weigh wsX2_weigh) := goodIn_app (goodIn_of _ (by decide +kernel)) ggX5_misfitsAnew_X2_weigh
set_option maxRecDepth 20000 in
theorem ggX5_misfitsAnew_X2_fewestOfAllWays : GoodIn wsX5_misfitsAnew wsX2_fewestOfAllWays := goodIn_r _ [56, 57, 58, 59, 60, 61, 62, 63, 21, 64, 24, 79, 80] (by decide +kernel) (by decide +kernel)
set_option maxRecDepth 20000 in
theorem gX5_misfitsAnew_X2_fewestOfAllWays : GoodIn wsX5_misfitsAnew (wsV RX5 208 RX2 yX2_fewestOfAllWays wsX2_fewestOfAllWays) := goodIn_app (goodIn_of _ (by decide +kernel)) ggX5_misfitsAnew_X2_fewestOfAllWays
theorem dX5_misfitsAnew_0 : decode cX5_misfitsAnew 0 = .ok (.aload_n 0, 1) := by decide +kernel
theorem dX5_misfitsAnew_1 : decode cX5_misfitsAnew 1 = .ok (.iload_n 1, 1) := by decide +kernel
theorem dX5_misfitsAnew_2 : decode cX5_misfitsAnew 2 = .ok (.invokevirtual 62, 3) := by decide +kernel
theorem dX5_misfitsAnew_5 : decode cX5_misfitsAnew 5 = .ok (.astore_n 3, 1) := by decide +kernel
theorem dX5_misfitsAnew_6 : decode cX5_misfitsAnew 6 = .ok (.aload_n 0, 1) := by decide +kernel
theorem dX5_misfitsAnew_7 : decode cX5_misfitsAnew 7 = .ok (.iload_n 2, 1) := by decide +kernel
theorem dX5_misfitsAnew_8 : decode cX5_misfitsAnew 8 = .ok (.invokevirtual 102, 3) := by decide +kernel
theorem dX5_misfitsAnew_11 : decode cX5_misfitsAnew 11 = .ok (.astore 4, 2) := by decide +kernel
theorem dX5_misfitsAnew_13 : decode cX5_misfitsAnew 13 = .ok (.aload_n 3, 1) := by decide +kernel
theorem dX5_misfitsAnew_14 : decode cX5_misfitsAnew 14 = .ok (.getfield 66, 3) := by decide +kernel
theorem dX5_misfitsAnew_17 : decode cX5_misfitsAnew 17 = .ok (.iconst 4, 1) := by decide +kernel
theorem dX5_misfitsAnew_18 : decode cX5_misfitsAnew 18 = .ok (.if_icmp .le 13, 3) := by decide +kernel
theorem dX5_misfitsAnew_21 : decode cX5_misfitsAnew 21 = .ok (.new 53, 3) := by decide +kernel
theorem dX5_misfitsAnew_24 : decode cX5_misfitsAnew 24 = .ok (.dup, 1) := by decide +kernel
theorem dX5_misfitsAnew_25 : decode cX5_misfitsAnew 25 = .ok (.ldc 206, 2) := by decide +kernel
theorem dX5_misfitsAnew_27 : decode cX5_misfitsAnew 27 = .ok (.invokespecial 57, 3) := by decide +kernel
theorem dX5_misfitsAnew_30 : decode cX5_misfitsAnew 30 = .ok (.athrow, 1) := by decide +kernel
theorem dX5_misfitsAnew_31 : decode cX5_misfitsAnew 31 = .ok (.aload_n 0, 1) := by decide +kernel
theorem dX5_misfitsAnew_32 : decode cX5_misfitsAnew 32 = .ok (.getfield 31, 3) := by decide +kernel
theorem dX5_misfitsAnew_35 : decode cX5_misfitsAnew 35 = .ok (.aload_n 3, 1) := by decide +kernel
theorem dX5_misfitsAnew_36 : decode cX5_misfitsAnew 36 = .ok (.aload 4, 2) := by decide +kernel
theorem dX5_misfitsAnew_38 : decode cX5_misfitsAnew 38 = .ok (.invokevirtual 116, 3) := by decide +kernel
theorem dX5_misfitsAnew_41 : decode cX5_misfitsAnew 41 = .ok (.aload_n 0, 1) := by decide +kernel
theorem dX5_misfitsAnew_42 : decode cX5_misfitsAnew 42 = .ok (.getfield 31, 3) := by decide +kernel
theorem dX5_misfitsAnew_45 : decode cX5_misfitsAnew 45 = .ok (.aload_n 3, 1) := by decide +kernel
theorem dX5_misfitsAnew_46 : decode cX5_misfitsAnew 46 = .ok (.getfield 66, 3) := by decide +kernel
theorem dX5_misfitsAnew_49 : decode cX5_misfitsAnew 49 = .ok (.invokevirtual 208, 3) := by decide +kernel
theorem dX5_misfitsAnew_52 : decode cX5_misfitsAnew 52 = .ok (.ireturn, 1) := by decide +kernel
set_option maxRecDepth 20000 in
theorem ggX5_isTrue_X5_layerAt : GoodIn wsX5_isTrue wsX5_layerAt := goodIn_ca (goodIn_r _ [7, 8, 9, 10, 58, 59, 60, 61, 62, 63] (by decide +kernel) (by decide +kernel)) (goodIn_sub (fun _ h => List.mem_cons_of_mem _ (List.mem_append_right _ h)) (by decide +kernel))
set_option maxRecDepth 20000 in
theorem gX5_isTrue_X5_layerAt : GoodIn wsX5_isTrue (wsV RX5 62 RX5 yX5_layerAt wsX5_layerAt) := goodIn_app (goodIn_of _ (by decide +kernel)) ggX5_isTrue_X5_layerAt
set_option maxRecDepth 20000 in
theorem ggX5_isTrue_X0_conductsAsNeeded : GoodIn wsX5_isTrue wsX0_conductsAsNeeded := goodIn_r _ [15, 16, 17, 18, 19, 20, 14, 21, 22, 23, 24, 25, 26, 27, 28, 29, 30, 31, 32, 33, 34, 35, 36, 37, 6, 38, 39, 40, 41, 42, 43, 44, 45, 46, 47, 48, 49, 50, 51, 52, 53, 54, 55, 56, 57, 64, 65, 66, 67, 68, 69, 70, 71, 72, 73, 74, 75, 76, 77, 78] (by decide +kernel) (by decide +kernel)
set_option maxRecDepth 20000 in
theorem gX5_isTrue_X0_conductsAsNeeded : GoodIn wsX5_isTrue (wsV RX5 211 RX0 yX0_conductsAsNeeded wsX0_conductsAsNeeded) := goodIn_app (goodIn_of _ (by decide +kernel)) ggX5_isTrue_X0_conductsAsNeeded
theorem dX5_isTrue_0 : decode cX5_isTrue 0 = .ok (.aload_n 0, 1) := by decide +kernel
theorem dX5_isTrue_1 : decode cX5_isTrue 1 = .ok (.iload_n 1, 1) := by decide +kernel
theorem dX5_isTrue_2 : decode cX5_isTrue 2 = .ok (.invokevirtual 62, 3) := by decide +kernel
theorem dX5_isTrue_5 : decode cX5_isTrue 5 = .ok (.astore_n 2, 1) := by decide +kernel
theorem dX5_isTrue_6 : decode cX5_isTrue 6 = .ok (.aload_n 2, 1) := by decide +kernel
theorem dX5_isTrue_7 : decode cX5_isTrue 7 = .ok (.getfield 106, 3) := by decide +kernel
theorem dX5_isTrue_10 : decode cX5_isTrue 10 = .ok (.ifnull 22, 3) := by decide +kernel
theorem dX5_isTrue_13 : decode cX5_isTrue 13 = .ok (.aload_n 2, 1) := by decide +kernel
theorem dX5_isTrue_14 : decode cX5_isTrue 14 = .ok (.aload_n 2, 1) := by decide +kernel
theorem dX5_isTrue_15 : decode cX5_isTrue 15 = .ok (.getfield 106, 3) := by decide +kernel
theorem dX5_isTrue_18 : decode cX5_isTrue 18 = .ok (.aload_n 0, 1) := by decide +kernel
theorem dX5_isTrue_19 : decode cX5_isTrue 19 = .ok (.getfield 12, 3) := by decide +kernel
theorem dX5_isTrue_22 : decode cX5_isTrue 22 = .ok (.invokevirtual 211, 3) := by decide +kernel
theorem dX5_isTrue_25 : decode cX5_isTrue 25 = .ok (.ifCond .eq 7, 3) := by decide +kernel
theorem dX5_isTrue_28 : decode cX5_isTrue 28 = .ok (.iconst 1, 1) := by decide +kernel
theorem dX5_isTrue_29 : decode cX5_isTrue 29 = .ok (.goto 4, 3) := by decide +kernel
theorem dX5_isTrue_32 : decode cX5_isTrue 32 = .ok (.iconst 0, 1) := by decide +kernel
theorem dX5_isTrue_33 : decode cX5_isTrue 33 = .ok (.ireturn, 1) := by decide +kernel
set_option maxRecDepth 20000 in
theorem ggX5_answer_X5_layerAt : GoodIn wsX5_answer wsX5_layerAt := goodIn_ca (goodIn_r _ [7, 8, 9, 10, 70, 71, 72, 73, 74, 75] (by decide +kernel) (by decide +kernel)) (goodIn_sub (fun _ h => List.mem_cons_of_mem _ (List.mem_append_left _ (List.mem_append_right _ h))) (by decide +kernel))
set_option maxRecDepth 20000 in
theorem gX5_answer_X5_layerAt : GoodIn wsX5_answer (wsV RX5 62 RX5 yX5_layerAt wsX5_layerAt) := goodIn_app (goodIn_of _ (by decide +kernel)) ggX5_answer_X5_layerAt
set_option maxRecDepth 20000 in
theorem ggX5_answer_X5_checkIndex : GoodIn wsX5_answer wsX5_checkIndex := goodIn_ca (goodIn_r _ [13, 8, 9] (by decide +kernel) (by decide +kernel)) (goodIn_sub (fun _ h => List.mem_cons_of_mem _ (List.mem_append_left _ (List.mem_append_right _ h))) (by decide +kernel))
set_option maxRecDepth 20000 in
theorem gX5_answer_X5_checkIndex : GoodIn wsX5_answer (va_wsS RX5 69 yX5_checkIndex wsX5_checkIndex) := goodIn_app (goodIn_of _ (by decide +kernel)) ggX5_answer_X5_checkIndex
set_option maxRecDepth 20000 in
theorem ggX5_answer_X5_groundOf : GoodIn wsX5_answer wsX5_groundOf := goodIn_ca (goodIn_r _ [16, 17, 18, 19, 62, 63, 64, 65, 66, 67, 68, 69] (by decide +kernel) (by decide +kernel)) (goodIn_sub (fun _ h => List.mem_cons_of_mem _ (List.mem_append_right _ h)) (by decide +kernel))
set_option maxRecDepth 20000 in
theorem gX5_answer_X5_groundOf : GoodIn wsX5_answer (va_wsS RX5 128 yX5_groundOf wsX5_groundOf) := goodIn_app (goodIn_of _ (by decide +kernel)) ggX5_answer_X5_groundOf
set_option maxRecDepth 20000 in
theorem ggX5_answer_X0_answerOn : GoodIn wsX5_answer wsX0_answerOn := goodIn_r _ [24, 25, 26, 27, 23, 28, 29, 30, 31, 6, 32, 33, 34, 35, 36, 37, 38, 39, 40, 41, 42, 43, 44, 45, 46, 47, 48, 49, 50, 51, 52, 53, 54, 55, 56, 57, 58, 59, 60, 61, 62, 63, 64, 65, 66, 67, 68, 69, 76, 77, 78, 79, 80, 81, 82, 83, 84, 85, 86, 87, 88, 89, 90] (by decide +kernel) (by decide +kernel)
set_option maxRecDepth 20000 in
theorem gX5_answer_X0_answerOn : GoodIn wsX5_answer (wsV RX5 215 RX0 yX0_answerOn wsX0_answerOn) := goodIn_app (goodIn_of _ (by decide +kernel)) ggX5_answer_X0_answerOn
theorem dX5_answer_0 : decode cX5_answer 0 = .ok (.aload_n 0, 1) := by decide +kernel
theorem dX5_answer_1 : decode cX5_answer 1 = .ok (.iload_n 1, 1) := by decide +kernel
theorem dX5_answer_2 : decode cX5_answer 2 = .ok (.invokevirtual 62, 3) := by decide +kernel
theorem dX5_answer_5 : decode cX5_answer 5 = .ok (.astore 5, 2) := by decide +kernel
theorem dX5_answer_7 : decode cX5_answer 7 = .ok (.iload 4, 2) := by decide +kernel
theorem dX5_answer_9 : decode cX5_answer 9 = .ok (.aload 5, 2) := by decide +kernel
theorem dX5_answer_11 : decode cX5_answer 11 = .ok (.getfield 73, 3) := by decide +kernel
theorem dX5_answer_14 : decode cX5_answer 14 = .ok (.invokestatic 69, 3) := by decide +kernel
theorem dX5_answer_17 : decode cX5_answer 17 = .ok (.aload 5, 2) := by decide +kernel
theorem dX5_answer_19 : decode cX5_answer 19 = .ok (.aload 5, 2) := by decide +kernel
theorem dX5_answer_21 : decode cX5_answer 21 = .ok (.invokestatic 128, 3) := by decide +kernel
theorem dX5_answer_24 : decode cX5_answer 24 = .ok (.lload_n 2, 1) := by decide +kernel
theorem dX5_answer_25 : decode cX5_answer 25 = .ok (.iload 4, 2) := by decide +kernel
theorem dX5_answer_27 : decode cX5_answer 27 = .ok (.aload_n 0, 1) := by decide +kernel
theorem dX5_answer_28 : decode cX5_answer 28 = .ok (.getfield 12, 3) := by decide +kernel
theorem dX5_answer_31 : decode cX5_answer 31 = .ok (.invokevirtual 215, 3) := by decide +kernel
theorem dX5_answer_34 : decode cX5_answer 34 = .ok (.ireturn, 1) := by decide +kernel
set_option maxRecDepth 20000 in
theorem ggX5_ideal_X5_layerAt : GoodIn wsX5_ideal wsX5_layerAt := goodIn_ca (goodIn_r _ [6, 7, 8, 9, 34, 35, 36, 37, 38, 39] (by decide +kernel) (by decide +kernel)) (goodIn_sub (fun _ h => List.mem_cons_of_mem _ (List.mem_append_right _ h)) (by decide +kernel))
set_option maxRecDepth 20000 in
theorem gX5_ideal_X5_layerAt : GoodIn wsX5_ideal (wsV RX5 62 RX5 yX5_layerAt wsX5_layerAt) := goodIn_app (goodIn_of _ (by decide +kernel)) ggX5_ideal_X5_layerAt
set_option maxRecDepth 20000 in
theorem ggX5_ideal_X5_checkIndex : GoodIn wsX5_ideal wsX5_checkIndex := goodIn_ca (goodIn_r _ [12, 7, 8] (by decide +kernel) (by decide +kernel)) (goodIn_sub (fun _ h => List.mem_cons_of_mem _ (List.mem_append_right _ h)) (by decide +kernel))
set_option maxRecDepth 20000 in
theorem gX5_ideal_X5_checkIndex : GoodIn wsX5_ideal (va_wsS RX5 69 yX5_checkIndex wsX5_checkIndex) := goodIn_app (goodIn_of _ (by decide +kernel)) ggX5_ideal_X5_checkIndex
set_option maxRecDepth 20000 in
theorem ggX5_ideal_X0_idealAnswer : GoodIn wsX5_ideal wsX0_idealAnswer := goodIn_r _ [17, 18, 19, 20, 21, 16, 22, 23, 24, 5, 25, 26, 27, 28, 29, 30, 31, 32, 33] (by decide +kernel) (by decide +kernel)
set_option maxRecDepth 20000 in
theorem gX5_ideal_X0_idealAnswer : GoodIn wsX5_ideal (wsV RX5 219 RX0 yX0_idealAnswer wsX0_idealAnswer) := goodIn_app (goodIn_of _ (by decide +kernel)) ggX5_ideal_X0_idealAnswer
theorem dX5_ideal_0 : decode cX5_ideal 0 = .ok (.aload_n 0, 1) := by decide +kernel
theorem dX5_ideal_1 : decode cX5_ideal 1 = .ok (.iload_n 1, 1) := by decide +kernel
theorem dX5_ideal_2 : decode cX5_ideal 2 = .ok (.invokevirtual 62, 3) := by decide +kernel
theorem dX5_ideal_5 : decode cX5_ideal 5 = .ok (.astore 5, 2) := by decide +kernel
theorem dX5_ideal_7 : decode cX5_ideal 7 = .ok (.iload 4, 2) := by decide +kernel
theorem dX5_ideal_9 : decode cX5_ideal 9 = .ok (.aload 5, 2) := by decide +kernel
theorem dX5_ideal_11 : decode cX5_ideal 11 = .ok (.getfield 73, 3) := by decide +kernel
theorem dX5_ideal_14 : decode cX5_ideal 14 = .ok (.invokestatic 69, 3) := by decide +kernel
theorem dX5_ideal_17 : decode cX5_ideal 17 = .ok (.aload 5, 2) := by decide +kernel
theorem dX5_ideal_19 : decode cX5_ideal 19 = .ok (.lload_n 2, 1) := by decide +kernel
theorem dX5_ideal_20 : decode cX5_ideal 20 = .ok (.iload 4, 2) := by decide +kernel
theorem dX5_ideal_22 : decode cX5_ideal 22 = .ok (.invokevirtual 219, 3) := by decide +kernel
theorem dX5_ideal_25 : decode cX5_ideal 25 = .ok (.ireturn, 1) := by decide +kernel
set_option maxRecDepth 20000 in
theorem ggX5_bound_X5_layerAt : GoodIn wsX5_bound wsX5_layerAt := goodIn_ca (goodIn_r _ [6, 7, 8, 9, 72, 73, 74, 75, 76, 77] (by decide +kernel) (by decide +kernel)) (goodIn_sub (fun _ h => List.mem_cons_of_mem _ (List.mem_append_left _ (List.mem_append_right _ h))) (by decide +kernel))
set_option maxRecDepth 20000 in
theorem gX5_bound_X5_layerAt : GoodIn wsX5_bound (wsV RX5 62 RX5 yX5_layerAt wsX5_layerAt) := goodIn_app (goodIn_of _ (by decide +kernel)) ggX5_bound_X5_layerAt
set_option maxRecDepth 20000 in
theorem ggX5_bound_X5_checkIndex : GoodIn wsX5_bound wsX5_checkIndex := goodIn_ca (goodIn_r _ [12, 7, 8] (by decide +kernel) (by decide +kernel)) (goodIn_sub (fun _ h => List.mem_cons_of_mem _ (List.mem_append_left _ (List.mem_append_right _ h))) (by decide +kernel))
set_option maxRecDepth 20000 in
theorem gX5_bound_X5_checkIndex : GoodIn wsX5_bound (va_wsS RX5 69 yX5_checkIndex wsX5_checkIndex) := goodIn_app (goodIn_of _ (by decide +kernel)) ggX5_bound_X5_checkIndex
set_option maxRecDepth 20000 in
theorem ggX5_bound_X5_groundOf : GoodIn wsX5_bound wsX5_groundOf := goodIn_ca (goodIn_r _ [15, 16, 17, 18, 64, 65, 66, 67, 68, 69, 70, 71] (by decide +kernel) (by decide +kernel)) (goodIn_sub (fun _ h => List.mem_cons_of_mem _ (List.mem_append_right _ h)) (by decide +kernel))
set_option maxRecDepth 20000 in
theorem gX5_bound_X5_groundOf : GoodIn wsX5_bound (va_wsS RX5 128 yX5_groundOf wsX5_groundOf) := goodIn_app (goodIn_of _ (by decide +kernel)) ggX5_bound_X5_groundOf
set_option maxRecDepth 20000 in
theorem ggX5_bound_X0_boundOn : GoodIn wsX5_bound wsX0_boundOn := goodIn_r _ [23, 24, 25, 26, 22, 27, 28, 29, 30, 31, 32, 33, 34, 35, 36, 37, 38, 39, 40, 41, 42, 43, 44, 45, 46, 47, 48, 49, 50, 51, 52, 53, 54, 55, 56, 57, 58, 5, 59, 60, 61, 62, 63, 64, 65, 66, 67, 68, 69, 70, 71, 78, 79, 80, 81, 82, 83, 84, 85, 86, 87, 88, 89] (by decide +kernel) (by decide +kernel)
set_option maxRecDepth 20000 in
theorem gX5_bound_X0_boundOn : GoodIn wsX5_bound (wsV RX5 223 RX0 yX0_boundOn wsX0_boundOn) := goodIn_app (goodIn_of _ (by decide +kernel)) ggX5_bound_X0_boundOn
theorem dX5_bound_0 : decode cX5_bound 0 = .ok (.aload_n 0, 1) := by decide +kernel
theorem dX5_bound_1 : decode cX5_bound 1 = .ok (.iload_n 1, 1) := by decide +kernel
theorem dX5_bound_2 : decode cX5_bound 2 = .ok (.invokevirtual 62, 3) := by decide +kernel
theorem dX5_bound_5 : decode cX5_bound 5 = .ok (.astore 4, 2) := by decide +kernel
theorem dX5_bound_7 : decode cX5_bound 7 = .ok (.iload_n 2, 1) := by decide +kernel
theorem dX5_bound_8 : decode cX5_bound 8 = .ok (.aload 4, 2) := by decide +kernel
theorem dX5_bound_10 : decode cX5_bound 10 = .ok (.getfield 73, 3) := by decide +kernel
theorem dX5_bound_13 : decode cX5_bound 13 = .ok (.invokestatic 69, 3) := by decide +kernel
theorem dX5_bound_16 : decode cX5_bound 16 = .ok (.aload 4, 2) := by decide +kernel
theorem dX5_bound_18 : decode cX5_bound 18 = .ok (.aload 4, 2) := by decide +kernel
theorem dX5_bound_20 : decode cX5_bound 20 = .ok (.invokestatic 128, 3) := by decide +kernel
theorem dX5_bound_23 : decode cX5_bound 23 = .ok (.iload_n 2, 1) := by decide +kernel
theorem dX5_bound_24 : decode cX5_bound 24 = .ok (.iload_n 3, 1) := by decide +kernel
theorem dX5_bound_25 : decode cX5_bound 25 = .ok (.invokevirtual 223, 3) := by decide +kernel
theorem dX5_bound_28 : decode cX5_bound 28 = .ok (.ireturn, 1) := by decide +kernel
set_option maxRecDepth 20000 in
theorem ggX5_cycles_X5_layerAt : GoodIn wsX5_cycles wsX5_layerAt := goodIn_ca (goodIn_r _ [6, 7, 8, 9, 58, 59, 60, 61, 62, 63] (by decide +kernel) (by decide +kernel)) (goodIn_sub (fun _ h => List.mem_cons_of_mem _ (List.mem_append_left _ (List.mem_append_left _ (List.mem_append_right _ h)))) (by decide +kernel))
set_option maxRecDepth 20000 in
theorem gX5_cycles_X5_layerAt : GoodIn wsX5_cycles (wsV RX5 62 RX5 yX5_layerAt wsX5_layerAt) := goodIn_app (goodIn_of _ (by decide +kernel)) ggX5_cycles_X5_layerAt
set_option maxRecDepth 20000 in
theorem ggX5_cycles_X5_checkArgument : GoodIn wsX5_cycles wsX5_checkArgument := goodIn_ca (goodIn_r _ [12, 13, 14] (by decide +kernel) (by decide +kernel)) (goodIn_sub (fun _ h => List.mem_cons_of_mem _ (List.mem_append_left _ (List.mem_append_right _ h))) (by decide +kernel))
set_option maxRecDepth 20000 in
theorem gX5_cycles_X5_checkArgument : GoodIn wsX5_cycles (va_wsS RX5 49 yX5_checkArgument wsX5_checkArgument) := goodIn_app (goodIn_of _ (by decide +kernel)) ggX5_cycles_X5_checkArgument
set_option maxRecDepth 20000 in
theorem ggX5_cycles_X5_tellPipeline : GoodIn wsX5_cycles wsX5_tellPipeline := goodIn_ca (goodIn_r _ [18, 1, 19, 20, 21, 22, 23, 24, 25, 26, 27, 5, 28, 29, 30, 31, 32, 33, 34, 35, 36, 37, 38, 39, 40, 41, 42, 43, 44, 45, 46, 47, 48, 49, 58, 59, 60, 61, 62, 63, 64, 65, 66, 67, 68, 69, 70, 71, 72, 73, 74, 75, 76, 77, 78, 79, 80, 81, 82, 83, 84, 85, 86] (by decide +kernel) (by decide +kernel)) (goodIn_sub (fun _ h => List.mem_cons_of_mem _ (List.mem_append_right _ h)) (by decide +kernel))
set_option maxRecDepth 20000 in
theorem gX5_cycles_X5_tellPipeline : GoodIn wsX5_cycles (wsV RX5 231 RX5 yX5_tellPipeline wsX5_tellPipeline) := goodIn_app (goodIn_of _ (by decide +kernel)) ggX5_cycles_X5_tellPipeline
set_option maxRecDepth 20000 in
theorem ggX5_cycles_X1_cyclesReckoned : GoodIn wsX5_cycles wsX1_cyclesReckoned := goodIn_r _ [53, 25, 49, 54, 55, 56, 57, 72, 73, 74] (by decide +kernel) (by decide +kernel)
set_option maxRecDepth 20000 in
theorem gX5_cycles_X1_cyclesReckoned : GoodIn wsX5_cycles (wsV RX5 234 RX1 yX1_cyclesReckoned wsX1_cyclesReckoned) := goodIn_app (goodIn_of _ (by decide +kernel)) ggX5_cycles_X1_cyclesReckoned
theorem dX5_cycles_0 : decode cX5_cycles 0 = .ok (.aload_n 0, 1) := by decide +kernel
theorem dX5_cycles_1 : decode cX5_cycles 1 = .ok (.iload_n 1, 1) := by decide +kernel
theorem dX5_cycles_2 : decode cX5_cycles 2 = .ok (.invokevirtual 62, 3) := by decide +kernel
theorem dX5_cycles_5 : decode cX5_cycles 5 = .ok (.astore_n 3, 1) := by decide +kernel
theorem dX5_cycles_6 : decode cX5_cycles 6 = .ok (.iload_n 2, 1) := by decide +kernel
theorem dX5_cycles_7 : decode cX5_cycles 7 = .ok (.iconst 1, 1) := by decide +kernel
theorem dX5_cycles_8 : decode cX5_cycles 8 = .ok (.sipush 1000, 3) := by decide +kernel
theorem dX5_cycles_11 : decode cX5_cycles 11 = .ok (.invokestatic 49, 3) := by decide +kernel
theorem dX5_cycles_14 : decode cX5_cycles 14 = .ok (.aload_n 0, 1) := by decide +kernel
theorem dX5_cycles_15 : decode cX5_cycles 15 = .ok (.aload_n 3, 1) := by decide +kernel
theorem dX5_cycles_16 : decode cX5_cycles 16 = .ok (.invokevirtual 231, 3) := by decide +kernel
theorem dX5_cycles_19 : decode cX5_cycles 19 = .ok (.aload_n 0, 1) := by decide +kernel
theorem dX5_cycles_20 : decode cX5_cycles 20 = .ok (.getfield 38, 3) := by decide +kernel
theorem dX5_cycles_23 : decode cX5_cycles 23 = .ok (.iload_n 2, 1) := by decide +kernel
theorem dX5_cycles_24 : decode cX5_cycles 24 = .ok (.invokevirtual 234, 3) := by decide +kernel
theorem dX5_cycles_27 : decode cX5_cycles 27 = .ok (.ireturn, 1) := by decide +kernel
set_option maxRecDepth 20000 in
theorem ggX5_cyclesAnew_X5_layerAt : GoodIn wsX5_cyclesAnew wsX5_layerAt := goodIn_ca (goodIn_r _ [6, 7, 8, 9, 64, 65, 66, 67, 68, 69] (by decide +kernel) (by decide +kernel)) (goodIn_sub (fun _ h => List.mem_cons_of_mem _ (List.mem_append_left _ (List.mem_append_left _ (List.mem_append_right _ h)))) (by decide +kernel))
set_option maxRecDepth 20000 in
theorem gX5_cyclesAnew_X5_layerAt : GoodIn wsX5_cyclesAnew (wsV RX5 62 RX5 yX5_layerAt wsX5_layerAt) := goodIn_app (goodIn_of _ (by decide +kernel)) ggX5_cyclesAnew_X5_layerAt
set_option maxRecDepth 20000 in
theorem ggX5_cyclesAnew_X5_checkArgument : GoodIn wsX5_cyclesAnew wsX5_checkArgument := goodIn_ca (goodIn_r _ [12, 13, 14] (by decide +kernel) (by decide +kernel)) (goodIn_sub (fun _ h => List.mem_cons_of_mem _ (List.mem_append_left _ (List.mem_append_right _ h))) (by decide +kernel))
set_option maxRecDepth 20000 in
theorem gX5_cyclesAnew_X5_checkArgument : GoodIn wsX5_cyclesAnew (va_wsS RX5 49 yX5_checkArgument wsX5_checkArgument) := goodIn_app (goodIn_of _ (by decide +kernel)) ggX5_cyclesAnew_X5_checkArgument
set_option maxRecDepth 20000 in
theorem ggX5_cyclesAnew_X5_tellPipeline : GoodIn wsX5_cyclesAnew wsX5_tellPipeline := goodIn_ca (goodIn_r _ [18, 1, 19, 20, 21, 22, 23, 24, 25, 26, 27, 5, 28, 29, 30, 31, 32, 33, 34, 35, 36, 37, 38, 39, 40, 41, 42, 43, 44, 45, 46, 47, 48, 49, 64, 65, 66, 67, 68, 69, 70, 71, 72, 73, 74, 75, 76, 77, 78, 79, 80, 81, 82, 83, 84, 85, 86, 87, 88, 89, 90, 91, 92] (by decide +kernel) (by decide +kernel)) (goodIn_sub (fun _ h => List.mem_cons_of_mem _ (List.mem_append_right _ h)) (by decide +kernel))
set_option maxRecDepth 20000 in
theorem gX5_cyclesAnew_X5_tellPipeline : GoodIn wsX5_cyclesAnew (wsV RX5 231 RX5 yX5_tellPipeline wsX5_tellPipeline) := goodIn_app (goodIn_of _ (by decide +kernel)) ggX5_cyclesAnew_X5_tellPipeline
set_option maxRecDepth 20000 in
theorem ggX5_cyclesAnew_X1_cyclesCounted : GoodIn wsX5_cyclesAnew wsX1_cyclesCounted := goodIn_r _ [53, 25, 54, 55, 49, 56, 57, 58, 23, 59, 60, 61, 62, 63, 78, 79, 80] (by decide +kernel) (by decide +kernel)
set_option maxRecDepth 20000 in
theorem gX5_cyclesAnew_X1_cyclesCounted : GoodIn wsX5_cyclesAnew (wsV RX5 237 RX1 yX1_cyclesCounted wsX1_cyclesCounted) := goodIn_app (goodIn_of _ (by decide +kernel)) ggX5_cyclesAnew_X1_cyclesCounted
theorem dX5_cyclesAnew_0 : decode cX5_cyclesAnew 0 = .ok (.aload_n 0, 1) := by decide +kernel
theorem dX5_cyclesAnew_1 : decode cX5_cyclesAnew 1 = .ok (.iload_n 1, 1) := by decide +kernel
theorem dX5_cyclesAnew_2 : decode cX5_cyclesAnew 2 = .ok (.invokevirtual 62, 3) := by decide +kernel
theorem dX5_cyclesAnew_5 : decode cX5_cyclesAnew 5 = .ok (.astore_n 3, 1) := by decide +kernel
theorem dX5_cyclesAnew_6 : decode cX5_cyclesAnew 6 = .ok (.iload_n 2, 1) := by decide +kernel
theorem dX5_cyclesAnew_7 : decode cX5_cyclesAnew 7 = .ok (.iconst 1, 1) := by decide +kernel
theorem dX5_cyclesAnew_8 : decode cX5_cyclesAnew 8 = .ok (.sipush 1000, 3) := by decide +kernel
theorem dX5_cyclesAnew_11 : decode cX5_cyclesAnew 11 = .ok (.invokestatic 49, 3) := by decide +kernel
theorem dX5_cyclesAnew_14 : decode cX5_cyclesAnew 14 = .ok (.aload_n 0, 1) := by decide +kernel
theorem dX5_cyclesAnew_15 : decode cX5_cyclesAnew 15 = .ok (.aload_n 3, 1) := by decide +kernel
theorem dX5_cyclesAnew_16 : decode cX5_cyclesAnew 16 = .ok (.invokevirtual 231, 3) := by decide +kernel
theorem dX5_cyclesAnew_19 : decode cX5_cyclesAnew 19 = .ok (.aload_n 0, 1) := by decide +kernel
theorem dX5_cyclesAnew_20 : decode cX5_cyclesAnew 20 = .ok (.getfield 38, 3) := by decide +kernel
theorem dX5_cyclesAnew_23 : decode cX5_cyclesAnew 23 = .ok (.iload_n 2, 1) := by decide +kernel
theorem dX5_cyclesAnew_24 : decode cX5_cyclesAnew 24 = .ok (.invokevirtual 237, 3) := by decide +kernel
theorem dX5_cyclesAnew_27 : decode cX5_cyclesAnew 27 = .ok (.ireturn, 1) := by decide +kernel
set_option maxRecDepth 20000 in
theorem ggX5_wear_X5_tileAt : GoodIn wsX5_wear wsX5_tileAt := goodIn_ca (goodIn_r _ [6, 7, 8, 9, 22, 23, 24, 25, 26, 27] (by decide +kernel) (by decide +kernel)) (goodIn_sub (fun _ h => List.mem_cons_of_mem _ (List.mem_append_right _ h)) (by decide +kernel))
set_option maxRecDepth 20000 in
theorem gX5_wear_X5_tileAt : GoodIn wsX5_wear (wsV RX5 102 RX5 yX5_tileAt wsX5_tileAt) := goodIn_app (goodIn_of _ (by decide +kernel)) ggX5_wear_X5_tileAt
theorem dX5_wear_0 : decode cX5_wear 0 = .ok (.aload_n 0, 1) := by decide +kernel
theorem dX5_wear_1 : decode cX5_wear 1 = .ok (.iload_n 1, 1) := by decide +kernel
theorem dX5_wear_2 : decode cX5_wear 2 = .ok (.invokevirtual 102, 3) := by decide +kernel
theorem dX5_wear_5 : decode cX5_wear 5 = .ok (.astore_n 2, 1) := by decide +kernel
theorem dX5_wear_6 : decode cX5_wear 6 = .ok (.lconst 0, 1) := by decide +kernel
theorem dX5_wear_7 : decode cX5_wear 7 = .ok (.lstore_n 3, 1) := by decide +kernel
theorem dX5_wear_8 : decode cX5_wear 8 = .ok (.iconst 0, 1) := by decide +kernel
theorem dX5_wear_9 : decode cX5_wear 9 = .ok (.istore 5, 2) := by decide +kernel
theorem dX5_wear_11 : decode cX5_wear 11 = .ok (.iload 5, 2) := by decide +kernel
theorem dX5_wear_13 : decode cX5_wear 13 = .ok (.sipush 128, 3) := by decide +kernel
theorem dX5_wear_16 : decode cX5_wear 16 = .ok (.if_icmp .ge 20, 3) := by decide +kernel
theorem dX5_wear_19 : decode cX5_wear 19 = .ok (.lload_n 3, 1) := by decide +kernel
theorem dX5_wear_20 : decode cX5_wear 20 = .ok (.aload_n 2, 1) := by decide +kernel
theorem dX5_wear_21 : decode cX5_wear 21 = .ok (.getfield 190, 3) := by decide +kernel
theorem dX5_wear_24 : decode cX5_wear 24 = .ok (.iload 5, 2) := by decide +kernel
theorem dX5_wear_26 : decode cX5_wear 26 = .ok (.iaload, 1) := by decide +kernel
theorem dX5_wear_27 : decode cX5_wear 27 = .ok (.i2l, 1) := by decide +kernel
theorem dX5_wear_28 : decode cX5_wear 28 = .ok (.ladd, 1) := by decide +kernel
theorem dX5_wear_29 : decode cX5_wear 29 = .ok (.lstore_n 3, 1) := by decide +kernel
theorem dX5_wear_30 : decode cX5_wear 30 = .ok (.iinc 5 1, 3) := by decide +kernel
theorem dX5_wear_33 : decode cX5_wear 33 = .ok (.goto (-22), 3) := by decide +kernel
theorem dX5_wear_36 : decode cX5_wear 36 = .ok (.lload_n 3, 1) := by decide +kernel
theorem dX5_wear_37 : decode cX5_wear 37 = .ok (.lreturn, 1) := by decide +kernel
set_option maxRecDepth 20000 in
theorem ggX5_share_X5_tileAt : GoodIn wsX5_share wsX5_tileAt := goodIn_ca (goodIn_r _ [7, 8, 9, 10, 23, 24, 25, 26, 27, 28] (by decide +kernel) (by decide +kernel)) (goodIn_sub (fun _ h => List.mem_cons_of_mem _ (List.mem_append_right _ h)) (by decide +kernel))
set_option maxRecDepth 20000 in
theorem gX5_share_X5_tileAt : GoodIn wsX5_share (wsV RX5 102 RX5 yX5_tileAt wsX5_tileAt) := goodIn_app (goodIn_of _ (by decide +kernel)) ggX5_share_X5_tileAt
theorem dX5_share_0 : decode cX5_share 0 = .ok (.aload_n 0, 1) := by decide +kernel
theorem dX5_share_1 : decode cX5_share 1 = .ok (.iload_n 1, 1) := by decide +kernel
theorem dX5_share_2 : decode cX5_share 2 = .ok (.invokevirtual 102, 3) := by decide +kernel
theorem dX5_share_5 : decode cX5_share 5 = .ok (.astore_n 2, 1) := by decide +kernel
theorem dX5_share_6 : decode cX5_share 6 = .ok (.iconst 0, 1) := by decide +kernel
theorem dX5_share_7 : decode cX5_share 7 = .ok (.istore_n 3, 1) := by decide +kernel
theorem dX5_share_8 : decode cX5_share 8 = .ok (.iconst 0, 1) := by decide +kernel
theorem dX5_share_9 : decode cX5_share 9 = .ok (.istore 4, 2) := by decide +kernel
theorem dX5_share_11 : decode cX5_share 11 = .ok (.iload 4, 2) := by decide +kernel
theorem dX5_share_13 : decode cX5_share 13 = .ok (.sipush 128, 3) := by decide +kernel
theorem dX5_share_16 : decode cX5_share 16 = .ok (.if_icmp .ge 27, 3) := by decide +kernel
theorem dX5_share_19 : decode cX5_share 19 = .ok (.iload_n 3, 1) := by decide +kernel
theorem dX5_share_20 : decode cX5_share 20 = .ok (.aload_n 2, 1) := by decide +kernel
theorem dX5_share_21 : decode cX5_share 21 = .ok (.getfield 193, 3) := by decide +kernel
theorem dX5_share_24 : decode cX5_share 24 = .ok (.iload 4, 2) := by decide +kernel
theorem dX5_share_26 : decode cX5_share 26 = .ok (.baload, 1) := by decide +kernel
theorem dX5_share_27 : decode cX5_share 27 = .ok (.ifCond .eq 7, 3) := by decide +kernel
theorem dX5_share_30 : decode cX5_share 30 = .ok (.iconst 1, 1) := by decide +kernel
theorem dX5_share_31 : decode cX5_share 31 = .ok (.goto 4, 3) := by decide +kernel
theorem dX5_share_34 : decode cX5_share 34 = .ok (.iconst 0, 1) := by decide +kernel
theorem dX5_share_35 : decode cX5_share 35 = .ok (.iadd, 1) := by decide +kernel
theorem dX5_share_36 : decode cX5_share 36 = .ok (.istore_n 3, 1) := by decide +kernel
theorem dX5_share_37 : decode cX5_share 37 = .ok (.iinc 4 1, 3) := by decide +kernel
theorem dX5_share_40 : decode cX5_share 40 = .ok (.goto (-29), 3) := by decide +kernel
theorem dX5_share_43 : decode cX5_share 43 = .ok (.iload_n 3, 1) := by decide +kernel
theorem dX5_share_44 : decode cX5_share 44 = .ok (.i2f, 1) := by decide +kernel
theorem dX5_share_45 : decode cX5_share 45 = .ok (.ldc 240, 2) := by decide +kernel
theorem dX5_share_47 : decode cX5_share 47 = .ok (.fdiv, 1) := by decide +kernel
theorem dX5_share_48 : decode cX5_share 48 = .ok (.freturn, 1) := by decide +kernel
theorem dX5_hour_0 : decode cX5_hour 0 = .ok (.aload_n 0, 1) := by decide +kernel
theorem dX5_hour_1 : decode cX5_hour 1 = .ok (.getfield 12, 3) := by decide +kernel
theorem dX5_hour_4 : decode cX5_hour 4 = .ok (.getfield 151, 3) := by decide +kernel
theorem dX5_hour_7 : decode cX5_hour 7 = .ok (.ireturn, 1) := by decide +kernel
theorem dX5_layerAt_0 : decode cX5_layerAt 0 = .ok (.iload_n 1, 1) := by decide +kernel
theorem dX5_layerAt_1 : decode cX5_layerAt 1 = .ok (.ifCond .lt 18, 3) := by decide +kernel
theorem dX5_layerAt_4 : decode cX5_layerAt 4 = .ok (.iload_n 1, 1) := by decide +kernel
theorem dX5_layerAt_5 : decode cX5_layerAt 5 = .ok (.bipush 6, 2) := by decide +kernel
theorem dX5_layerAt_7 : decode cX5_layerAt 7 = .ok (.if_icmp .ge 12, 3) := by decide +kernel
theorem dX5_layerAt_10 : decode cX5_layerAt 10 = .ok (.aload_n 0, 1) := by decide +kernel
theorem dX5_layerAt_11 : decode cX5_layerAt 11 = .ok (.getfield 24, 3) := by decide +kernel
theorem dX5_layerAt_14 : decode cX5_layerAt 14 = .ok (.iload_n 1, 1) := by decide +kernel
theorem dX5_layerAt_15 : decode cX5_layerAt 15 = .ok (.aaload, 1) := by decide +kernel
theorem dX5_layerAt_16 : decode cX5_layerAt 16 = .ok (.ifnonnull 13, 3) := by decide +kernel
theorem dX5_layerAt_19 : decode cX5_layerAt 19 = .ok (.new 241, 3) := by decide +kernel
theorem dX5_layerAt_22 : decode cX5_layerAt 22 = .ok (.dup, 1) := by decide +kernel
theorem dX5_layerAt_23 : decode cX5_layerAt 23 = .ok (.ldc 243, 2) := by decide +kernel
theorem dX5_layerAt_25 : decode cX5_layerAt 25 = .ok (.invokespecial 245, 3) := by decide +kernel
theorem dX5_layerAt_28 : decode cX5_layerAt 28 = .ok (.athrow, 1) := by decide +kernel
theorem dX5_layerAt_29 : decode cX5_layerAt 29 = .ok (.aload_n 0, 1) := by decide +kernel
theorem dX5_layerAt_30 : decode cX5_layerAt 30 = .ok (.getfield 24, 3) := by decide +kernel
theorem dX5_layerAt_33 : decode cX5_layerAt 33 = .ok (.iload_n 1, 1) := by decide +kernel
theorem dX5_layerAt_34 : decode cX5_layerAt 34 = .ok (.aaload, 1) := by decide +kernel
theorem dX5_layerAt_35 : decode cX5_layerAt 35 = .ok (.areturn, 1) := by decide +kernel
theorem dX5_tileAt_0 : decode cX5_tileAt 0 = .ok (.iload_n 1, 1) := by decide +kernel
theorem dX5_tileAt_1 : decode cX5_tileAt 1 = .ok (.ifCond .lt 9, 3) := by decide +kernel
theorem dX5_tileAt_4 : decode cX5_tileAt 4 = .ok (.iload_n 1, 1) := by decide +kernel
theorem dX5_tileAt_5 : decode cX5_tileAt 5 = .ok (.bipush 6, 2) := by decide +kernel
theorem dX5_tileAt_7 : decode cX5_tileAt 7 = .ok (.if_icmp .lt 13, 3) := by decide +kernel
theorem dX5_tileAt_10 : decode cX5_tileAt 10 = .ok (.new 241, 3) := by decide +kernel
theorem dX5_tileAt_13 : decode cX5_tileAt 13 = .ok (.dup, 1) := by decide +kernel
theorem dX5_tileAt_14 : decode cX5_tileAt 14 = .ok (.ldc 246, 2) := by decide +kernel
theorem dX5_tileAt_16 : decode cX5_tileAt 16 = .ok (.invokespecial 245, 3) := by decide +kernel
theorem dX5_tileAt_19 : decode cX5_tileAt 19 = .ok (.athrow, 1) := by decide +kernel
theorem dX5_tileAt_20 : decode cX5_tileAt 20 = .ok (.aload_n 0, 1) := by decide +kernel
theorem dX5_tileAt_21 : decode cX5_tileAt 21 = .ok (.getfield 18, 3) := by decide +kernel
theorem dX5_tileAt_24 : decode cX5_tileAt 24 = .ok (.iload_n 1, 1) := by decide +kernel
theorem dX5_tileAt_25 : decode cX5_tileAt 25 = .ok (.aaload, 1) := by decide +kernel
theorem dX5_tileAt_26 : decode cX5_tileAt 26 = .ok (.areturn, 1) := by decide +kernel
theorem dX5_groundOf_0 : decode cX5_groundOf 0 = .ok (.aload_n 0, 1) := by decide +kernel
theorem dX5_groundOf_1 : decode cX5_groundOf 1 = .ok (.getfield 106, 3) := by decide +kernel
theorem dX5_groundOf_4 : decode cX5_groundOf 4 = .ok (.ifnonnull 13, 3) := by decide +kernel
theorem dX5_groundOf_7 : decode cX5_groundOf 7 = .ok (.new 53, 3) := by decide +kernel
theorem dX5_groundOf_10 : decode cX5_groundOf 10 = .ok (.dup, 1) := by decide +kernel
theorem dX5_groundOf_11 : decode cX5_groundOf 11 = .ok (.ldc 248, 2) := by decide +kernel
theorem dX5_groundOf_13 : decode cX5_groundOf 13 = .ok (.invokespecial 57, 3) := by decide +kernel
theorem dX5_groundOf_16 : decode cX5_groundOf 16 = .ok (.athrow, 1) := by decide +kernel
theorem dX5_groundOf_17 : decode cX5_groundOf 17 = .ok (.aload_n 0, 1) := by decide +kernel
theorem dX5_groundOf_18 : decode cX5_groundOf 18 = .ok (.getfield 106, 3) := by decide +kernel
theorem dX5_groundOf_21 : decode cX5_groundOf 21 = .ok (.areturn, 1) := by decide +kernel
theorem dX5_checkIndex_0 : decode cX5_checkIndex 0 = .ok (.iload_n 0, 1) := by decide +kernel
theorem dX5_checkIndex_1 : decode cX5_checkIndex 1 = .ok (.ifCond .lt 8, 3) := by decide +kernel
theorem dX5_checkIndex_4 : decode cX5_checkIndex 4 = .ok (.iload_n 0, 1) := by decide +kernel
theorem dX5_checkIndex_5 : decode cX5_checkIndex 5 = .ok (.iload_n 1, 1) := by decide +kernel
theorem dX5_checkIndex_6 : decode cX5_checkIndex 6 = .ok (.if_icmp .lt 13, 3) := by decide +kernel
theorem dX5_checkIndex_9 : decode cX5_checkIndex 9 = .ok (.new 241, 3) := by decide +kernel
theorem dX5_checkIndex_12 : decode cX5_checkIndex 12 = .ok (.dup, 1) := by decide +kernel
theorem dX5_checkIndex_13 : decode cX5_checkIndex 13 = .ok (.ldc 250, 2) := by decide +kernel
theorem dX5_checkIndex_15 : decode cX5_checkIndex 15 = .ok (.invokespecial 245, 3) := by decide +kernel
theorem dX5_checkIndex_18 : decode cX5_checkIndex 18 = .ok (.athrow, 1) := by decide +kernel
theorem dX5_checkIndex_19 : decode cX5_checkIndex 19 = .ok (.return_, 1) := by decide +kernel
theorem dX5_checkArgument_0 : decode cX5_checkArgument 0 = .ok (.iload_n 0, 1) := by decide +kernel
theorem dX5_checkArgument_1 : decode cX5_checkArgument 1 = .ok (.iload_n 1, 1) := by decide +kernel
theorem dX5_checkArgument_2 : decode cX5_checkArgument 2 = .ok (.if_icmp .lt 8, 3) := by decide +kernel
theorem dX5_checkArgument_5 : decode cX5_checkArgument 5 = .ok (.iload_n 0, 1) := by decide +kernel
theorem dX5_checkArgument_6 : decode cX5_checkArgument 6 = .ok (.iload_n 2, 1) := by decide +kernel
theorem dX5_checkArgument_7 : decode cX5_checkArgument 7 = .ok (.if_icmp .le 13, 3) := by decide +kernel
theorem dX5_checkArgument_10 : decode cX5_checkArgument 10 = .ok (.new 90, 3) := by decide +kernel
theorem dX5_checkArgument_13 : decode cX5_checkArgument 13 = .ok (.dup, 1) := by decide +kernel
theorem dX5_checkArgument_14 : decode cX5_checkArgument 14 = .ok (.ldc 252, 2) := by decide +kernel
theorem dX5_checkArgument_16 : decode cX5_checkArgument 16 = .ok (.invokespecial 94, 3) := by decide +kernel
theorem dX5_checkArgument_19 : decode cX5_checkArgument 19 = .ok (.athrow, 1) := by decide +kernel
theorem dX5_checkArgument_20 : decode cX5_checkArgument 20 = .ok (.return_, 1) := by decide +kernel
theorem dX5_indexOf_0 : decode cX5_indexOf 0 = .ok (.iload_n 0, 1) := by decide +kernel
theorem dX5_indexOf_1 : decode cX5_indexOf 1 = .ok (.bipush 16, 2) := by decide +kernel
theorem dX5_indexOf_3 : decode cX5_indexOf 3 = .ok (.imul, 1) := by decide +kernel
theorem dX5_indexOf_4 : decode cX5_indexOf 4 = .ok (.iload_n 1, 1) := by decide +kernel
theorem dX5_indexOf_5 : decode cX5_indexOf 5 = .ok (.iadd, 1) := by decide +kernel
theorem dX5_indexOf_6 : decode cX5_indexOf 6 = .ok (.ireturn, 1) := by decide +kernel
theorem dX5_inputOf_0 : decode cX5_inputOf 0 = .ok (.lload_n 0, 1) := by decide +kernel
theorem dX5_inputOf_1 : decode cX5_inputOf 1 = .ok (.bipush 8, 2) := by decide +kernel
theorem dX5_inputOf_3 : decode cX5_inputOf 3 = .ok (.iload_n 2, 1) := by decide +kernel
theorem dX5_inputOf_4 : decode cX5_inputOf 4 = .ok (.imul, 1) := by decide +kernel
theorem dX5_inputOf_5 : decode cX5_inputOf 5 = .ok (.lshr, 1) := by decide +kernel
theorem dX5_inputOf_6 : decode cX5_inputOf 6 = .ok (.l2i, 1) := by decide +kernel
theorem dX5_inputOf_7 : decode cX5_inputOf 7 = .ok (.sipush 255, 3) := by decide +kernel
theorem dX5_inputOf_10 : decode cX5_inputOf 10 = .ok (.iand, 1) := by decide +kernel
theorem dX5_inputOf_11 : decode cX5_inputOf 11 = .ok (.ireturn, 1) := by decide +kernel
theorem dX5_quotient_0 : decode cX5_quotient 0 = .ok (.iload_n 1, 1) := by decide +kernel
theorem dX5_quotient_1 : decode cX5_quotient 1 = .ok (.iconst 1, 1) := by decide +kernel
theorem dX5_quotient_2 : decode cX5_quotient 2 = .ok (.if_icmp .ge 7, 3) := by decide +kernel
theorem dX5_quotient_5 : decode cX5_quotient 5 = .ok (.iconst 0, 1) := by decide +kernel
theorem dX5_quotient_6 : decode cX5_quotient 6 = .ok (.goto 6, 3) := by decide +kernel
theorem dX5_quotient_9 : decode cX5_quotient 9 = .ok (.iload_n 0, 1) := by decide +kernel
theorem dX5_quotient_10 : decode cX5_quotient 10 = .ok (.iload_n 1, 1) := by decide +kernel
theorem dX5_quotient_11 : decode cX5_quotient 11 = .ok (.idiv, 1) := by decide +kernel
theorem dX5_quotient_12 : decode cX5_quotient 12 = .ok (.ireturn, 1) := by decide +kernel
theorem dX5_drawBehind_0 : decode cX5_drawBehind 0 = .ok (.sipush 25173, 3) := by decide +kernel
theorem dX5_drawBehind_3 : decode cX5_drawBehind 3 = .ok (.iload_n 0, 1) := by decide +kernel
theorem dX5_drawBehind_4 : decode cX5_drawBehind 4 = .ok (.imul, 1) := by decide +kernel
theorem dX5_drawBehind_5 : decode cX5_drawBehind 5 = .ok (.sipush 13849, 3) := by decide +kernel
theorem dX5_drawBehind_8 : decode cX5_drawBehind 8 = .ok (.iadd, 1) := by decide +kernel
theorem dX5_drawBehind_9 : decode cX5_drawBehind 9 = .ok (.ldc 254, 2) := by decide +kernel
theorem dX5_drawBehind_11 : decode cX5_drawBehind 11 = .ok (.irem, 1) := by decide +kernel
theorem dX5_drawBehind_12 : decode cX5_drawBehind 12 = .ok (.ireturn, 1) := by decide +kernel
set_option maxRecDepth 20000 in
theorem ggX5_tellPipeline_X1_clear : GoodIn wsX5_tellPipeline wsX1_clear := goodIn_r _ [7, 8, 48, 49, 50] (by decide +kernel) (by decide +kernel)
set_option maxRecDepth 20000 in
theorem gX5_tellPipeline_X1_clear : GoodIn wsX5_tellPipeline (wsV RX5 263 RX1 yX1_clear wsX1_clear) := goodIn_app (goodIn_of _ (by decide +kernel)) ggX5_tellPipeline_X1_clear
set_option maxRecDepth 20000 in
theorem ggX5_tellPipeline_X5_groundOf : GoodIn wsX5_tellPipeline wsX5_groundOf := goodIn_ca (goodIn_r _ [12, 13, 14, 15, 40, 41, 42, 43, 44, 45, 46, 47] (by decide +kernel) (by decide +kernel)) (goodIn_sub (fun _ h => List.mem_cons_of_mem _ (List.mem_append_right _ h)) (by decide +kernel))
set_option maxRecDepth 20000 in
theorem gX5_tellPipeline_X5_groundOf : GoodIn wsX5_tellPipeline (va_wsS RX5 128 yX5_groundOf wsX5_groundOf) := goodIn_app (goodIn_of _ (by decide +kernel)) ggX5_tellPipeline_X5_groundOf
set_option maxRecDepth 20000 in
theorem ggX5_tellPipeline_X0_cyclesOn : GoodIn wsX5_tellPipeline wsX0_cyclesOn := goodIn_r _ [20, 21, 22, 23, 24, 19, 25, 26, 27, 11, 28, 51, 52, 53, 54, 55, 56, 57, 58, 59, 60, 61, 62, 40, 41, 42, 43, 44, 45, 46, 47] (by decide +kernel) (by decide +kernel)
set_option maxRecDepth 20000 in
theorem gX5_tellPipeline_X0_cyclesOn : GoodIn wsX5_tellPipeline (wsV RX5 266 RX0 yX0_cyclesOn wsX0_cyclesOn) := goodIn_app (goodIn_of _ (by decide +kernel)) ggX5_tellPipeline_X0_cyclesOn
set_option maxRecDepth 20000 in
theorem ggX5_tellPipeline_X1_add : GoodIn wsX5_tellPipeline wsX1_add := goodIn_r _ [32, 8, 33, 48, 49, 50] (by decide +kernel) (by decide +kernel)
set_option maxRecDepth 20000 in
theorem gX5_tellPipeline_X1_add : GoodIn wsX5_tellPipeline (wsV RX5 270 RX1 yX1_add wsX1_add) := goodIn_app (goodIn_of _ (by decide +kernel)) ggX5_tellPipeline_X1_add
theorem dX5_tellPipeline_0 : decode cX5_tellPipeline 0 = .ok (.aload_n 0, 1) := by decide +kernel
theorem dX5_tellPipeline_1 : decode cX5_tellPipeline 1 = .ok (.getfield 38, 3) := by decide +kernel
theorem dX5_tellPipeline_4 : decode cX5_tellPipeline 4 = .ok (.invokevirtual 263, 3) := by decide +kernel
theorem dX5_tellPipeline_7 : decode cX5_tellPipeline 7 = .ok (.aload_n 1, 1) := by decide +kernel
theorem dX5_tellPipeline_8 : decode cX5_tellPipeline 8 = .ok (.astore_n 2, 1) := by decide +kernel
theorem dX5_tellPipeline_9 : decode cX5_tellPipeline 9 = .ok (.aload_n 2, 1) := by decide +kernel
theorem dX5_tellPipeline_10 : decode cX5_tellPipeline 10 = .ok (.ifnull 26, 3) := by decide +kernel
theorem dX5_tellPipeline_13 : decode cX5_tellPipeline 13 = .ok (.aload_n 0, 1) := by decide +kernel
theorem dX5_tellPipeline_14 : decode cX5_tellPipeline 14 = .ok (.getfield 38, 3) := by decide +kernel
theorem dX5_tellPipeline_17 : decode cX5_tellPipeline 17 = .ok (.aload_n 2, 1) := by decide +kernel
theorem dX5_tellPipeline_18 : decode cX5_tellPipeline 18 = .ok (.aload_n 2, 1) := by decide +kernel
theorem dX5_tellPipeline_19 : decode cX5_tellPipeline 19 = .ok (.invokestatic 128, 3) := by decide +kernel
theorem dX5_tellPipeline_22 : decode cX5_tellPipeline 22 = .ok (.invokevirtual 266, 3) := by decide +kernel
theorem dX5_tellPipeline_25 : decode cX5_tellPipeline 25 = .ok (.invokevirtual 270, 3) := by decide +kernel
theorem dX5_tellPipeline_28 : decode cX5_tellPipeline 28 = .ok (.aload_n 2, 1) := by decide +kernel
theorem dX5_tellPipeline_29 : decode cX5_tellPipeline 29 = .ok (.getfield 95, 3) := by decide +kernel
theorem dX5_tellPipeline_32 : decode cX5_tellPipeline 32 = .ok (.astore_n 2, 1) := by decide +kernel
theorem dX5_tellPipeline_33 : decode cX5_tellPipeline 33 = .ok (.goto (-24), 3) := by decide +kernel
theorem dX5_tellPipeline_36 : decode cX5_tellPipeline 36 = .ok (.return_, 1) := by decide +kernel
theorem dJ6_bitCount_0f7a4_0 : decode cJ6_bitCount_0f7a4 0 = .ok (.iload_n 0, 1) := by decide +kernel
theorem dJ6_bitCount_0f7a4_1 : decode cJ6_bitCount_0f7a4 1 = .ok (.iload_n 0, 1) := by decide +kernel
theorem dJ6_bitCount_0f7a4_2 : decode cJ6_bitCount_0f7a4 2 = .ok (.iconst 1, 1) := by decide +kernel
theorem dJ6_bitCount_0f7a4_3 : decode cJ6_bitCount_0f7a4 3 = .ok (.iushr, 1) := by decide +kernel
theorem dJ6_bitCount_0f7a4_4 : decode cJ6_bitCount_0f7a4 4 = .ok (.ldc_w 265, 3) := by decide +kernel
theorem dJ6_bitCount_0f7a4_7 : decode cJ6_bitCount_0f7a4 7 = .ok (.iand, 1) := by decide +kernel
theorem dJ6_bitCount_0f7a4_8 : decode cJ6_bitCount_0f7a4 8 = .ok (.isub, 1) := by decide +kernel
theorem dJ6_bitCount_0f7a4_9 : decode cJ6_bitCount_0f7a4 9 = .ok (.istore_n 0, 1) := by decide +kernel
theorem dJ6_bitCount_0f7a4_10 : decode cJ6_bitCount_0f7a4 10 = .ok (.iload_n 0, 1) := by decide +kernel
theorem dJ6_bitCount_0f7a4_11 : decode cJ6_bitCount_0f7a4 11 = .ok (.ldc_w 266, 3) := by decide +kernel
theorem dJ6_bitCount_0f7a4_14 : decode cJ6_bitCount_0f7a4 14 = .ok (.iand, 1) := by decide +kernel
theorem dJ6_bitCount_0f7a4_15 : decode cJ6_bitCount_0f7a4 15 = .ok (.iload_n 0, 1) := by decide +kernel
theorem dJ6_bitCount_0f7a4_16 : decode cJ6_bitCount_0f7a4 16 = .ok (.iconst 2, 1) := by decide +kernel
theorem dJ6_bitCount_0f7a4_17 : decode cJ6_bitCount_0f7a4 17 = .ok (.iushr, 1) := by decide +kernel
theorem dJ6_bitCount_0f7a4_18 : decode cJ6_bitCount_0f7a4 18 = .ok (.ldc_w 266, 3) := by decide +kernel
theorem dJ6_bitCount_0f7a4_21 : decode cJ6_bitCount_0f7a4 21 = .ok (.iand, 1) := by decide +kernel
theorem dJ6_bitCount_0f7a4_22 : decode cJ6_bitCount_0f7a4 22 = .ok (.iadd, 1) := by decide +kernel
theorem dJ6_bitCount_0f7a4_23 : decode cJ6_bitCount_0f7a4 23 = .ok (.istore_n 0, 1) := by decide +kernel
theorem dJ6_bitCount_0f7a4_24 : decode cJ6_bitCount_0f7a4 24 = .ok (.iload_n 0, 1) := by decide +kernel
theorem dJ6_bitCount_0f7a4_25 : decode cJ6_bitCount_0f7a4 25 = .ok (.iload_n 0, 1) := by decide +kernel
theorem dJ6_bitCount_0f7a4_26 : decode cJ6_bitCount_0f7a4 26 = .ok (.iconst 4, 1) := by decide +kernel
theorem dJ6_bitCount_0f7a4_27 : decode cJ6_bitCount_0f7a4 27 = .ok (.iushr, 1) := by decide +kernel
theorem dJ6_bitCount_0f7a4_28 : decode cJ6_bitCount_0f7a4 28 = .ok (.iadd, 1) := by decide +kernel
theorem dJ6_bitCount_0f7a4_29 : decode cJ6_bitCount_0f7a4 29 = .ok (.ldc_w 267, 3) := by decide +kernel
theorem dJ6_bitCount_0f7a4_32 : decode cJ6_bitCount_0f7a4 32 = .ok (.iand, 1) := by decide +kernel
theorem dJ6_bitCount_0f7a4_33 : decode cJ6_bitCount_0f7a4 33 = .ok (.istore_n 0, 1) := by decide +kernel
theorem dJ6_bitCount_0f7a4_34 : decode cJ6_bitCount_0f7a4 34 = .ok (.iload_n 0, 1) := by decide +kernel
theorem dJ6_bitCount_0f7a4_35 : decode cJ6_bitCount_0f7a4 35 = .ok (.iload_n 0, 1) := by decide +kernel
theorem dJ6_bitCount_0f7a4_36 : decode cJ6_bitCount_0f7a4 36 = .ok (.bipush 8, 2) := by decide +kernel
theorem dJ6_bitCount_0f7a4_38 : decode cJ6_bitCount_0f7a4 38 = .ok (.iushr, 1) := by decide +kernel
theorem dJ6_bitCount_0f7a4_39 : decode cJ6_bitCount_0f7a4 39 = .ok (.iadd, 1) := by decide +kernel
theorem dJ6_bitCount_0f7a4_40 : decode cJ6_bitCount_0f7a4 40 = .ok (.istore_n 0, 1) := by decide +kernel
theorem dJ6_bitCount_0f7a4_41 : decode cJ6_bitCount_0f7a4 41 = .ok (.iload_n 0, 1) := by decide +kernel
theorem dJ6_bitCount_0f7a4_42 : decode cJ6_bitCount_0f7a4 42 = .ok (.iload_n 0, 1) := by decide +kernel
theorem dJ6_bitCount_0f7a4_43 : decode cJ6_bitCount_0f7a4 43 = .ok (.bipush 16, 2) := by decide +kernel
theorem dJ6_bitCount_0f7a4_45 : decode cJ6_bitCount_0f7a4 45 = .ok (.iushr, 1) := by decide +kernel
theorem dJ6_bitCount_0f7a4_46 : decode cJ6_bitCount_0f7a4 46 = .ok (.iadd, 1) := by decide +kernel
theorem dJ6_bitCount_0f7a4_47 : decode cJ6_bitCount_0f7a4 47 = .ok (.istore_n 0, 1) := by decide +kernel
theorem dJ6_bitCount_0f7a4_48 : decode cJ6_bitCount_0f7a4 48 = .ok (.iload_n 0, 1) := by decide +kernel
theorem dJ6_bitCount_0f7a4_49 : decode cJ6_bitCount_0f7a4 49 = .ok (.bipush 63, 2) := by decide +kernel
theorem dJ6_bitCount_0f7a4_51 : decode cJ6_bitCount_0f7a4 51 = .ok (.iand, 1) := by decide +kernel
theorem dJ6_bitCount_0f7a4_52 : decode cJ6_bitCount_0f7a4 52 = .ok (.ireturn, 1) := by decide +kernel
theorem dJ9_max_7cf53_0 : decode cJ9_max_7cf53 0 = .ok (.iload_n 0, 1) := by decide +kernel
theorem dJ9_max_7cf53_1 : decode cJ9_max_7cf53 1 = .ok (.iload_n 1, 1) := by decide +kernel
theorem dJ9_max_7cf53_2 : decode cJ9_max_7cf53 2 = .ok (.if_icmp .lt 7, 3) := by decide +kernel
theorem dJ9_max_7cf53_5 : decode cJ9_max_7cf53 5 = .ok (.iload_n 0, 1) := by decide +kernel
theorem dJ9_max_7cf53_6 : decode cJ9_max_7cf53 6 = .ok (.goto 4, 3) := by decide +kernel
theorem dJ9_max_7cf53_9 : decode cJ9_max_7cf53 9 = .ok (.iload_n 1, 1) := by decide +kernel
theorem dJ9_max_7cf53_10 : decode cJ9_max_7cf53 10 = .ok (.ireturn, 1) := by decide +kernel
theorem dJ9_min_7cf53_0 : decode cJ9_min_7cf53 0 = .ok (.iload_n 0, 1) := by decide +kernel
theorem dJ9_min_7cf53_1 : decode cJ9_min_7cf53 1 = .ok (.iload_n 1, 1) := by decide +kernel
theorem dJ9_min_7cf53_2 : decode cJ9_min_7cf53 2 = .ok (.if_icmp .gt 7, 3) := by decide +kernel
theorem dJ9_min_7cf53_5 : decode cJ9_min_7cf53 5 = .ok (.iload_n 0, 1) := by decide +kernel
theorem dJ9_min_7cf53_6 : decode cJ9_min_7cf53 6 = .ok (.goto 4, 3) := by decide +kernel
theorem dJ9_min_7cf53_9 : decode cJ9_min_7cf53 9 = .ok (.iload_n 1, 1) := by decide +kernel
theorem dJ9_min_7cf53_10 : decode cJ9_min_7cf53 10 = .ok (.ireturn, 1) := by decide +kernel
